abbrev rm_X7_takePart : Room := { frames := 3, cells := 0, slots := 0, locals := 65 }
theorem yd_X7_takePart : yX7_takePart.cls = RX7 ∧ yX7_takePart.cls ≠ "java/lang/invoke/MethodHandle" ∧ yX7_takePart.cls ≠ "java/lang/invoke/VarHandle" ∧ (parseMethodDescriptor yX7_takePart.desc).map (fun d => d.parameters.length) = some 4 := by decide +kernel
set_option maxHeartbeats 4000000 in
set_option maxRecDepth 100000 in
theorem kt_X7_takePart_no (l : Launch) (D : va_G) (C : Nat → ClassId) (K : Nat → Nat) (hAp : RAp K) (F : Nat → Int32) (hs mv : Nat → Bool) (G : Nat → Nat → Int32) (x0 : Int32) (x1 : Int32) (x2 : Int32) (x3 : Int32) (a : Int) (b : Int) (d : Int) (g : Int) (h_a : x0.toInt = a) (h_b : x1.toInt = b) (h_d : x2.toInt = d) (h_g : x3.toInt = g) (hno : ¬ (((0 ≤ a ∧ a < 8) ∧ 0 ≤ b ∧ b < 8) ∧ 0 ≤ d ∧ d ≤ g)) : RMi l yX7_takePart wsX7_takePart rm_X7_takePart D C K [.int x0, .int x1, .int x2, .int x3] F hs mv G (fun (r : Int32) (u : MSt) => (¬ ((0 ≤ a ∧ a < 8) ∧ 0 ≤ b ∧ b < 8) → r = (nI 0) ∧ u = (upd F 0 (nI 1), hs, mv, G)) ∧ (((0 ≤ a ∧ a < 8) ∧ 0 ≤ b ∧ b < 8) ∧ ¬ (0 ≤ d ∧ d ≤ g) → r = (nI 0) ∧ u = (upd (upd F 0 (nI 2)) 2 (F 2 + 1), hs, mv, G))) := by
  refine RMi_of (lv := [(0, .ref (K 0)), (1, .int x0), (2, .int x1), (3, .int x2), (4, .int x3)]) (cc := cX7_takePart) (maxL := 6) (ret := (some .int)) rfl rfl (by decide +kernel) (Nat.le_of_ble_eq_true rfl) rfl ?_
  intro p e s m args below meth c X hml hr hlk
  generalize hQ : MQ below _ args s 0 0 _ = Q
  refine zz_aload_n 0 X.1 0 dX7_takePart_0 rfl ?_
  refine zz_iconst 1 X.1 (v := nI 0) dX7_takePart_1 rfl ?_
  refine rr_put 2 hAp X 0 (by decide) (F' := upd F 0 (nI 0)) rfl (by decide +kernel) ⟨rfl, rfl⟩ (by decide +kernel) dX7_takePart_2 ?_
  refine zz_aload_n 5 X.1 0 dX7_takePart_5 rfl ?_
  refine zz_iload_n 6 X.1 1 dX7_takePart_6 rfl ?_
  refine zz_iload_n 7 X.1 2 dX7_takePart_7 rfl ?_
  refine rr_callVi 8 X hml (As := [.int x0, .int x1]) (kt_X7_noSets l D C K hAp (upd F 0 (nI 0)) hs mv G x0 x1 a b (h_a) (h_b) (by first | rfl | assumption | omega)) gX7_takePart_X7_noSets rfl ⟨rfl, rfl⟩ yd_X7_noSets ⟨Nat.le_of_ble_eq_true rfl, Nat.le_of_ble_eq_true rfl⟩ rfl rfl (Nat.le_of_ble_eq_true rfl) dX7_takePart_8 ?_
  rintro r1 ⟨F1, hs1, mv1, G1⟩ hu1
  rcases (show ((0 ≤ a ∧ a < 8) ∧ 0 ≤ b ∧ b < 8) ∨ (¬ ((0 ≤ a ∧ a < 8) ∧ 0 ≤ b ∧ b < 8)) by omega) with hc1 | hc1
  · skip
    obtain ⟨rfl, hv1⟩ := (hu1.1 hc1)
    cases hv1
    refine zz_world (P' := (RP D C K (upd F 0 (nI 0)) hs mv G)) (fun _ h => h) ?_
    refine zz_ifB_ne 11 24 X.1 dX7_takePart_11 (by decide) (fun h11 => ?_) (fun h11 => ?_)
    · exact absurd h11 (by decide)
    · skip
      refine zz_aload_n 14 X.1 0 dX7_takePart_14 rfl ?_
      refine zz_iload_n 15 X.1 3 dX7_takePart_15 rfl ?_
      refine zz_iload 16 X.1 4 dX7_takePart_16 rfl ?_
      refine rr_callVi 18 X hml (As := [.int x2, .int x3]) (kt_X7_noRange l D C K hAp (upd F 0 (nI 0)) hs mv G x2 x3 d g (h_d) (h_g) (by first | rfl | assumption | omega)) gX7_takePart_X7_noRange rfl ⟨rfl, rfl⟩ yd_X7_noRange ⟨Nat.le_of_ble_eq_true rfl, Nat.le_of_ble_eq_true rfl⟩ rfl rfl (Nat.le_of_ble_eq_true rfl) dX7_takePart_18 ?_
      rintro r2 ⟨F2, hs2, mv2, G2⟩ hu2
      rcases (show (0 ≤ d ∧ d ≤ g) ∨ (¬ (0 ≤ d ∧ d ≤ g)) by omega) with hc2 | hc2
      · exfalso; omega
      · skip
        obtain ⟨rfl, hv2⟩ := (hu2.2 hc2)
        cases hv2
        refine zz_world (P' := (RP D C K (upd (upd F 0 (nI 2)) 2 ((F 2) + 1)) hs mv G)) (fun _ h => h) ?_
        refine zz_ifB_eq 21 26 X.1 dX7_takePart_21 (by decide) (fun h21 => ?_) (fun h21 => ?_)
        · exact absurd h21 (by decide)
        · skip
          refine zz_iconst 24 X.1 (v := nI 0) dX7_takePart_24 rfl ?_
          rw [← hQ]
          refine zz_iret 25 X.1 hr rfl hlk (upd (upd F 0 (nI 2)) 2 ((F 2) + 1), hs, mv, G) ?_ (fun _ h _ => h) dX7_takePart_25
          refine ⟨fun hc => ?_, fun hc => ?_⟩ <;> first | (exact ⟨rfl, rfl⟩) | (exact rfl) | (exfalso; omega)
  · skip
    obtain ⟨rfl, hv1⟩ := (hu1.2 hc1)
    cases hv1
    refine zz_world (P' := (RP D C K (upd F 0 (nI 1)) hs mv G)) (fun _ h => h) ?_
    refine zz_ifB_ne 11 24 X.1 dX7_takePart_11 (by decide) (fun h11 => ?_) (fun h11 => ?_)
    · skip
      refine zz_iconst 24 X.1 (v := nI 0) dX7_takePart_24 rfl ?_
      rw [← hQ]
      refine zz_iret 25 X.1 hr rfl hlk (upd F 0 (nI 1), hs, mv, G) ?_ (fun _ h _ => h) dX7_takePart_25
      refine ⟨fun hc => ?_, fun hc => ?_⟩ <;> first | (exact ⟨rfl, rfl⟩) | (exact rfl) | (exfalso; omega)
    · exact absurd h11 (by decide)

set_option maxHeartbeats 4000000 in
set_option maxRecDepth 100000 in
theorem kt_X7_takePart_ok (l : Launch) (D : va_G) (C : Nat → ClassId) (K : Nat → Nat) (hAp : RAp K) (F : Nat → Int32) (hs mv : Nat → Bool) (G : Nat → Nat → Int32) (s0 : Nat) (o0 : Nat) (f : Nat) (t : Nat) (hs0 : s0 < 8) (ho0 : o0 < 8) (hft : f ≤ t ∧ t < 2 ^ 31) : RMi l yX7_takePart wsX7_takePart rm_X7_takePart D C K [.int (nI s0), .int (nI o0), .int (nI f), .int (nI t)] F hs mv G (fun (r : Int32) (u : MSt) => r = (nI (ct (pT (hM hs o0) f t) 1024)) ∧ u = (upd F 0 (nI 0), sS hs s0 (pT (hM hs o0) f t), mF mv (pT (hM hs o0) f t) 1024, G)) := by
  refine RMi_of (lv := [(0, .ref (K 0)), (1, .int (nI s0)), (2, .int (nI o0)), (3, .int (nI f)), (4, .int (nI t))]) (cc := cX7_takePart) (maxL := 6) (ret := (some .int)) rfl rfl (by decide +kernel) (Nat.le_of_ble_eq_true rfl) rfl ?_
  intro p e s m args below meth c X hml hr hlk
  generalize hQ : MQ below _ args s 0 0 _ = Q
  refine zz_aload_n 0 X.1 0 dX7_takePart_0 rfl ?_
  refine zz_iconst 1 X.1 (v := nI 0) dX7_takePart_1 rfl ?_
  refine rr_put 2 hAp X 0 (by decide) (F' := upd F 0 (nI 0)) rfl (by decide +kernel) ⟨rfl, rfl⟩ (by decide +kernel) dX7_takePart_2 ?_
  refine zz_aload_n 5 X.1 0 dX7_takePart_5 rfl ?_
  refine zz_iload_n 6 X.1 1 dX7_takePart_6 rfl ?_
  refine zz_iload_n 7 X.1 2 dX7_takePart_7 rfl ?_
  refine rr_callVi 8 X hml (As := [.int (nI s0), .int (nI o0)]) (kt_X7_noSets l D C K hAp (upd F 0 (nI 0)) hs mv G (nI s0) (nI o0) ((s0 : Nat) : Int) ((o0 : Nat) : Int) (nI_toInt (by omega)) (nI_toInt (by omega)) (by first | rfl | assumption | omega)) gX7_takePart_X7_noSets rfl ⟨rfl, rfl⟩ yd_X7_noSets ⟨Nat.le_of_ble_eq_true rfl, Nat.le_of_ble_eq_true rfl⟩ rfl rfl (Nat.le_of_ble_eq_true rfl) dX7_takePart_8 ?_
  rintro r1 ⟨F1, hs1, mv1, G1⟩ hu1
  obtain ⟨rfl, hv1⟩ := (hu1.1 (by omega))
  cases hv1
  refine zz_world (P' := (RP D C K (upd F 0 (nI 0)) hs mv G)) (fun _ h => h) ?_
  refine zz_ifB_ne 11 24 X.1 dX7_takePart_11 (by decide) (fun h11 => ?_) (fun h11 => ?_)
  · exact absurd h11 (by decide)
  · skip
    refine zz_aload_n 14 X.1 0 dX7_takePart_14 rfl ?_
    refine zz_iload_n 15 X.1 3 dX7_takePart_15 rfl ?_
    refine zz_iload 16 X.1 4 dX7_takePart_16 rfl ?_
    refine rr_callVi 18 X hml (As := [.int (nI f), .int (nI t)]) (kt_X7_noRange l D C K hAp (upd F 0 (nI 0)) hs mv G (nI f) (nI t) ((f : Nat) : Int) ((t : Nat) : Int) (nI_toInt (by omega)) (nI_toInt (by omega)) (by first | rfl | assumption | omega)) gX7_takePart_X7_noRange rfl ⟨rfl, rfl⟩ yd_X7_noRange ⟨Nat.le_of_ble_eq_true rfl, Nat.le_of_ble_eq_true rfl⟩ rfl rfl (Nat.le_of_ble_eq_true rfl) dX7_takePart_18 ?_
    rintro r2 ⟨F2, hs2, mv2, G2⟩ hu2
    obtain ⟨rfl, hv2⟩ := (hu2.1 (by omega))
    cases hv2
    refine zz_world (P' := (RP D C K (upd F 0 (nI 0)) hs mv G)) (fun _ h => h) ?_
    refine zz_ifB_eq 21 26 X.1 dX7_takePart_21 (by decide) (fun h21 => ?_) (fun h21 => ?_)
    · skip
      refine zz_iconst 26 X.1 (v := nI 0) dX7_takePart_26 rfl ?_
      refine zz_istore 27 X.1 (lv' := [(5, .int (nI 0)), (0, .ref (K 0)), (1, .int (nI s0)), (2, .int (nI o0)), (3, .int (nI f)), (4, .int (nI t))]) dX7_takePart_27 (by decide) rfl ?_
      have C29 : ∀ (d : Nat) (i : Nat) (mv1 : Nat → Bool) (hi : i ≤ 1024) (hh : mv1 = mF mv (pT (hM hs o0) f t) i) (hd : 1024 - i < d), ZZ p l e rm_X7_takePart s m args below meth c 0 0 Q (zz_A (RAd K) s.heap.size) (RP D C K (upd F 0 (nI 0)) hs mv1 G) 6 [(0, .ref (K 0)), (1, .int (nI s0)), (2, .int (nI o0)), (3, .int (nI f)), (4, .int (nI t)), (5, .int (nI i))] [] 29 := by
        intro d
        induction d with
        | zero => intro i mv1 hi hh hd; exact absurd hd (Nat.not_lt_zero _)
        | succ d ih29 =>
          intro i mv1 hi hh hd
          refine zz_iload 29 X.1 5 dX7_takePart_29 rfl ?_
          refine zz_sipush 31 X.1 (v := nI 1024) dX7_takePart_31 rfl ?_
          refine zz_icmp_ge 34 92 X.1 (nI_toInt (by omega)) (nI_toInt (by omega)) dX7_takePart_34 (by decide) (fun h34 => ?_) (fun h34 => ?_)
          · skip
            refine rr_mv (mv' := mF mv (pT (hM hs o0) f t) 1024) (hh.trans (by rw [show i = 1024 by omega])) ?_
            refine zz_aload_n 92 X.1 0 dX7_takePart_92 rfl ?_
            refine zz_iload_n 93 X.1 1 dX7_takePart_93 rfl ?_
            refine rr_callVi 94 X hml (As := [.int (nI s0)]) (kt_X7_becomes l D C K hAp (upd F 0 (nI 0)) hs (mF mv (pT (hM hs o0) f t) 1024) G s0 (by first | rfl | assumption | omega)) gX7_takePart_X7_becomes rfl ⟨rfl, rfl⟩ yd_X7_becomes ⟨Nat.le_of_ble_eq_true rfl, Nat.le_of_ble_eq_true rfl⟩ rfl rfl (Nat.le_of_ble_eq_true rfl) dX7_takePart_94 ?_
            rintro r3 ⟨F3, hs3, mv3, G3⟩ hu3
            obtain ⟨rfl, hv3⟩ := hu3
            cases hv3
            refine zz_world (P' := (RP D C K (upd F 0 (nI 0)) (sS hs s0 (mF mv (pT (hM hs o0) f t) 1024)) (mF mv (pT (hM hs o0) f t) 1024) G)) (fun _ h => h) ?_
            refine rr_hs (hs' := sS hs s0 (pT (hM hs o0) f t)) mF_S ?_
            rw [← hQ]
            refine zz_iret 97 X.1 hr rfl hlk (upd F 0 (nI 0), sS hs s0 (pT (hM hs o0) f t), mF mv (pT (hM hs o0) f t) 1024, G) ?_ (fun _ h _ => h) dX7_takePart_97
            exact ⟨by rw [ct_mF], rfl⟩
          · skip
            refine zz_aload_n 37 X.1 0 dX7_takePart_37 rfl ?_
            refine rr_get 38 X 18 (by decide) (v := .ref (K 18)) rfl (by decide +kernel) rfl dX7_takePart_38 ?_
            refine zz_iload 41 X.1 5 dX7_takePart_41 rfl ?_
            refine zz_iload 43 X.1 5 dX7_takePart_43 rfl ?_
            refine zz_iload 45 X.1 4 dX7_takePart_45 rfl ?_
            refine zz_iload_n 47 X.1 3 dX7_takePart_47 rfl ?_
            refine zz_isub 48 X.1 (v := (nI (t - f))) dX7_takePart_48 (pk_sub (by omega)) ?_
            refine zz_icmp_ge 49 84 X.1 (nI_toInt (by omega)) (nI_toInt (by omega)) dX7_takePart_49 (by decide) (fun h49 => ?_) (fun h49 => ?_)
            · skip
              refine zz_iconst 84 X.1 (v := nI 0) dX7_takePart_84 rfl ?_
              refine zz_topi (bI false) rfl ?_
              refine rr_mst 85 hAp X (by omega) dX7_takePart_85 ?_
              refine zz_iinc 86 X.1 5 (v := (nI (i + 1))) (lv' := [(5, .int (nI (i + 1))), (0, .ref (K 0)), (1, .int (nI s0)), (2, .int (nI o0)), (3, .int (nI f)), (4, .int (nI t))]) dX7_takePart_86 rfl (nI_add i 1) (by decide) rfl ?_
              refine zz_goto 89 29 X.1 dX7_takePart_89 (by decide) ?_
              refine zz_lvs [1, 2, 3, 4, 5, 0] rfl ?_
              exact ih29 (i + 1) (va_up mv1 i false) (by omega) (mF_up2 hh (by unfold pT hM; first | (rw [← Nat.add_assoc, h77]; simp [show f + i < t by omega, show f + i < 1024 by omega]; done) | (simp [show ¬ (f + i < t) by omega]; done) | (simp [show ¬ (f + i < 1024) by omega]; done))) (by omega)
            · skip
              refine zz_iload_n 52 X.1 3 dX7_takePart_52 rfl ?_
              refine zz_sipush 53 X.1 (v := nI 1024) dX7_takePart_53 rfl ?_
              refine zz_iload 56 X.1 5 dX7_takePart_56 rfl ?_
              refine zz_isub 58 X.1 (v := (nI (1024 - i))) dX7_takePart_58 (pk_sub (by omega)) ?_
              refine zz_icmp_ge 59 84 X.1 (nI_toInt (by omega)) (nI_toInt (by omega)) dX7_takePart_59 (by decide) (fun h59 => ?_) (fun h59 => ?_)
              · skip
                refine zz_iconst 84 X.1 (v := nI 0) dX7_takePart_84 rfl ?_
                refine zz_topi (bI false) rfl ?_
                refine rr_mst 85 hAp X (by omega) dX7_takePart_85 ?_
                refine zz_iinc 86 X.1 5 (v := (nI (i + 1))) (lv' := [(5, .int (nI (i + 1))), (0, .ref (K 0)), (1, .int (nI s0)), (2, .int (nI o0)), (3, .int (nI f)), (4, .int (nI t))]) dX7_takePart_86 rfl (nI_add i 1) (by decide) rfl ?_
                refine zz_goto 89 29 X.1 dX7_takePart_89 (by decide) ?_
                refine zz_lvs [1, 2, 3, 4, 5, 0] rfl ?_
                exact ih29 (i + 1) (va_up mv1 i false) (by omega) (mF_up2 hh (by unfold pT hM; first | (rw [← Nat.add_assoc, h77]; simp [show f + i < t by omega, show f + i < 1024 by omega]; done) | (simp [show ¬ (f + i < t) by omega]; done) | (simp [show ¬ (f + i < 1024) by omega]; done))) (by omega)
              · skip
                refine zz_aload_n 62 X.1 0 dX7_takePart_62 rfl ?_
                refine rr_get 63 X 1 (by decide) (v := .ref (K 1)) rfl (by decide +kernel) rfl dX7_takePart_63 ?_
                refine zz_sipush 66 X.1 (v := nI 1024) dX7_takePart_66 rfl ?_
                refine zz_iload_n 69 X.1 2 dX7_takePart_69 rfl ?_
                refine zz_imul 70 X.1 (v := (nI (1024 * o0))) dX7_takePart_70 (pk_mul _ _) ?_
                refine zz_iload_n 71 X.1 3 dX7_takePart_71 rfl ?_
                refine zz_iadd 72 X.1 (v := (nI ((1024 * o0) + f))) dX7_takePart_72 (nI_add _ _) ?_
                refine zz_iload 73 X.1 5 dX7_takePart_73 rfl ?_
                refine zz_iadd 75 X.1 (v := (nI (((1024 * o0) + f) + i))) dX7_takePart_75 (nI_add _ _) ?_
                refine rr_hld 76 X (by omega) dX7_takePart_76 ?_
                refine zz_ifB_eq 77 84 X.1 dX7_takePart_77 (by decide) (fun h77 => ?_) (fun h77 => ?_)
                · skip
                  refine zz_iconst 84 X.1 (v := nI 0) dX7_takePart_84 rfl ?_
                  refine zz_topi (bI false) rfl ?_
                  refine rr_mst 85 hAp X (by omega) dX7_takePart_85 ?_
                  refine zz_iinc 86 X.1 5 (v := (nI (i + 1))) (lv' := [(5, .int (nI (i + 1))), (0, .ref (K 0)), (1, .int (nI s0)), (2, .int (nI o0)), (3, .int (nI f)), (4, .int (nI t))]) dX7_takePart_86 rfl (nI_add i 1) (by decide) rfl ?_
                  refine zz_goto 89 29 X.1 dX7_takePart_89 (by decide) ?_
                  refine zz_lvs [1, 2, 3, 4, 5, 0] rfl ?_
                  exact ih29 (i + 1) (va_up mv1 i false) (by omega) (mF_up2 hh (by unfold pT hM; first | (rw [← Nat.add_assoc, h77]; simp [show f + i < t by omega, show f + i < 1024 by omega]; done) | (simp [show ¬ (f + i < t) by omega]; done) | (simp [show ¬ (f + i < 1024) by omega]; done))) (by omega)
                · skip
                  refine zz_iconst 80 X.1 (v := nI 1) dX7_takePart_80 rfl ?_
                  refine zz_goto 81 85 X.1 dX7_takePart_81 (by decide) ?_
                  refine zz_topi (bI true) rfl ?_
                  refine rr_mst 85 hAp X (by omega) dX7_takePart_85 ?_
                  refine zz_iinc 86 X.1 5 (v := (nI (i + 1))) (lv' := [(5, .int (nI (i + 1))), (0, .ref (K 0)), (1, .int (nI s0)), (2, .int (nI o0)), (3, .int (nI f)), (4, .int (nI t))]) dX7_takePart_86 rfl (nI_add i 1) (by decide) rfl ?_
                  refine zz_goto 89 29 X.1 dX7_takePart_89 (by decide) ?_
                  refine zz_lvs [1, 2, 3, 4, 5, 0] rfl ?_
                  exact ih29 (i + 1) (va_up mv1 i true) (by omega) (mF_up2 hh (by unfold pT hM; first | (rw [← Nat.add_assoc, h77]; simp [show f + i < t by omega, show f + i < 1024 by omega]; done) | (simp [show ¬ (f + i < t) by omega]; done) | (simp [show ¬ (f + i < 1024) by omega]; done))) (by omega)
      refine zz_lvs [1, 2, 3, 4, 5, 0] rfl ?_
      exact C29 (1024 - 0 + 1) 0 mv (by omega) (mF_0.symm) (Nat.lt_succ_self _)
    · exact absurd h21 (by decide)

abbrev rm_X7_shift : Room := { frames := 2, cells := 0, slots := 0, locals := 45 }
theorem yd_X7_shift : yX7_shift.cls = RX7 ∧ yX7_shift.cls ≠ "java/lang/invoke/MethodHandle" ∧ yX7_shift.cls ≠ "java/lang/invoke/VarHandle" ∧ (parseMethodDescriptor yX7_shift.desc).map (fun d => d.parameters.length) = some 2 := by decide +kernel
set_option maxHeartbeats 4000000 in
set_option maxRecDepth 100000 in
theorem kt_X7_shift_no (l : Launch) (D : va_G) (C : Nat → ClassId) (K : Nat → Nat) (hAp : RAp K) (F : Nat → Int32) (hs mv : Nat → Bool) (G : Nat → Nat → Int32) (x0 : Int32) (x1 : Int32) (a : Int) (b : Int) (h_a : x0.toInt = a) (h_b : x1.toInt = b) (hno : ¬ ((0 ≤ a ∧ a < 8) ∧ -1023 ≤ b ∧ b ≤ 1023)) : RMi l yX7_shift wsX7_shift rm_X7_shift D C K [.int x0, .int x1] F hs mv G (fun (r : Int32) (u : MSt) => r = (nI 0) ∧ u = (upd F 0 (nI 1), hs, mv, G)) := by
  refine RMi_of (lv := [(0, .ref (K 0)), (1, .int x0), (2, .int x1)]) (cc := cX7_shift) (maxL := 4) (ret := (some .int)) rfl rfl (by decide +kernel) (Nat.le_of_ble_eq_true rfl) rfl ?_
  intro p e s m args below meth c X hml hr hlk
  generalize hQ : MQ below _ args s 0 0 _ = Q
  refine zz_aload_n 0 X.1 0 dX7_shift_0 rfl ?_
  refine zz_iconst 1 X.1 (v := nI 0) dX7_shift_1 rfl ?_
  refine rr_put 2 hAp X 0 (by decide) (F' := upd F 0 (nI 0)) rfl (by decide +kernel) ⟨rfl, rfl⟩ (by decide +kernel) dX7_shift_2 ?_
  refine zz_aload_n 5 X.1 0 dX7_shift_5 rfl ?_
  refine zz_iload_n 6 X.1 1 dX7_shift_6 rfl ?_
  refine rr_callVi 7 X hml (As := [.int x0]) (kt_X7_noSet l D C K hAp (upd F 0 (nI 0)) hs mv G x0 a (h_a) (by first | rfl | assumption | omega)) gX7_shift_X7_noSet rfl ⟨rfl, rfl⟩ yd_X7_noSet ⟨Nat.le_of_ble_eq_true rfl, Nat.le_of_ble_eq_true rfl⟩ rfl rfl (Nat.le_of_ble_eq_true rfl) dX7_shift_7 ?_
  rintro r1 ⟨F1, hs1, mv1, G1⟩ hu1
  rcases (show (0 ≤ a ∧ a < 8) ∨ (¬ (0 ≤ a ∧ a < 8)) by omega) with hc1 | hc1
  · skip
    obtain ⟨rfl, hv1⟩ := (hu1.1 hc1)
    cases hv1
    refine zz_world (P' := (RP D C K (upd F 0 (nI 0)) hs mv G)) (fun _ h => h) ?_
    refine zz_ifB_ne 10 31 X.1 dX7_shift_10 (by decide) (fun h10 => ?_) (fun h10 => ?_)
    · exact absurd h10 (by decide)
    · skip
      refine zz_aload_n 13 X.1 0 dX7_shift_13 rfl ?_
      refine zz_iload_n 14 X.1 2 dX7_shift_14 rfl ?_
      refine zz_sipush 15 X.1 (v := (-1023)) dX7_shift_15 (by decide) ?_
      refine zz_sipush 18 X.1 (v := nI 1023) dX7_shift_18 rfl ?_
      refine zz_callS0i 21 ⟨X.1.1, X.1.2, hml, X.2.2.2.1, X.2.1⟩ (fun q h => Or.inr h) RP_keep (As := [.int x1, .int (-1023), .int (nI 1023)]) (kt_X7_in l x1 (-1023) (nI 1023) b (-1023) ((1023 : Nat) : Int) (h_b) ((by decide : (-1023 : Int32).toInt = -1023)) (nI_toInt (by omega))) gX7_shift_X7_in rfl ⟨rfl, rfl⟩ yd_X7_in.2 ⟨Nat.le_of_ble_eq_true rfl, Nat.le_of_ble_eq_true rfl⟩ rfl rfl (Nat.le_of_ble_eq_true rfl) ⟨Nat.zero_le _, Nat.zero_le _⟩ dX7_shift_21 ?_
      intro r2 hu2
      rcases (show ((-1023) ≤ b ∧ b ≤ ((1023 : Nat) : Int)) ∨ (¬ ((-1023) ≤ b ∧ b ≤ ((1023 : Nat) : Int))) by omega) with hc2 | hc2
      · exfalso; omega
      · skip
        obtain rfl := (hu2.2 hc2)
        refine zz_iconst 24 X.1 (v := nI 1) dX7_shift_24 rfl ?_
        refine rr_callVi 25 X hml (As := [.int (bI false), .int (nI 1)]) (kt_X7_fails l D C K hAp (upd F 0 (nI 0)) hs mv G false 1 (by first | rfl | assumption | omega) (by first | rfl | assumption | omega)) gX7_shift_X7_fails rfl ⟨rfl, rfl⟩ yd_X7_fails ⟨Nat.le_of_ble_eq_true rfl, Nat.le_of_ble_eq_true rfl⟩ rfl rfl (Nat.le_of_ble_eq_true rfl) dX7_shift_25 ?_
        rintro r3 ⟨F3, hs3, mv3, G3⟩ hu3
        obtain ⟨rfl, hv3⟩ := (hu3.2 (rfl))
        cases hv3
        refine zz_world (P' := (RP D C K (upd F 0 (nI 1)) hs mv G)) (fun _ h => h) ?_
        refine zz_ifB_eq 28 33 X.1 dX7_shift_28 (by decide) (fun h28 => ?_) (fun h28 => ?_)
        · exact absurd h28 (by decide)
        · skip
          refine zz_iconst 31 X.1 (v := nI 0) dX7_shift_31 rfl ?_
          rw [← hQ]
          refine zz_iret 32 X.1 hr rfl hlk (upd F 0 (nI 1), hs, mv, G) ?_ (fun _ h _ => h) dX7_shift_32
          exact ⟨rfl, rfl⟩
  · skip
    obtain ⟨rfl, hv1⟩ := (hu1.2 hc1)
    cases hv1
    refine zz_world (P' := (RP D C K (upd F 0 (nI 1)) hs mv G)) (fun _ h => h) ?_
    refine zz_ifB_ne 10 31 X.1 dX7_shift_10 (by decide) (fun h10 => ?_) (fun h10 => ?_)
    · skip
      refine zz_iconst 31 X.1 (v := nI 0) dX7_shift_31 rfl ?_
      rw [← hQ]
      refine zz_iret 32 X.1 hr rfl hlk (upd F 0 (nI 1), hs, mv, G) ?_ (fun _ h _ => h) dX7_shift_32
      exact ⟨rfl, rfl⟩
    · exact absurd h10 (by decide)

set_option maxHeartbeats 4000000 in
set_option maxRecDepth 100000 in
theorem kt_X7_shift_ok (l : Launch) (D : va_G) (C : Nat → ClassId) (K : Nat → Nat) (hAp : RAp K) (F : Nat → Int32) (hs mv : Nat → Bool) (G : Nat → Nat → Int32) (s0 : Nat) (x1 : Int32) (b : Int) (h_b : x1.toInt = b) (hs0 : s0 < 8) (hbb : -1023 ≤ b ∧ b ≤ 1023) : RMi l yX7_shift wsX7_shift rm_X7_shift D C K [.int (nI s0), .int x1] F hs mv G (fun (r : Int32) (u : MSt) => r = (nI (ct (pH (hM hs s0) b) 1024)) ∧ u = (upd F 0 (nI 0), sS hs s0 (pH (hM hs s0) b), mF mv (pH (hM hs s0) b) 1024, G)) := by
  refine RMi_of (lv := [(0, .ref (K 0)), (1, .int (nI s0)), (2, .int x1)]) (cc := cX7_shift) (maxL := 4) (ret := (some .int)) rfl rfl (by decide +kernel) (Nat.le_of_ble_eq_true rfl) rfl ?_
  intro p e s m args below meth c X hml hr hlk
  generalize hQ : MQ below _ args s 0 0 _ = Q
  refine zz_aload_n 0 X.1 0 dX7_shift_0 rfl ?_
  refine zz_iconst 1 X.1 (v := nI 0) dX7_shift_1 rfl ?_
  refine rr_put 2 hAp X 0 (by decide) (F' := upd F 0 (nI 0)) rfl (by decide +kernel) ⟨rfl, rfl⟩ (by decide +kernel) dX7_shift_2 ?_
  refine zz_aload_n 5 X.1 0 dX7_shift_5 rfl ?_
  refine zz_iload_n 6 X.1 1 dX7_shift_6 rfl ?_
  refine rr_callVi 7 X hml (As := [.int (nI s0)]) (kt_X7_noSet l D C K hAp (upd F 0 (nI 0)) hs mv G (nI s0) ((s0 : Nat) : Int) (nI_toInt (by omega)) (by first | rfl | assumption | omega)) gX7_shift_X7_noSet rfl ⟨rfl, rfl⟩ yd_X7_noSet ⟨Nat.le_of_ble_eq_true rfl, Nat.le_of_ble_eq_true rfl⟩ rfl rfl (Nat.le_of_ble_eq_true rfl) dX7_shift_7 ?_
  rintro r1 ⟨F1, hs1, mv1, G1⟩ hu1
  obtain ⟨rfl, hv1⟩ := (hu1.1 (by omega))
  cases hv1
  refine zz_world (P' := (RP D C K (upd F 0 (nI 0)) hs mv G)) (fun _ h => h) ?_
  refine zz_ifB_ne 10 31 X.1 dX7_shift_10 (by decide) (fun h10 => ?_) (fun h10 => ?_)
  · exact absurd h10 (by decide)
  · skip
    refine zz_aload_n 13 X.1 0 dX7_shift_13 rfl ?_
    refine zz_iload_n 14 X.1 2 dX7_shift_14 rfl ?_
    refine zz_sipush 15 X.1 (v := (-1023)) dX7_shift_15 (by decide) ?_
    refine zz_sipush 18 X.1 (v := nI 1023) dX7_shift_18 rfl ?_
    refine zz_callS0i 21 ⟨X.1.1, X.1.2, hml, X.2.2.2.1, X.2.1⟩ (fun q h => Or.inr h) RP_keep (As := [.int x1, .int (-1023), .int (nI 1023)]) (kt_X7_in l x1 (-1023) (nI 1023) b (-1023) ((1023 : Nat) : Int) (h_b) ((by decide : (-1023 : Int32).toInt = -1023)) (nI_toInt (by omega))) gX7_shift_X7_in rfl ⟨rfl, rfl⟩ yd_X7_in.2 ⟨Nat.le_of_ble_eq_true rfl, Nat.le_of_ble_eq_true rfl⟩ rfl rfl (Nat.le_of_ble_eq_true rfl) ⟨Nat.zero_le _, Nat.zero_le _⟩ dX7_shift_21 ?_
    intro r2 hu2
    rcases (show ((-1023) ≤ b ∧ b ≤ ((1023 : Nat) : Int)) ∨ (¬ ((-1023) ≤ b ∧ b ≤ ((1023 : Nat) : Int))) by omega) with hc2 | hc2
    · skip
      obtain rfl := (hu2.1 hc2)
      refine zz_iconst 24 X.1 (v := nI 1) dX7_shift_24 rfl ?_
      refine rr_callVi 25 X hml (As := [.int (bI true), .int (nI 1)]) (kt_X7_fails l D C K hAp (upd F 0 (nI 0)) hs mv G true 1 (by first | rfl | assumption | omega) (by first | rfl | assumption | omega)) gX7_shift_X7_fails rfl ⟨rfl, rfl⟩ yd_X7_fails ⟨Nat.le_of_ble_eq_true rfl, Nat.le_of_ble_eq_true rfl⟩ rfl rfl (Nat.le_of_ble_eq_true rfl) dX7_shift_25 ?_
      rintro r3 ⟨F3, hs3, mv3, G3⟩ hu3
      obtain ⟨rfl, hv3⟩ := (hu3.1 (rfl))
      cases hv3
      refine zz_world (P' := (RP D C K (upd F 0 (nI 0)) hs mv G)) (fun _ h => h) ?_
      refine zz_ifB_eq 28 33 X.1 dX7_shift_28 (by decide) (fun h28 => ?_) (fun h28 => ?_)
      · skip
        refine zz_iconst 33 X.1 (v := nI 0) dX7_shift_33 rfl ?_
        refine zz_istore_n 34 X.1 (lv' := [(3, .int (nI 0)), (0, .ref (K 0)), (1, .int (nI s0)), (2, .int x1)]) dX7_shift_34 (by decide) rfl ?_
        have C35 : ∀ (d : Nat) (i : Nat) (mv1 : Nat → Bool) (hi : i ≤ 1024) (hh : mv1 = mF mv (pH (hM hs s0) b) i) (hd : 1024 - i < d), ZZ p l e rm_X7_shift s m args below meth c 0 0 Q (zz_A (RAd K) s.heap.size) (RP D C K (upd F 0 (nI 0)) hs mv1 G) 4 [(0, .ref (K 0)), (1, .int (nI s0)), (2, .int x1), (3, .int (nI i))] [] 35 := by
          intro d
          induction d with
          | zero => intro i mv1 hi hh hd; exact absurd hd (Nat.not_lt_zero _)
          | succ d ih35 =>
            intro i mv1 hi hh hd
            refine zz_iload_n 35 X.1 3 dX7_shift_35 rfl ?_
            refine zz_sipush 36 X.1 (v := nI 1024) dX7_shift_36 rfl ?_
            refine zz_icmp_ge 39 89 X.1 (nI_toInt (by omega)) (nI_toInt (by omega)) dX7_shift_39 (by decide) (fun h39 => ?_) (fun h39 => ?_)
            · skip
              refine rr_mv (mv' := mF mv (pH (hM hs s0) b) 1024) (hh.trans (by rw [show i = 1024 by omega])) ?_
              refine zz_aload_n 89 X.1 0 dX7_shift_89 rfl ?_
              refine zz_iload_n 90 X.1 1 dX7_shift_90 rfl ?_
              refine rr_callVi 91 X hml (As := [.int (nI s0)]) (kt_X7_becomes l D C K hAp (upd F 0 (nI 0)) hs (mF mv (pH (hM hs s0) b) 1024) G s0 (by first | rfl | assumption | omega)) gX7_shift_X7_becomes rfl ⟨rfl, rfl⟩ yd_X7_becomes ⟨Nat.le_of_ble_eq_true rfl, Nat.le_of_ble_eq_true rfl⟩ rfl rfl (Nat.le_of_ble_eq_true rfl) dX7_shift_91 ?_
              rintro r4 ⟨F4, hs4, mv4, G4⟩ hu4
              obtain ⟨rfl, hv4⟩ := hu4
              cases hv4
              refine zz_world (P' := (RP D C K (upd F 0 (nI 0)) (sS hs s0 (mF mv (pH (hM hs s0) b) 1024)) (mF mv (pH (hM hs s0) b) 1024) G)) (fun _ h => h) ?_
              refine rr_hs (hs' := sS hs s0 (pH (hM hs s0) b)) mF_S ?_
              rw [← hQ]
              refine zz_iret 94 X.1 hr rfl hlk (upd F 0 (nI 0), sS hs s0 (pH (hM hs s0) b), mF mv (pH (hM hs s0) b) 1024, G) ?_ (fun _ h _ => h) dX7_shift_94
              exact ⟨by rw [ct_mF], rfl⟩
            · skip
              refine zz_aload_n 42 X.1 0 dX7_shift_42 rfl ?_
              refine rr_get 43 X 18 (by decide) (v := .ref (K 18)) rfl (by decide +kernel) rfl dX7_shift_43 ?_
              refine zz_iload_n 46 X.1 3 dX7_shift_46 rfl ?_
              refine zz_iload_n 47 X.1 3 dX7_shift_47 rfl ?_
              refine zz_iload_n 48 X.1 2 dX7_shift_48 rfl ?_
              refine zz_isub 49 X.1 (v := (nI i - x1)) dX7_shift_49 rfl ?_
              refine zz_iconst 50 X.1 (v := nI 0) dX7_shift_50 rfl ?_
              refine zz_sipush 51 X.1 (v := nI 1023) dX7_shift_51 rfl ?_
              refine zz_callS0i 54 ⟨X.1.1, X.1.2, hml, X.2.2.2.1, X.2.1⟩ (fun q h => Or.inr h) RP_keep (As := [.int (nI i - x1), .int (nI 0), .int (nI 1023)]) (kt_X7_in l (nI i - x1) (nI 0) (nI 1023) (((i : Nat) : Int) - b) ((0 : Nat) : Int) ((1023 : Nat) : Int) (((zi_sub (by rw [nI_toInt (by omega), h_b]; omega) (by rw [nI_toInt (by omega), h_b]; omega)).trans (by rw [nI_toInt (by omega), h_b]))) (nI_toInt (by omega)) (nI_toInt (by omega))) gX7_shift_X7_in rfl ⟨rfl, rfl⟩ yd_X7_in.2 ⟨Nat.le_of_ble_eq_true rfl, Nat.le_of_ble_eq_true rfl⟩ rfl rfl (Nat.le_of_ble_eq_true rfl) ⟨Nat.zero_le _, Nat.zero_le _⟩ dX7_shift_54 ?_
              intro r5 hu5
              rcases (show (((0 : Nat) : Int) ≤ (((i : Nat) : Int) - b) ∧ (((i : Nat) : Int) - b) ≤ ((1023 : Nat) : Int)) ∨ (¬ (((0 : Nat) : Int) ≤ (((i : Nat) : Int) - b) ∧ (((i : Nat) : Int) - b) ≤ ((1023 : Nat) : Int))) by omega) with hc5 | hc5
              · skip
                obtain rfl := (hu5.1 hc5)
                refine zz_ifB_eq 57 81 X.1 dX7_shift_57 (by decide) (fun h57 => ?_) (fun h57 => ?_)
                · exact absurd h57 (by decide)
                · skip
                  refine zz_aload_n 60 X.1 0 dX7_shift_60 rfl ?_
                  refine rr_get 61 X 1 (by decide) (v := .ref (K 1)) rfl (by decide +kernel) rfl dX7_shift_61 ?_
                  refine zz_sipush 64 X.1 (v := nI 1024) dX7_shift_64 rfl ?_
                  refine zz_iload_n 67 X.1 1 dX7_shift_67 rfl ?_
                  refine zz_imul 68 X.1 (v := (nI (1024 * s0))) dX7_shift_68 (pk_mul _ _) ?_
                  refine zz_iload_n 69 X.1 3 dX7_shift_69 rfl ?_
                  refine zz_iadd 70 X.1 (v := (nI ((1024 * s0) + i))) dX7_shift_70 (nI_add _ _) ?_
                  refine zz_iload_n 71 X.1 2 dX7_shift_71 rfl ?_
                  refine zz_isub 72 X.1 (v := (nI (1024 * s0 + ((i : Int) - b).toNat))) dX7_shift_72 (zi_of ((zi_sub (by rw [nI_toInt (by omega), h_b]; omega) (by rw [nI_toInt (by omega), h_b]; omega)).trans (by rw [nI_toInt (by omega), h_b]; omega))) ?_
                  refine rr_hld 73 X (by omega) dX7_shift_73 ?_
                  refine zz_ifB_eq 74 81 X.1 dX7_shift_74 (by decide) (fun h74 => ?_) (fun h74 => ?_)
                  · skip
                    refine zz_iconst 81 X.1 (v := nI 0) dX7_shift_81 rfl ?_
                    refine zz_topi (bI false) rfl ?_
                    refine rr_mst 82 hAp X (by omega) dX7_shift_82 ?_
                    refine zz_iinc 83 X.1 3 (v := (nI (i + 1))) (lv' := [(3, .int (nI (i + 1))), (0, .ref (K 0)), (1, .int (nI s0)), (2, .int x1)]) dX7_shift_83 rfl (nI_add i 1) (by decide) rfl ?_
                    refine zz_goto 86 35 X.1 dX7_shift_86 (by decide) ?_
                    refine zz_lvs [1, 2, 3, 0] rfl ?_
                    exact ih35 (i + 1) (va_up mv1 i false) (by omega) (mF_up2 hh (by unfold pH hM; first | (rw [h74, decide_eq_true (show 0 ≤ (i : Int) - b ∧ (i : Int) - b < 1024 by omega)]; rfl) | (rw [decide_eq_false (show ¬ (0 ≤ (i : Int) - b ∧ (i : Int) - b < 1024) by omega)]; rfl))) (by omega)
                  · skip
                    refine zz_iconst 77 X.1 (v := nI 1) dX7_shift_77 rfl ?_
                    refine zz_goto 78 82 X.1 dX7_shift_78 (by decide) ?_
                    refine zz_topi (bI true) rfl ?_
                    refine rr_mst 82 hAp X (by omega) dX7_shift_82 ?_
                    refine zz_iinc 83 X.1 3 (v := (nI (i + 1))) (lv' := [(3, .int (nI (i + 1))), (0, .ref (K 0)), (1, .int (nI s0)), (2, .int x1)]) dX7_shift_83 rfl (nI_add i 1) (by decide) rfl ?_
                    refine zz_goto 86 35 X.1 dX7_shift_86 (by decide) ?_
                    refine zz_lvs [1, 2, 3, 0] rfl ?_
                    exact ih35 (i + 1) (va_up mv1 i true) (by omega) (mF_up2 hh (by unfold pH hM; first | (rw [h74, decide_eq_true (show 0 ≤ (i : Int) - b ∧ (i : Int) - b < 1024 by omega)]; rfl) | (rw [decide_eq_false (show ¬ (0 ≤ (i : Int) - b ∧ (i : Int) - b < 1024) by omega)]; rfl))) (by omega)
              · skip
                obtain rfl := (hu5.2 hc5)
                refine zz_ifB_eq 57 81 X.1 dX7_shift_57 (by decide) (fun h57 => ?_) (fun h57 => ?_)
                · skip
                  refine zz_iconst 81 X.1 (v := nI 0) dX7_shift_81 rfl ?_
                  refine zz_topi (bI false) rfl ?_
                  refine rr_mst 82 hAp X (by omega) dX7_shift_82 ?_
                  refine zz_iinc 83 X.1 3 (v := (nI (i + 1))) (lv' := [(3, .int (nI (i + 1))), (0, .ref (K 0)), (1, .int (nI s0)), (2, .int x1)]) dX7_shift_83 rfl (nI_add i 1) (by decide) rfl ?_
                  refine zz_goto 86 35 X.1 dX7_shift_86 (by decide) ?_
                  refine zz_lvs [1, 2, 3, 0] rfl ?_
                  exact ih35 (i + 1) (va_up mv1 i false) (by omega) (mF_up2 hh (by unfold pH hM; first | (rw [h74, decide_eq_true (show 0 ≤ (i : Int) - b ∧ (i : Int) - b < 1024 by omega)]; rfl) | (rw [decide_eq_false (show ¬ (0 ≤ (i : Int) - b ∧ (i : Int) - b < 1024) by omega)]; rfl))) (by omega)
                · exact absurd h57 (by decide)
        refine zz_lvs [1, 2, 3, 0] rfl ?_
        exact C35 (1024 - 0 + 1) 0 mv (by omega) (mF_0.symm) (Nat.lt_succ_self _)
      · exact absurd h28 (by decide)
    · exfalso; omega

abbrev rm_X7_isPrime : Room := { frames := 0, cells := 0, slots := 0, locals := 0 }
theorem yd_X7_isPrime : yX7_isPrime.cls = RX7 ∧ yX7_isPrime.cls ≠ "java/lang/invoke/MethodHandle" ∧ yX7_isPrime.cls ≠ "java/lang/invoke/VarHandle" ∧ (parseMethodDescriptor yX7_isPrime.desc).map (fun d => d.parameters.length) = some 1 := by decide +kernel
set_option maxHeartbeats 4000000 in
set_option maxRecDepth 100000 in
theorem kt_X7_isPrime (l : Launch) (w0 : Nat) (hw : w0 < 1024) : SMi l yX7_isPrime wsX7_isPrime rm_X7_isPrime [.int (nI w0)] (fun (r : Int32) => r = (bI (pr w0))) := by
  refine SMi_of (lv := [(0, .int (nI w0))]) (cc := cX7_isPrime) (maxL := 2) (ret := (some .boolean)) rfl (by decide +kernel) (Nat.le_of_ble_eq_true rfl) rfl ?_
  intro p e s m args below meth c hc hts hown hml hr hlk
  have X : (p.tables.exec = Jvm.exec ∧ c.code = cX7_isPrime) ∧ True := ⟨hc, trivial⟩
  generalize hQ : MQ below _ args s 0 0 _ = Q
  refine zz_iconst 0 X.1 (v := nI 2) dX7_isPrime_0 rfl ?_
  refine zz_istore_n 1 X.1 (lv' := [(1, .int (nI 2)), (0, .int (nI w0))]) dX7_isPrime_1 (by decide) rfl ?_
  have C2 : ∀ (d : Nat) (d0 : Nat) (hd1 : 2 ≤ d0 ∧ d0 ≤ 1024) (hd2 : ∀ e, e < d0 → e < w0 → 2 ≤ e → w0 % e ≠ 0) (hd : w0 - d0 < d), ZZ p l e rm_X7_isPrime s m args below meth c 0 0 Q (zz_A (fun _ => False) s.heap.size) (fun _ => True) 2 [(0, .int (nI w0)), (1, .int (nI d0))] [] 2 := by
    intro d
    induction d with
    | zero => intro d0 hd1 hd2 hd; exact absurd hd (Nat.not_lt_zero _)
    | succ d ih2 =>
      intro d0 hd1 hd2 hd
      have hm : w0 % d0 < d0 := Nat.mod_lt _ (by omega)
      refine zz_iload_n 2 X.1 1 dX7_isPrime_2 rfl ?_
      refine zz_iload_n 3 X.1 0 dX7_isPrime_3 rfl ?_
      refine zz_icmp_ge 4 21 X.1 (nI_toInt (by omega)) (nI_toInt (by omega)) dX7_isPrime_4 (by decide) (fun h4 => ?_) (fun h4 => ?_)
      · skip
        refine zz_iload_n 21 X.1 0 dX7_isPrime_21 rfl ?_
        refine zz_iconst 22 X.1 (v := nI 1) dX7_isPrime_22 rfl ?_
        refine zz_icmp_le 23 30 X.1 (nI_toInt (by omega)) (nI_toInt (by omega)) dX7_isPrime_23 (by decide) (fun h23 => ?_) (fun h23 => ?_)
        · skip
          refine zz_iconst 30 X.1 (v := nI 0) dX7_isPrime_30 rfl ?_
          refine zz_topi (bI false) rfl ?_
          rw [← hQ]
          refine zz_iret 31 X.1 hr (bI_nar _) hlk () ?_ (fun _ _ _ => trivial) dX7_isPrime_31
          refine congrArg bI ?_
          unfold pr
          first | (exact (decide_eq_false (fun h => h.2 d0 (by omega) (by omega) (by omega))).symm) | (exact (decide_eq_true ⟨by omega, fun e h1 h2 => hd2 e (by omega) h1 h2⟩).symm) | (exact (decide_eq_false (fun h => absurd h.1 (by omega))).symm)
        · skip
          refine zz_iconst 26 X.1 (v := nI 1) dX7_isPrime_26 rfl ?_
          refine zz_goto 27 31 X.1 dX7_isPrime_27 (by decide) ?_
          refine zz_topi (bI true) rfl ?_
          rw [← hQ]
          refine zz_iret 31 X.1 hr (bI_nar _) hlk () ?_ (fun _ _ _ => trivial) dX7_isPrime_31
          refine congrArg bI ?_
          unfold pr
          first | (exact (decide_eq_false (fun h => h.2 d0 (by omega) (by omega) (by omega))).symm) | (exact (decide_eq_true ⟨by omega, fun e h1 h2 => hd2 e (by omega) h1 h2⟩).symm) | (exact (decide_eq_false (fun h => absurd h.1 (by omega))).symm)
      · skip
        refine zz_iload_n 7 X.1 0 dX7_isPrime_7 rfl ?_
        refine zz_iload_n 8 X.1 1 dX7_isPrime_8 rfl ?_
        refine zz_irem 9 X.1 (v := (nI (w0 % d0))) dX7_isPrime_9 (zn_ne0 (by omega) (by omega)) (pk_rem (by omega) (by omega) (by omega)) ?_
        refine zz_if_ne 10 15 X.1 (nI_toInt (by omega)) dX7_isPrime_10 (by decide) (fun h10 => ?_) (fun h10 => ?_)
        · skip
          refine zz_iinc 15 X.1 1 (v := (nI (d0 + 1))) (lv' := [(1, .int (nI (d0 + 1))), (0, .int (nI w0))]) dX7_isPrime_15 rfl (nI_add d0 1) (by decide) rfl ?_
          refine zz_goto 18 2 X.1 dX7_isPrime_18 (by decide) ?_
          refine zz_lvs [1, 0] rfl ?_
          exact ih2 (d0 + 1) (by omega) (fun e h1 h2 h3 => by rcases Nat.lt_or_ge e d0 with z | z; exact hd2 e z h2 h3; rw [show e = d0 by omega]; omega) (by omega)
        · skip
          refine zz_iconst 13 X.1 (v := nI 0) dX7_isPrime_13 rfl ?_
          refine zz_topi (bI false) rfl ?_
          rw [← hQ]
          refine zz_iret 14 X.1 hr (bI_nar _) hlk () ?_ (fun _ _ _ => trivial) dX7_isPrime_14
          refine congrArg bI ?_
          unfold pr
          first | (exact (decide_eq_false (fun h => h.2 d0 (by omega) (by omega) (by omega))).symm) | (exact (decide_eq_true ⟨by omega, fun e h1 h2 => hd2 e (by omega) h1 h2⟩).symm) | (exact (decide_eq_false (fun h => absurd h.1 (by omega))).symm)
  refine zz_lvs [1, 0] rfl ?_
  exact C2 (w0 - 2 + 1) 2 (by omega) (fun e h1 _ h2 => absurd h1 (by omega)) (Nat.lt_succ_self _)

abbrev rm_X7_sieve : Room := { frames := 2, cells := 0, slots := 0, locals := 43 }
theorem yd_X7_sieve : yX7_sieve.cls = RX7 ∧ yX7_sieve.cls ≠ "java/lang/invoke/MethodHandle" ∧ yX7_sieve.cls ≠ "java/lang/invoke/VarHandle" ∧ (parseMethodDescriptor yX7_sieve.desc).map (fun d => d.parameters.length) = some 2 := by decide +kernel
set_option maxHeartbeats 4000000 in
set_option maxRecDepth 100000 in
theorem kt_X7_sieve_no (l : Launch) (D : va_G) (C : Nat → ClassId) (K : Nat → Nat) (hAp : RAp K) (F : Nat → Int32) (hs mv : Nat → Bool) (G : Nat → Nat → Int32) (x0 : Int32) (x1 : Int32) (a : Int) (b : Int) (h_a : x0.toInt = a) (h_b : x1.toInt = b) (hno : ¬ ((0 ≤ a ∧ a < 8) ∧ 0 ≤ b ∧ b ≤ 1024)) : RMi l yX7_sieve wsX7_sieve rm_X7_sieve D C K [.int x0, .int x1] F hs mv G (fun (r : Int32) (u : MSt) => r = (nI 0) ∧ u = (upd F 0 (nI 1), hs, mv, G)) := by
  refine RMi_of (lv := [(0, .ref (K 0)), (1, .int x0), (2, .int x1)]) (cc := cX7_sieve) (maxL := 4) (ret := (some .int)) rfl rfl (by decide +kernel) (Nat.le_of_ble_eq_true rfl) rfl ?_
  intro p e s m args below meth c X hml hr hlk
  generalize hQ : MQ below _ args s 0 0 _ = Q
  refine zz_aload_n 0 X.1 0 dX7_sieve_0 rfl ?_
  refine zz_iconst 1 X.1 (v := nI 0) dX7_sieve_1 rfl ?_
  refine rr_put 2 hAp X 0 (by decide) (F' := upd F 0 (nI 0)) rfl (by decide +kernel) ⟨rfl, rfl⟩ (by decide +kernel) dX7_sieve_2 ?_
  refine zz_aload_n 5 X.1 0 dX7_sieve_5 rfl ?_
  refine zz_iload_n 6 X.1 1 dX7_sieve_6 rfl ?_
  refine rr_callVi 7 X hml (As := [.int x0]) (kt_X7_noSet l D C K hAp (upd F 0 (nI 0)) hs mv G x0 a (h_a) (by first | rfl | assumption | omega)) gX7_sieve_X7_noSet rfl ⟨rfl, rfl⟩ yd_X7_noSet ⟨Nat.le_of_ble_eq_true rfl, Nat.le_of_ble_eq_true rfl⟩ rfl rfl (Nat.le_of_ble_eq_true rfl) dX7_sieve_7 ?_
  rintro r1 ⟨F1, hs1, mv1, G1⟩ hu1
  rcases (show (0 ≤ a ∧ a < 8) ∨ (¬ (0 ≤ a ∧ a < 8)) by omega) with hc1 | hc1
  · skip
    obtain ⟨rfl, hv1⟩ := (hu1.1 hc1)
    cases hv1
    refine zz_world (P' := (RP D C K (upd F 0 (nI 0)) hs mv G)) (fun _ h => h) ?_
    refine zz_ifB_ne 10 29 X.1 dX7_sieve_10 (by decide) (fun h10 => ?_) (fun h10 => ?_)
    · exact absurd h10 (by decide)
    · skip
      refine zz_aload_n 13 X.1 0 dX7_sieve_13 rfl ?_
      refine zz_iload_n 14 X.1 2 dX7_sieve_14 rfl ?_
      refine zz_iconst 15 X.1 (v := nI 0) dX7_sieve_15 rfl ?_
      refine zz_sipush 16 X.1 (v := nI 1024) dX7_sieve_16 rfl ?_
      refine zz_callS0i 19 ⟨X.1.1, X.1.2, hml, X.2.2.2.1, X.2.1⟩ (fun q h => Or.inr h) RP_keep (As := [.int x1, .int (nI 0), .int (nI 1024)]) (kt_X7_in l x1 (nI 0) (nI 1024) b ((0 : Nat) : Int) ((1024 : Nat) : Int) (h_b) (nI_toInt (by omega)) (nI_toInt (by omega))) gX7_sieve_X7_in rfl ⟨rfl, rfl⟩ yd_X7_in.2 ⟨Nat.le_of_ble_eq_true rfl, Nat.le_of_ble_eq_true rfl⟩ rfl rfl (Nat.le_of_ble_eq_true rfl) ⟨Nat.zero_le _, Nat.zero_le _⟩ dX7_sieve_19 ?_
      intro r2 hu2
      rcases (show (((0 : Nat) : Int) ≤ b ∧ b ≤ ((1024 : Nat) : Int)) ∨ (¬ (((0 : Nat) : Int) ≤ b ∧ b ≤ ((1024 : Nat) : Int))) by omega) with hc2 | hc2
      · exfalso; omega
      · skip
        obtain rfl := (hu2.2 hc2)
        refine zz_iconst 22 X.1 (v := nI 1) dX7_sieve_22 rfl ?_
        refine rr_callVi 23 X hml (As := [.int (bI false), .int (nI 1)]) (kt_X7_fails l D C K hAp (upd F 0 (nI 0)) hs mv G false 1 (by first | rfl | assumption | omega) (by first | rfl | assumption | omega)) gX7_sieve_X7_fails rfl ⟨rfl, rfl⟩ yd_X7_fails ⟨Nat.le_of_ble_eq_true rfl, Nat.le_of_ble_eq_true rfl⟩ rfl rfl (Nat.le_of_ble_eq_true rfl) dX7_sieve_23 ?_
        rintro r3 ⟨F3, hs3, mv3, G3⟩ hu3
        obtain ⟨rfl, hv3⟩ := (hu3.2 (rfl))
        cases hv3
        refine zz_world (P' := (RP D C K (upd F 0 (nI 1)) hs mv G)) (fun _ h => h) ?_
        refine zz_ifB_eq 26 31 X.1 dX7_sieve_26 (by decide) (fun h26 => ?_) (fun h26 => ?_)
        · exact absurd h26 (by decide)
        · skip
          refine zz_iconst 29 X.1 (v := nI 0) dX7_sieve_29 rfl ?_
          rw [← hQ]
          refine zz_iret 30 X.1 hr rfl hlk (upd F 0 (nI 1), hs, mv, G) ?_ (fun _ h _ => h) dX7_sieve_30
          exact ⟨rfl, rfl⟩
  · skip
    obtain ⟨rfl, hv1⟩ := (hu1.2 hc1)
    cases hv1
    refine zz_world (P' := (RP D C K (upd F 0 (nI 1)) hs mv G)) (fun _ h => h) ?_
    refine zz_ifB_ne 10 29 X.1 dX7_sieve_10 (by decide) (fun h10 => ?_) (fun h10 => ?_)
    · skip
      refine zz_iconst 29 X.1 (v := nI 0) dX7_sieve_29 rfl ?_
      rw [← hQ]
      refine zz_iret 30 X.1 hr rfl hlk (upd F 0 (nI 1), hs, mv, G) ?_ (fun _ h _ => h) dX7_sieve_30
      exact ⟨rfl, rfl⟩
    · exact absurd h10 (by decide)

set_option maxHeartbeats 4000000 in
set_option maxRecDepth 100000 in
theorem kt_X7_sieve_ok (l : Launch) (D : va_G) (C : Nat → ClassId) (K : Nat → Nat) (hAp : RAp K) (F : Nat → Int32) (hs mv : Nat → Bool) (G : Nat → Nat → Int32) (s0 : Nat) (t : Nat) (hs0 : s0 < 8) (ht : t ≤ 1024) : RMi l yX7_sieve wsX7_sieve rm_X7_sieve D C K [.int (nI s0), .int (nI t)] F hs mv G (fun (r : Int32) (u : MSt) => r = (nI (ct (fun i => decide (i < t) && pr i) 1024)) ∧ u = (upd F 0 (nI 0), sS hs s0 (fun i => decide (i < t) && pr i), mv, G)) := by
  refine RMi_of (lv := [(0, .ref (K 0)), (1, .int (nI s0)), (2, .int (nI t))]) (cc := cX7_sieve) (maxL := 4) (ret := (some .int)) rfl rfl (by decide +kernel) (Nat.le_of_ble_eq_true rfl) rfl ?_
  intro p e s m args below meth c X hml hr hlk
  generalize hQ : MQ below _ args s 0 0 _ = Q
  refine zz_aload_n 0 X.1 0 dX7_sieve_0 rfl ?_
  refine zz_iconst 1 X.1 (v := nI 0) dX7_sieve_1 rfl ?_
  refine rr_put 2 hAp X 0 (by decide) (F' := upd F 0 (nI 0)) rfl (by decide +kernel) ⟨rfl, rfl⟩ (by decide +kernel) dX7_sieve_2 ?_
  refine zz_aload_n 5 X.1 0 dX7_sieve_5 rfl ?_
  refine zz_iload_n 6 X.1 1 dX7_sieve_6 rfl ?_
  refine rr_callVi 7 X hml (As := [.int (nI s0)]) (kt_X7_noSet l D C K hAp (upd F 0 (nI 0)) hs mv G (nI s0) ((s0 : Nat) : Int) (nI_toInt (by omega)) (by first | rfl | assumption | omega)) gX7_sieve_X7_noSet rfl ⟨rfl, rfl⟩ yd_X7_noSet ⟨Nat.le_of_ble_eq_true rfl, Nat.le_of_ble_eq_true rfl⟩ rfl rfl (Nat.le_of_ble_eq_true rfl) dX7_sieve_7 ?_
  rintro r1 ⟨F1, hs1, mv1, G1⟩ hu1
  obtain ⟨rfl, hv1⟩ := (hu1.1 (by omega))
  cases hv1
  refine zz_world (P' := (RP D C K (upd F 0 (nI 0)) hs mv G)) (fun _ h => h) ?_
  refine zz_ifB_ne 10 29 X.1 dX7_sieve_10 (by decide) (fun h10 => ?_) (fun h10 => ?_)
  · exact absurd h10 (by decide)
  · skip
    refine zz_aload_n 13 X.1 0 dX7_sieve_13 rfl ?_
    refine zz_iload_n 14 X.1 2 dX7_sieve_14 rfl ?_
    refine zz_iconst 15 X.1 (v := nI 0) dX7_sieve_15 rfl ?_
    refine zz_sipush 16 X.1 (v := nI 1024) dX7_sieve_16 rfl ?_
    refine zz_callS0i 19 ⟨X.1.1, X.1.2, hml, X.2.2.2.1, X.2.1⟩ (fun q h => Or.inr h) RP_keep (As := [.int (nI t), .int (nI 0), .int (nI 1024)]) (kt_X7_in l (nI t) (nI 0) (nI 1024) ((t : Nat) : Int) ((0 : Nat) : Int) ((1024 : Nat) : Int) (nI_toInt (by omega)) (nI_toInt (by omega)) (nI_toInt (by omega))) gX7_sieve_X7_in rfl ⟨rfl, rfl⟩ yd_X7_in.2 ⟨Nat.le_of_ble_eq_true rfl, Nat.le_of_ble_eq_true rfl⟩ rfl rfl (Nat.le_of_ble_eq_true rfl) ⟨Nat.zero_le _, Nat.zero_le _⟩ dX7_sieve_19 ?_
    intro r2 hu2
    rcases (show (((0 : Nat) : Int) ≤ ((t : Nat) : Int) ∧ ((t : Nat) : Int) ≤ ((1024 : Nat) : Int)) ∨ (¬ (((0 : Nat) : Int) ≤ ((t : Nat) : Int) ∧ ((t : Nat) : Int) ≤ ((1024 : Nat) : Int))) by omega) with hc2 | hc2
    · skip
      obtain rfl := (hu2.1 hc2)
      refine zz_iconst 22 X.1 (v := nI 1) dX7_sieve_22 rfl ?_
      refine rr_callVi 23 X hml (As := [.int (bI true), .int (nI 1)]) (kt_X7_fails l D C K hAp (upd F 0 (nI 0)) hs mv G true 1 (by first | rfl | assumption | omega) (by first | rfl | assumption | omega)) gX7_sieve_X7_fails rfl ⟨rfl, rfl⟩ yd_X7_fails ⟨Nat.le_of_ble_eq_true rfl, Nat.le_of_ble_eq_true rfl⟩ rfl rfl (Nat.le_of_ble_eq_true rfl) dX7_sieve_23 ?_
      rintro r3 ⟨F3, hs3, mv3, G3⟩ hu3
      obtain ⟨rfl, hv3⟩ := (hu3.1 (rfl))
      cases hv3
      refine zz_world (P' := (RP D C K (upd F 0 (nI 0)) hs mv G)) (fun _ h => h) ?_
      refine zz_ifB_eq 26 31 X.1 dX7_sieve_26 (by decide) (fun h26 => ?_) (fun h26 => ?_)
      · skip
        refine zz_iconst 31 X.1 (v := nI 0) dX7_sieve_31 rfl ?_
        refine zz_istore_n 32 X.1 (lv' := [(3, .int (nI 0)), (0, .ref (K 0)), (1, .int (nI s0)), (2, .int (nI t))]) dX7_sieve_32 (by decide) rfl ?_
        have C33 : ∀ (d : Nat) (i : Nat) (hs1 : Nat → Bool) (hi : i ≤ 1024) (hh : hs1 = sF hs s0 (fun i => decide (i < t) && pr i) i) (hd : 1024 - i < d), ZZ p l e rm_X7_sieve s m args below meth c 0 0 Q (zz_A (RAd K) s.heap.size) (RP D C K (upd F 0 (nI 0)) hs1 mv G) 4 [(0, .ref (K 0)), (1, .int (nI s0)), (2, .int (nI t)), (3, .int (nI i))] [] 33 := by
          intro d
          induction d with
          | zero => intro i hs1 hi hh hd; exact absurd hd (Nat.not_lt_zero _)
          | succ d ih33 =>
            intro i hs1 hi hh hd
            refine zz_iload_n 33 X.1 3 dX7_sieve_33 rfl ?_
            refine zz_sipush 34 X.1 (v := nI 1024) dX7_sieve_34 rfl ?_
            refine zz_icmp_ge 37 75 X.1 (nI_toInt (by omega)) (nI_toInt (by omega)) dX7_sieve_37 (by decide) (fun h37 => ?_) (fun h37 => ?_)
            · skip
              refine rr_hs (hs' := sS hs s0 (fun i => decide (i < t) && pr i)) (hh.trans (by rw [show i = 1024 by omega]; rfl)) ?_
              refine zz_aload_n 75 X.1 0 dX7_sieve_75 rfl ?_
              refine zz_iload_n 76 X.1 1 dX7_sieve_76 rfl ?_
              refine rr_callVi 77 X hml (As := [.int (nI s0)]) (kt_X7_many l D C K hAp (upd F 0 (nI 0)) (sS hs s0 (fun i => decide (i < t) && pr i)) mv G s0 (by first | rfl | assumption | omega)) gX7_sieve_X7_many rfl ⟨rfl, rfl⟩ yd_X7_many ⟨Nat.le_of_ble_eq_true rfl, Nat.le_of_ble_eq_true rfl⟩ rfl rfl (Nat.le_of_ble_eq_true rfl) dX7_sieve_77 ?_
              rintro r4 ⟨F4, hs4, mv4, G4⟩ hu4
              obtain ⟨rfl, hv4⟩ := hu4
              cases hv4
              refine zz_world (P' := (RP D C K (upd F 0 (nI 0)) (sS hs s0 (fun i => decide (i < t) && pr i)) mv G)) (fun _ h => h) ?_
              rw [← hQ]
              refine zz_iret 80 X.1 hr rfl hlk (upd F 0 (nI 0), sS hs s0 (fun i => decide (i < t) && pr i), mv, G) ?_ (fun _ h _ => h) dX7_sieve_80
              exact ⟨by rw [ct_sS], rfl⟩
            · skip
              refine zz_aload_n 40 X.1 0 dX7_sieve_40 rfl ?_
              refine rr_get 41 X 1 (by decide) (v := .ref (K 1)) rfl (by decide +kernel) rfl dX7_sieve_41 ?_
              refine zz_sipush 44 X.1 (v := nI 1024) dX7_sieve_44 rfl ?_
              refine zz_iload_n 47 X.1 1 dX7_sieve_47 rfl ?_
              refine zz_imul 48 X.1 (v := (nI (1024 * s0))) dX7_sieve_48 (pk_mul _ _) ?_
              refine zz_iload_n 49 X.1 3 dX7_sieve_49 rfl ?_
              refine zz_iadd 50 X.1 (v := (nI ((1024 * s0) + i))) dX7_sieve_50 (nI_add _ _) ?_
              refine zz_iload_n 51 X.1 3 dX7_sieve_51 rfl ?_
              refine zz_iload_n 52 X.1 2 dX7_sieve_52 rfl ?_
              refine zz_icmp_ge 53 67 X.1 (nI_toInt (by omega)) (nI_toInt (by omega)) dX7_sieve_53 (by decide) (fun h53 => ?_) (fun h53 => ?_)
              · skip
                refine zz_iconst 67 X.1 (v := nI 0) dX7_sieve_67 rfl ?_
                refine zz_topi (bI false) rfl ?_
                refine rr_hst 68 hAp X (by omega) dX7_sieve_68 ?_
                refine zz_iinc 69 X.1 3 (v := (nI (i + 1))) (lv' := [(3, .int (nI (i + 1))), (0, .ref (K 0)), (1, .int (nI s0)), (2, .int (nI t))]) dX7_sieve_69 rfl (nI_add i 1) (by decide) rfl ?_
                refine zz_goto 72 33 X.1 dX7_sieve_72 (by decide) ?_
                refine zz_lvs [1, 2, 3, 0] rfl ?_
                exact ih33 (i + 1) (va_up hs1 ((1024 * s0) + i) false) (by omega) (sF_up2 hh (by first | (simp [show i < t by omega, *]; done) | (simp [show ¬ i < t by omega]; done))) (by omega)
              · skip
                refine zz_iload_n 56 X.1 3 dX7_sieve_56 rfl ?_
                refine zz_callS0i 57 ⟨X.1.1, X.1.2, hml, X.2.2.2.1, X.2.1⟩ (fun q h => Or.inr h) RP_keep (As := [.int (nI i)]) (kt_X7_isPrime l i (by first | rfl | assumption | omega)) gX7_sieve_X7_isPrime rfl ⟨rfl, rfl⟩ yd_X7_isPrime.2 ⟨Nat.le_of_ble_eq_true rfl, Nat.le_of_ble_eq_true rfl⟩ rfl rfl (Nat.le_of_ble_eq_true rfl) ⟨Nat.zero_le _, Nat.zero_le _⟩ dX7_sieve_57 ?_
                intro r5 hu5
                obtain rfl := hu5
                refine zz_ifB_eq 60 67 X.1 dX7_sieve_60 (by decide) (fun h60 => ?_) (fun h60 => ?_)
                · skip
                  refine zz_iconst 67 X.1 (v := nI 0) dX7_sieve_67 rfl ?_
                  refine zz_topi (bI false) rfl ?_
                  refine rr_hst 68 hAp X (by omega) dX7_sieve_68 ?_
                  refine zz_iinc 69 X.1 3 (v := (nI (i + 1))) (lv' := [(3, .int (nI (i + 1))), (0, .ref (K 0)), (1, .int (nI s0)), (2, .int (nI t))]) dX7_sieve_69 rfl (nI_add i 1) (by decide) rfl ?_
                  refine zz_goto 72 33 X.1 dX7_sieve_72 (by decide) ?_
                  refine zz_lvs [1, 2, 3, 0] rfl ?_
                  exact ih33 (i + 1) (va_up hs1 ((1024 * s0) + i) false) (by omega) (sF_up2 hh (by first | (simp [show i < t by omega, *]; done) | (simp [show ¬ i < t by omega]; done))) (by omega)
                · skip
                  refine zz_iconst 63 X.1 (v := nI 1) dX7_sieve_63 rfl ?_
                  refine zz_goto 64 68 X.1 dX7_sieve_64 (by decide) ?_
                  refine zz_topi (bI true) rfl ?_
                  refine rr_hst 68 hAp X (by omega) dX7_sieve_68 ?_
                  refine zz_iinc 69 X.1 3 (v := (nI (i + 1))) (lv' := [(3, .int (nI (i + 1))), (0, .ref (K 0)), (1, .int (nI s0)), (2, .int (nI t))]) dX7_sieve_69 rfl (nI_add i 1) (by decide) rfl ?_
                  refine zz_goto 72 33 X.1 dX7_sieve_72 (by decide) ?_
                  refine zz_lvs [1, 2, 3, 0] rfl ?_
                  exact ih33 (i + 1) (va_up hs1 ((1024 * s0) + i) true) (by omega) (sF_up2 hh (by first | (simp [show i < t by omega, *]; done) | (simp [show ¬ i < t by omega]; done))) (by omega)
        refine zz_lvs [1, 2, 3, 0] rfl ?_
        exact C33 (1024 - 0 + 1) 0 hs (by omega) (sF_0.symm) (Nat.lt_succ_self _)
      · exact absurd h26 (by decide)
    · exfalso; omega

abbrev rm_X7_lengthOf : Room := { frames := 0, cells := 0, slots := 0, locals := 0 }
theorem yd_X7_lengthOf : yX7_lengthOf.cls = RX7 ∧ yX7_lengthOf.cls ≠ "java/lang/invoke/MethodHandle" ∧ yX7_lengthOf.cls ≠ "java/lang/invoke/VarHandle" ∧ (parseMethodDescriptor yX7_lengthOf.desc).map (fun d => d.parameters.length) = some 1 := by decide +kernel
set_option maxHeartbeats 4000000 in
set_option maxRecDepth 100000 in
theorem kt_X7_lengthOf (l : Launch) (D : va_G) (C : Nat → ClassId) (K : Nat → Nat) (hAp : RAp K) (F : Nat → Int32) (hs mv : Nat → Bool) (G : Nat → Nat → Int32) (s0 : Nat) (hs0 : s0 < 8) : RMi l yX7_lengthOf wsX7_lengthOf rm_X7_lengthOf D C K [.int (nI s0)] F hs mv G (fun (r : Int32) (u : MSt) => r = (nI (ln (hM hs s0) 1024)) ∧ u = (F, hs, mv, G)) := by
  refine RMi_of (lv := [(0, .ref (K 0)), (1, .int (nI s0))]) (cc := cX7_lengthOf) (maxL := 3) (ret := (some .int)) rfl rfl (by decide +kernel) (Nat.le_of_ble_eq_true rfl) rfl ?_
  intro p e s m args below meth c X hml hr hlk
  generalize hQ : MQ below _ args s 0 0 _ = Q
  refine zz_sipush 0 X.1 (v := nI 1024) dX7_lengthOf_0 rfl ?_
  refine zz_istore_n 3 X.1 (lv' := [(2, .int (nI 1024)), (0, .ref (K 0)), (1, .int (nI s0))]) dX7_lengthOf_3 (by decide) rfl ?_
  have C4 : ∀ (d : Nat) (n2 : Nat) (hn : n2 ≤ 1024) (hz : ∀ i, n2 ≤ i → i < 1024 → hM hs s0 i = false) (hd : n2 < d), ZZ p l e rm_X7_lengthOf s m args below meth c 0 0 Q (zz_A (RAd K) s.heap.size) (RP D C K F hs mv G) 3 [(0, .ref (K 0)), (1, .int (nI s0)), (2, .int (nI n2))] [] 4 := by
    intro d
    induction d with
    | zero => intro n2 hn hz hd; exact absurd hd (Nat.not_lt_zero _)
    | succ d ih4 =>
      intro n2 hn hz hd
      refine zz_iload_n 4 X.1 2 dX7_lengthOf_4 rfl ?_
      refine zz_if_le 5 31 X.1 (nI_toInt (by omega)) dX7_lengthOf_5 (by decide) (fun h5 => ?_) (fun h5 => ?_)
      · skip
        refine zz_iload_n 31 X.1 2 dX7_lengthOf_31 rfl ?_
        rw [← hQ]
        refine zz_iret 32 X.1 hr rfl hlk (F, hs, mv, G) ?_ (fun _ h _ => h) dX7_lengthOf_32
        refine ⟨?_, rfl⟩
        rw [ln_down (m := n2) hn hz]
        first | (rw [show n2 = 0 by omega]; rfl) | (rw [ln_top (by omega) (by unfold hM; rw [← h22]; congr 1; omega)])
      · skip
        refine zz_aload_n 8 X.1 0 dX7_lengthOf_8 rfl ?_
        refine rr_get 9 X 1 (by decide) (v := .ref (K 1)) rfl (by decide +kernel) rfl dX7_lengthOf_9 ?_
        refine zz_sipush 12 X.1 (v := nI 1024) dX7_lengthOf_12 rfl ?_
        refine zz_iload_n 15 X.1 1 dX7_lengthOf_15 rfl ?_
        refine zz_imul 16 X.1 (v := (nI (1024 * s0))) dX7_lengthOf_16 (pk_mul _ _) ?_
        refine zz_iload_n 17 X.1 2 dX7_lengthOf_17 rfl ?_
        refine zz_iadd 18 X.1 (v := (nI ((1024 * s0) + n2))) dX7_lengthOf_18 (nI_add _ _) ?_
        refine zz_iconst 19 X.1 (v := nI 1) dX7_lengthOf_19 rfl ?_
        refine zz_isub 20 X.1 (v := (nI (((1024 * s0) + n2) - 1))) dX7_lengthOf_20 (pk_sub (by omega)) ?_
        refine rr_hld 21 X (by omega) dX7_lengthOf_21 ?_
        refine zz_ifB_ne 22 31 X.1 dX7_lengthOf_22 (by decide) (fun h22 => ?_) (fun h22 => ?_)
        · skip
          refine zz_iload_n 31 X.1 2 dX7_lengthOf_31 rfl ?_
          rw [← hQ]
          refine zz_iret 32 X.1 hr rfl hlk (F, hs, mv, G) ?_ (fun _ h _ => h) dX7_lengthOf_32
          refine ⟨?_, rfl⟩
          rw [ln_down (m := n2) hn hz]
          first | (rw [show n2 = 0 by omega]; rfl) | (rw [ln_top (by omega) (by unfold hM; rw [← h22]; congr 1; omega)])
        · skip
          refine zz_iinc 25 X.1 2 (v := (nI (n2 - 1))) (lv' := [(2, .int (nI (n2 - 1))), (0, .ref (K 0)), (1, .int (nI s0))]) dX7_lengthOf_25 rfl (zn_dec 1 (by omega)) (by decide) rfl ?_
          refine zz_goto 28 4 X.1 dX7_lengthOf_28 (by decide) ?_
          refine zz_lvs [1, 2, 0] rfl ?_
          exact ih4 (n2 - 1) (by omega) (fun i h1 h2 => by rcases Nat.lt_or_ge i n2 with z | z; rw [show i = n2 - 1 by omega]; unfold hM; rw [← h22]; congr 1; omega; exact hz i z h2) (by omega)
  refine zz_lvs [1, 2, 0] rfl ?_
  exact C4 (1024 + 1) 1024 (by omega) (fun i h1 h2 => by omega) (Nat.lt_succ_self _)

abbrev rm_X7_tellsWord : Room := { frames := 0, cells := 0, slots := 0, locals := 0 }
theorem yd_X7_tellsWord : yX7_tellsWord.cls = RX7 ∧ yX7_tellsWord.cls ≠ "java/lang/invoke/MethodHandle" ∧ yX7_tellsWord.cls ≠ "java/lang/invoke/VarHandle" ∧ (parseMethodDescriptor yX7_tellsWord.desc).map (fun d => d.parameters.length) = some 3 := by decide +kernel
set_option maxHeartbeats 4000000 in
set_option maxRecDepth 100000 in
theorem kt_X7_tellsWord (l : Launch) (D : va_G) (C : Nat → ClassId) (K : Nat → Nat) (hAp : RAp K) (F : Nat → Int32) (hs mv : Nat → Bool) (G : Nat → Nat → Int32) (s0 : Nat) (pl : Nat) (w : Int64) (hs0 : s0 < 8) (hpl : pl < 16) : RMv l yX7_tellsWord wsX7_tellsWord rm_X7_tellsWord D C K [.int (nI s0), .int (nI pl), .long w] F hs mv G (fun (u : MSt) => u = (F, sS hs s0 (pWd (hM hs s0) pl w), mv, G)) := by
  refine RMv_of (lv := [(0, .ref (K 0)), (1, .int (nI s0)), (2, .int (nI pl)), (3, .long w)]) (cc := cX7_tellsWord) (maxL := 6) (ret := none) rfl rfl (by decide +kernel) (Nat.le_of_ble_eq_true rfl) rfl ?_
  intro p e s m args below meth c X hml hr hlk
  generalize hQ : MQ below _ args s 0 0 _ = Q
  refine zz_iconst 0 X.1 (v := nI 0) dX7_tellsWord_0 rfl ?_
  refine zz_istore 1 X.1 (lv' := [(5, .int (nI 0)), (0, .ref (K 0)), (1, .int (nI s0)), (2, .int (nI pl)), (3, .long w)]) dX7_tellsWord_1 (by decide) rfl ?_
  have C3 : ∀ (d : Nat) (i : Nat) (hs1 : Nat → Bool) (hi : i ≤ 64) (hh : hs1 = rF hs (1024 * s0 + 64 * pl) (bL w) i) (hd : 64 - i < d), ZZ p l e rm_X7_tellsWord s m args below meth c 0 0 Q (zz_A (RAd K) s.heap.size) (RP D C K F hs1 mv G) 6 [(0, .ref (K 0)), (1, .int (nI s0)), (2, .int (nI pl)), (3, .long w), (5, .int (nI i))] [] 3 := by
    intro d
    induction d with
    | zero => intro i hs1 hi hh hd; exact absurd hd (Nat.not_lt_zero _)
    | succ d ih3 =>
      intro i hs1 hi hh hd
      refine zz_iload 3 X.1 4 dX7_tellsWord_3 rfl ?_
      refine zz_bipush 5 X.1 (v := nI 64) dX7_tellsWord_5 rfl ?_
      refine zz_icmp_ge 7 50 X.1 (nI_toInt (by omega)) (nI_toInt (by omega)) dX7_tellsWord_7 (by decide) (fun h7 => ?_) (fun h7 => ?_)
      · skip
        refine rr_hs (hs' := sS hs s0 (pWd (hM hs s0) pl w)) (hh.trans (by rw [show i = 64 by omega]; exact rF_W hpl)) ?_
        rw [← hQ]
        refine zz_vret 50 X.1 hr hlk (F, sS hs s0 (pWd (hM hs s0) pl w), mv, G) ?_ (fun _ h _ => h) dX7_tellsWord_50
        exact rfl
      · skip
        refine zz_aload_n 10 X.1 0 dX7_tellsWord_10 rfl ?_
        refine rr_get 11 X 1 (by decide) (v := .ref (K 1)) rfl (by decide +kernel) rfl dX7_tellsWord_11 ?_
        refine zz_sipush 14 X.1 (v := nI 1024) dX7_tellsWord_14 rfl ?_
        refine zz_iload_n 17 X.1 1 dX7_tellsWord_17 rfl ?_
        refine zz_imul 18 X.1 (v := (nI (1024 * s0))) dX7_tellsWord_18 (pk_mul _ _) ?_
        refine zz_bipush 19 X.1 (v := nI 64) dX7_tellsWord_19 rfl ?_
        refine zz_iload_n 21 X.1 2 dX7_tellsWord_21 rfl ?_
        refine zz_imul 22 X.1 (v := (nI (64 * pl))) dX7_tellsWord_22 (pk_mul _ _) ?_
        refine zz_iadd 23 X.1 (v := (nI ((1024 * s0) + (64 * pl)))) dX7_tellsWord_23 (nI_add _ _) ?_
        refine zz_iload 24 X.1 4 dX7_tellsWord_24 rfl ?_
        refine zz_iadd 26 X.1 (v := (nI (((1024 * s0) + (64 * pl)) + i))) dX7_tellsWord_26 (nI_add _ _) ?_
        refine zz_lload_n 27 X.1 3 dX7_tellsWord_27 rfl ?_
        refine zz_iload 28 X.1 4 dX7_tellsWord_28 rfl ?_
        refine zz_lshr 30 X.1 (v := w >>> ((nI i).toInt64 &&& 63)) dX7_tellsWord_30 rfl ?_
        refine zz_lconst 31 X.1 (v := 1) dX7_tellsWord_31 (by decide) ?_
        refine zz_land 32 X.1 (v := (w >>> ((nI i).toInt64 &&& 63)) &&& 1) dX7_tellsWord_32 rfl ?_
        refine zz_lconst 33 X.1 (v := 1) dX7_tellsWord_33 (by decide) ?_
        refine zz_lcmp 34 X.1 dX7_tellsWord_34 ?_
        refine zz_ifL_ne 35 42 X.1 dX7_tellsWord_35 (by decide) (fun h35 => ?_) (fun h35 => ?_)
        · skip
          refine zz_iconst 42 X.1 (v := nI 0) dX7_tellsWord_42 rfl ?_
          refine zz_topi (bI false) rfl ?_
          refine rr_hst 43 hAp X (by omega) dX7_tellsWord_43 ?_
          refine zz_iinc 44 X.1 4 (v := (nI (i + 1))) (lv' := [(5, .int (nI (i + 1))), (0, .ref (K 0)), (1, .int (nI s0)), (2, .int (nI pl)), (3, .long w)]) dX7_tellsWord_44 rfl (nI_add i 1) (by decide) rfl ?_
          refine zz_goto 47 3 X.1 dX7_tellsWord_47 (by decide) ?_
          refine zz_lvs [1, 2, 3, 4, 0] rfl ?_
          exact ih3 (i + 1) (va_up hs1 (((1024 * s0) + (64 * pl)) + i) false) (by omega) (rF_up2 hh (by first | exact ((bL_sh (by omega)).mp h35).symm | exact (Bool.eq_false_iff.mpr (fun z => h35 ((bL_sh (by omega)).mpr z))).symm)) (by omega)
        · skip
          refine zz_iconst 38 X.1 (v := nI 1) dX7_tellsWord_38 rfl ?_
          refine zz_goto 39 43 X.1 dX7_tellsWord_39 (by decide) ?_
          refine zz_topi (bI true) rfl ?_
          refine rr_hst 43 hAp X (by omega) dX7_tellsWord_43 ?_
          refine zz_iinc 44 X.1 4 (v := (nI (i + 1))) (lv' := [(5, .int (nI (i + 1))), (0, .ref (K 0)), (1, .int (nI s0)), (2, .int (nI pl)), (3, .long w)]) dX7_tellsWord_44 rfl (nI_add i 1) (by decide) rfl ?_
          refine zz_goto 47 3 X.1 dX7_tellsWord_47 (by decide) ?_
          refine zz_lvs [1, 2, 3, 4, 0] rfl ?_
          exact ih3 (i + 1) (va_up hs1 (((1024 * s0) + (64 * pl)) + i) true) (by omega) (rF_up2 hh (by first | exact ((bL_sh (by omega)).mp h35).symm | exact (Bool.eq_false_iff.mpr (fun z => h35 ((bL_sh (by omega)).mpr z))).symm)) (by omega)
  refine zz_lvs [1, 2, 3, 4, 0] rfl ?_
  exact C3 (64 - 0 + 1) 0 hs (by omega) (rF_0.symm) (Nat.lt_succ_self _)
