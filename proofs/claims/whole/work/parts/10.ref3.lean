abbrev rm_X7_puts : Room := { frames := 1, cells := 0, slots := 0, locals := 23 }
theorem yd_X7_puts : yX7_puts.cls = RX7 ∧ yX7_puts.cls ≠ "java/lang/invoke/MethodHandle" ∧ yX7_puts.cls ≠ "java/lang/invoke/VarHandle" ∧ (parseMethodDescriptor yX7_puts.desc).map (fun d => d.parameters.length) = some 4 := by decide +kernel
set_option maxHeartbeats 4000000 in
set_option maxRecDepth 100000 in
theorem kt_X7_puts (l : Launch) (D : va_G) (C : Nat → ClassId) (K : Nat → Nat) (hAp : RAp K) (F : Nat → Int32) (hs mv : Nat → Bool) (G : Nat → Nat → Int32) (s0 : Nat) (f : Nat) (t : Nat) (bb : Bool) (hs0 : s0 < 8) (hft : f < 2 ^ 31 ∧ t < 2 ^ 31) : RMi l yX7_puts wsX7_puts rm_X7_puts D C K [.int (nI s0), .int (nI f), .int (nI t), .int (bI bb)] F hs mv G (fun (r : Int32) (u : MSt) => r = (nI (ct (pR (hM hs s0) f t bb) 1024)) ∧ u = (F, sS hs s0 (pR (hM hs s0) f t bb), mv, G)) := by
  refine RMi_of (lv := [(0, .ref (K 0)), (1, .int (nI s0)), (2, .int (nI f)), (3, .int (nI t)), (4, .int (bI bb))]) (cc := cX7_puts) (maxL := 6) (ret := (some .int)) rfl rfl (by decide +kernel) (Nat.le_of_ble_eq_true rfl) rfl ?_
  intro p e s m args below meth c X hml hr hlk
  generalize hQ : MQ below _ args s 0 0 _ = Q
  refine zz_iload_n 0 X.1 2 dX7_puts_0 rfl ?_
  refine zz_istore 1 X.1 (lv' := [(5, .int (nI f)), (0, .ref (K 0)), (1, .int (nI s0)), (2, .int (nI f)), (3, .int (nI t)), (4, .int (bI bb))]) dX7_puts_1 (by decide) rfl ?_
  have C3 : ∀ (d : Nat) (i : Nat) (hs1 : Nat → Bool) (hi : i = f ∨ (f ≤ i ∧ i ≤ t ∧ i ≤ 1024)) (hh : hs1 = sF hs s0 (pR (hM hs s0) f t bb) i) (hd : 1024 - i < d), ZZ p l e rm_X7_puts s m args below meth c 0 0 Q (zz_A (RAd K) s.heap.size) (RP D C K F hs1 mv G) 6 [(0, .ref (K 0)), (1, .int (nI s0)), (2, .int (nI f)), (3, .int (nI t)), (4, .int (bI bb)), (5, .int (nI i))] [] 3 := by
    intro d
    induction d with
    | zero => intro i hs1 hi hh hd; exact absurd hd (Nat.not_lt_zero _)
    | succ d ih3 =>
      intro i hs1 hi hh hd
      refine zz_iload 3 X.1 5 dX7_puts_3 rfl ?_
      refine zz_iload_n 5 X.1 3 dX7_puts_5 rfl ?_
      refine zz_icmp_ge 6 38 X.1 (nI_toInt (by omega)) (nI_toInt (by omega)) dX7_puts_6 (by decide) (fun h6 => ?_) (fun h6 => ?_)
      · skip
        refine rr_hs (hs' := sS hs s0 (pR (hM hs s0) f t bb)) (hh.trans (puts_end hi (by omega))) ?_
        refine zz_aload_n 38 X.1 0 dX7_puts_38 rfl ?_
        refine zz_iload_n 39 X.1 1 dX7_puts_39 rfl ?_
        refine rr_callVi 40 X hml (As := [.int (nI s0)]) (kt_X7_many l D C K hAp F (sS hs s0 (pR (hM hs s0) f t bb)) mv G s0 (by first | rfl | assumption | omega)) gX7_puts_X7_many rfl ⟨rfl, rfl⟩ yd_X7_many ⟨Nat.le_of_ble_eq_true rfl, Nat.le_of_ble_eq_true rfl⟩ rfl rfl (Nat.le_of_ble_eq_true rfl) dX7_puts_40 ?_
        rintro r1 ⟨F1, hs1, mv1, G1⟩ hu1
        obtain ⟨rfl, hv1⟩ := hu1
        cases hv1
        refine zz_world (P' := (RP D C K F (sS hs s0 (pR (hM hs s0) f t bb)) mv G)) (fun _ h => h) ?_
        rw [← hQ]
        refine zz_iret 43 X.1 hr rfl hlk (F, sS hs s0 (pR (hM hs s0) f t bb), mv, G) ?_ (fun _ h _ => h) dX7_puts_43
        exact ⟨by rw [ct_sS], rfl⟩
      · skip
        refine zz_iload 9 X.1 5 dX7_puts_9 rfl ?_
        refine zz_sipush 11 X.1 (v := nI 1024) dX7_puts_11 rfl ?_
        refine zz_icmp_ge 14 38 X.1 (nI_toInt (by omega)) (nI_toInt (by omega)) dX7_puts_14 (by decide) (fun h14 => ?_) (fun h14 => ?_)
        · skip
          refine rr_hs (hs' := sS hs s0 (pR (hM hs s0) f t bb)) (hh.trans (puts_end hi (by omega))) ?_
          refine zz_aload_n 38 X.1 0 dX7_puts_38 rfl ?_
          refine zz_iload_n 39 X.1 1 dX7_puts_39 rfl ?_
          refine rr_callVi 40 X hml (As := [.int (nI s0)]) (kt_X7_many l D C K hAp F (sS hs s0 (pR (hM hs s0) f t bb)) mv G s0 (by first | rfl | assumption | omega)) gX7_puts_X7_many rfl ⟨rfl, rfl⟩ yd_X7_many ⟨Nat.le_of_ble_eq_true rfl, Nat.le_of_ble_eq_true rfl⟩ rfl rfl (Nat.le_of_ble_eq_true rfl) dX7_puts_40 ?_
          rintro r2 ⟨F2, hs2, mv2, G2⟩ hu2
          obtain ⟨rfl, hv2⟩ := hu2
          cases hv2
          refine zz_world (P' := (RP D C K F (sS hs s0 (pR (hM hs s0) f t bb)) mv G)) (fun _ h => h) ?_
          rw [← hQ]
          refine zz_iret 43 X.1 hr rfl hlk (F, sS hs s0 (pR (hM hs s0) f t bb), mv, G) ?_ (fun _ h _ => h) dX7_puts_43
          exact ⟨by rw [ct_sS], rfl⟩
        · skip
          refine zz_aload_n 17 X.1 0 dX7_puts_17 rfl ?_
          refine rr_get 18 X 1 (by decide) (v := .ref (K 1)) rfl (by decide +kernel) rfl dX7_puts_18 ?_
          refine zz_sipush 21 X.1 (v := nI 1024) dX7_puts_21 rfl ?_
          refine zz_iload_n 24 X.1 1 dX7_puts_24 rfl ?_
          refine zz_imul 25 X.1 (v := (nI (1024 * s0))) dX7_puts_25 (pk_mul _ _) ?_
          refine zz_iload 26 X.1 5 dX7_puts_26 rfl ?_
          refine zz_iadd 28 X.1 (v := (nI ((1024 * s0) + i))) dX7_puts_28 (nI_add _ _) ?_
          refine zz_iload 29 X.1 4 dX7_puts_29 rfl ?_
          refine rr_hst 31 hAp X (by omega) dX7_puts_31 ?_
          refine zz_iinc 32 X.1 5 (v := (nI (i + 1))) (lv' := [(5, .int (nI (i + 1))), (0, .ref (K 0)), (1, .int (nI s0)), (2, .int (nI f)), (3, .int (nI t)), (4, .int (bI bb))]) dX7_puts_32 rfl (nI_add i 1) (by decide) rfl ?_
          refine zz_goto 35 3 X.1 dX7_puts_35 (by decide) ?_
          refine zz_lvs [1, 2, 3, 4, 5, 0] rfl ?_
          exact ih3 (i + 1) (va_up hs1 ((1024 * s0) + i) bb) (by omega) (sF_up2 hh (pR_in (by omega) (by omega))) (by omega)
  refine zz_lvs [1, 2, 3, 4, 5, 0] rfl ?_
  exact C3 (1024 - f + 1) f hs (by omega) (puts_begin) (Nat.lt_succ_self _)

abbrev rm_X7_addRange : Room := { frames := 3, cells := 0, slots := 0, locals := 66 }
theorem yd_X7_addRange : yX7_addRange.cls = RX7 ∧ yX7_addRange.cls ≠ "java/lang/invoke/MethodHandle" ∧ yX7_addRange.cls ≠ "java/lang/invoke/VarHandle" ∧ (parseMethodDescriptor yX7_addRange.desc).map (fun d => d.parameters.length) = some 3 := by decide +kernel
set_option maxHeartbeats 4000000 in
set_option maxRecDepth 100000 in
theorem kt_X7_addRange_no (l : Launch) (D : va_G) (C : Nat → ClassId) (K : Nat → Nat) (hAp : RAp K) (F : Nat → Int32) (hs mv : Nat → Bool) (G : Nat → Nat → Int32) (x0 : Int32) (x1 : Int32) (x2 : Int32) (a : Int) (b : Int) (d : Int) (h_a : x0.toInt = a) (h_b : x1.toInt = b) (h_d : x2.toInt = d) (hno : ¬ ((0 ≤ a ∧ a < 8) ∧ 0 ≤ b ∧ b ≤ d ∧ d ≤ 1024)) : RMi l yX7_addRange wsX7_addRange rm_X7_addRange D C K [.int x0, .int x1, .int x2] F hs mv G (fun (r : Int32) (u : MSt) => (¬ (0 ≤ a ∧ a < 8) ∨ 1024 < d → r = (nI 0) ∧ u = (upd F 0 (nI 1), hs, mv, G)) ∧ ((0 ≤ a ∧ a < 8) ∧ d ≤ 1024 ∧ ¬ (0 ≤ b ∧ b ≤ d) → r = (nI 0) ∧ u = (upd (upd F 0 (nI 2)) 2 (F 2 + 1), hs, mv, G))) := by
  refine RMi_of (lv := [(0, .ref (K 0)), (1, .int x0), (2, .int x1), (3, .int x2)]) (cc := cX7_addRange) (maxL := 4) (ret := (some .int)) rfl rfl (by decide +kernel) (Nat.le_of_ble_eq_true rfl) rfl ?_
  intro p e s m args below meth c X hml hr hlk
  generalize hQ : MQ below _ args s 0 0 _ = Q
  refine zz_aload_n 0 X.1 0 dX7_addRange_0 rfl ?_
  refine zz_iconst 1 X.1 (v := nI 0) dX7_addRange_1 rfl ?_
  refine rr_put 2 hAp X 0 (by decide) (F' := upd F 0 (nI 0)) rfl (by decide +kernel) ⟨rfl, rfl⟩ (by decide +kernel) dX7_addRange_2 ?_
  refine zz_aload_n 5 X.1 0 dX7_addRange_5 rfl ?_
  refine zz_iload_n 6 X.1 1 dX7_addRange_6 rfl ?_
  refine zz_iload_n 7 X.1 2 dX7_addRange_7 rfl ?_
  refine zz_iload_n 8 X.1 3 dX7_addRange_8 rfl ?_
  refine rr_callVi 9 X hml (As := [.int x0, .int x1, .int x2]) (kt_X7_noPlaces l D C K hAp (upd F 0 (nI 0)) hs mv G x0 x1 x2 a b d (h_a) (h_b) (h_d) (by first | rfl | assumption | omega)) gX7_addRange_X7_noPlaces rfl ⟨rfl, rfl⟩ yd_X7_noPlaces ⟨Nat.le_of_ble_eq_true rfl, Nat.le_of_ble_eq_true rfl⟩ rfl rfl (Nat.le_of_ble_eq_true rfl) dX7_addRange_9 ?_
  rintro r1 ⟨F1, hs1, mv1, G1⟩ hu1
  rcases (show ((0 ≤ a ∧ a < 8) ∧ 0 ≤ b ∧ b ≤ d ∧ d ≤ 1024) ∨ (¬ (0 ≤ a ∧ a < 8) ∨ 1024 < d) ∨ ((0 ≤ a ∧ a < 8) ∧ d ≤ 1024 ∧ ¬ (0 ≤ b ∧ b ≤ d)) by omega) with hc1 | hc1 | hc1
  · exfalso; omega
  · skip
    obtain ⟨rfl, hv1⟩ := (hu1.2.1 hc1)
    cases hv1
    refine zz_world (P' := (RP D C K (upd F 0 (nI 1)) hs mv G)) (fun _ h => h) ?_
    refine zz_ifB_eq 12 19 X.1 dX7_addRange_12 (by decide) (fun h12 => ?_) (fun h12 => ?_)
    · exact absurd h12 (by decide)
    · skip
      refine zz_iconst 15 X.1 (v := nI 0) dX7_addRange_15 rfl ?_
      refine zz_goto 16 27 X.1 dX7_addRange_16 (by decide) ?_
      rw [← hQ]
      refine zz_iret 27 X.1 hr rfl hlk (upd F 0 (nI 1), hs, mv, G) ?_ (fun _ h _ => h) dX7_addRange_27
      refine ⟨fun hc => ?_, fun hc => ?_⟩ <;> first | (exact ⟨rfl, rfl⟩) | (exact rfl) | (exfalso; omega)
  · skip
    obtain ⟨rfl, hv1⟩ := (hu1.2.2 hc1)
    cases hv1
    refine zz_world (P' := (RP D C K (upd (upd F 0 (nI 2)) 2 ((F 2) + 1)) hs mv G)) (fun _ h => h) ?_
    refine zz_ifB_eq 12 19 X.1 dX7_addRange_12 (by decide) (fun h12 => ?_) (fun h12 => ?_)
    · exact absurd h12 (by decide)
    · skip
      refine zz_iconst 15 X.1 (v := nI 0) dX7_addRange_15 rfl ?_
      refine zz_goto 16 27 X.1 dX7_addRange_16 (by decide) ?_
      rw [← hQ]
      refine zz_iret 27 X.1 hr rfl hlk (upd (upd F 0 (nI 2)) 2 ((F 2) + 1), hs, mv, G) ?_ (fun _ h _ => h) dX7_addRange_27
      refine ⟨fun hc => ?_, fun hc => ?_⟩ <;> first | (exact ⟨rfl, rfl⟩) | (exact rfl) | (exfalso; omega)

abbrev rm_X7_putRange : Room := { frames := 3, cells := 0, slots := 0, locals := 66 }
theorem yd_X7_putRange : yX7_putRange.cls = RX7 ∧ yX7_putRange.cls ≠ "java/lang/invoke/MethodHandle" ∧ yX7_putRange.cls ≠ "java/lang/invoke/VarHandle" ∧ (parseMethodDescriptor yX7_putRange.desc).map (fun d => d.parameters.length) = some 4 := by decide +kernel
set_option maxHeartbeats 4000000 in
set_option maxRecDepth 100000 in
theorem kt_X7_putRange_no (l : Launch) (D : va_G) (C : Nat → ClassId) (K : Nat → Nat) (hAp : RAp K) (F : Nat → Int32) (hs mv : Nat → Bool) (G : Nat → Nat → Int32) (x0 : Int32) (x1 : Int32) (x2 : Int32) (bb : Bool) (a : Int) (b : Int) (d : Int) (h_a : x0.toInt = a) (h_b : x1.toInt = b) (h_d : x2.toInt = d) (hno : ¬ ((0 ≤ a ∧ a < 8) ∧ 0 ≤ b ∧ b ≤ d ∧ d ≤ 1024)) : RMi l yX7_putRange wsX7_putRange rm_X7_putRange D C K [.int x0, .int x1, .int x2, .int (bI bb)] F hs mv G (fun (r : Int32) (u : MSt) => (¬ (0 ≤ a ∧ a < 8) ∨ 1024 < d → r = (nI 0) ∧ u = (upd F 0 (nI 1), hs, mv, G)) ∧ ((0 ≤ a ∧ a < 8) ∧ d ≤ 1024 ∧ ¬ (0 ≤ b ∧ b ≤ d) → r = (nI 0) ∧ u = (upd (upd F 0 (nI 2)) 2 (F 2 + 1), hs, mv, G))) := by
  refine RMi_of (lv := [(0, .ref (K 0)), (1, .int x0), (2, .int x1), (3, .int x2), (4, .int (bI bb))]) (cc := cX7_putRange) (maxL := 5) (ret := (some .int)) rfl rfl (by decide +kernel) (Nat.le_of_ble_eq_true rfl) rfl ?_
  intro p e s m args below meth c X hml hr hlk
  generalize hQ : MQ below _ args s 0 0 _ = Q
  refine zz_aload_n 0 X.1 0 dX7_putRange_0 rfl ?_
  refine zz_iconst 1 X.1 (v := nI 0) dX7_putRange_1 rfl ?_
  refine rr_put 2 hAp X 0 (by decide) (F' := upd F 0 (nI 0)) rfl (by decide +kernel) ⟨rfl, rfl⟩ (by decide +kernel) dX7_putRange_2 ?_
  refine zz_aload_n 5 X.1 0 dX7_putRange_5 rfl ?_
  refine zz_iload_n 6 X.1 1 dX7_putRange_6 rfl ?_
  refine zz_iload_n 7 X.1 2 dX7_putRange_7 rfl ?_
  refine zz_iload_n 8 X.1 3 dX7_putRange_8 rfl ?_
  refine rr_callVi 9 X hml (As := [.int x0, .int x1, .int x2]) (kt_X7_noPlaces l D C K hAp (upd F 0 (nI 0)) hs mv G x0 x1 x2 a b d (h_a) (h_b) (h_d) (by first | rfl | assumption | omega)) gX7_putRange_X7_noPlaces rfl ⟨rfl, rfl⟩ yd_X7_noPlaces ⟨Nat.le_of_ble_eq_true rfl, Nat.le_of_ble_eq_true rfl⟩ rfl rfl (Nat.le_of_ble_eq_true rfl) dX7_putRange_9 ?_
  rintro r1 ⟨F1, hs1, mv1, G1⟩ hu1
  rcases (show ((0 ≤ a ∧ a < 8) ∧ 0 ≤ b ∧ b ≤ d ∧ d ≤ 1024) ∨ (¬ (0 ≤ a ∧ a < 8) ∨ 1024 < d) ∨ ((0 ≤ a ∧ a < 8) ∧ d ≤ 1024 ∧ ¬ (0 ≤ b ∧ b ≤ d)) by omega) with hc1 | hc1 | hc1
  · exfalso; omega
  · skip
    obtain ⟨rfl, hv1⟩ := (hu1.2.1 hc1)
    cases hv1
    refine zz_world (P' := (RP D C K (upd F 0 (nI 1)) hs mv G)) (fun _ h => h) ?_
    refine zz_ifB_eq 12 19 X.1 dX7_putRange_12 (by decide) (fun h12 => ?_) (fun h12 => ?_)
    · exact absurd h12 (by decide)
    · skip
      refine zz_iconst 15 X.1 (v := nI 0) dX7_putRange_15 rfl ?_
      refine zz_goto 16 28 X.1 dX7_putRange_16 (by decide) ?_
      rw [← hQ]
      refine zz_iret 28 X.1 hr rfl hlk (upd F 0 (nI 1), hs, mv, G) ?_ (fun _ h _ => h) dX7_putRange_28
      refine ⟨fun hc => ?_, fun hc => ?_⟩ <;> first | (exact ⟨rfl, rfl⟩) | (exact rfl) | (exfalso; omega)
  · skip
    obtain ⟨rfl, hv1⟩ := (hu1.2.2 hc1)
    cases hv1
    refine zz_world (P' := (RP D C K (upd (upd F 0 (nI 2)) 2 ((F 2) + 1)) hs mv G)) (fun _ h => h) ?_
    refine zz_ifB_eq 12 19 X.1 dX7_putRange_12 (by decide) (fun h12 => ?_) (fun h12 => ?_)
    · exact absurd h12 (by decide)
    · skip
      refine zz_iconst 15 X.1 (v := nI 0) dX7_putRange_15 rfl ?_
      refine zz_goto 16 28 X.1 dX7_putRange_16 (by decide) ?_
      rw [← hQ]
      refine zz_iret 28 X.1 hr rfl hlk (upd (upd F 0 (nI 2)) 2 ((F 2) + 1), hs, mv, G) ?_ (fun _ h _ => h) dX7_putRange_28
      refine ⟨fun hc => ?_, fun hc => ?_⟩ <;> first | (exact ⟨rfl, rfl⟩) | (exact rfl) | (exfalso; omega)

abbrev rm_X7_flipRange : Room := { frames := 3, cells := 0, slots := 0, locals := 66 }
theorem yd_X7_flipRange : yX7_flipRange.cls = RX7 ∧ yX7_flipRange.cls ≠ "java/lang/invoke/MethodHandle" ∧ yX7_flipRange.cls ≠ "java/lang/invoke/VarHandle" ∧ (parseMethodDescriptor yX7_flipRange.desc).map (fun d => d.parameters.length) = some 3 := by decide +kernel
set_option maxHeartbeats 4000000 in
set_option maxRecDepth 100000 in
theorem kt_X7_flipRange_no (l : Launch) (D : va_G) (C : Nat → ClassId) (K : Nat → Nat) (hAp : RAp K) (F : Nat → Int32) (hs mv : Nat → Bool) (G : Nat → Nat → Int32) (x0 : Int32) (x1 : Int32) (x2 : Int32) (a : Int) (b : Int) (d : Int) (h_a : x0.toInt = a) (h_b : x1.toInt = b) (h_d : x2.toInt = d) (hno : ¬ ((0 ≤ a ∧ a < 8) ∧ 0 ≤ b ∧ b ≤ d ∧ d ≤ 1024)) : RMi l yX7_flipRange wsX7_flipRange rm_X7_flipRange D C K [.int x0, .int x1, .int x2] F hs mv G (fun (r : Int32) (u : MSt) => (¬ (0 ≤ a ∧ a < 8) ∨ 1024 < d → r = (nI 0) ∧ u = (upd F 0 (nI 1), hs, mv, G)) ∧ ((0 ≤ a ∧ a < 8) ∧ d ≤ 1024 ∧ ¬ (0 ≤ b ∧ b ≤ d) → r = (nI 0) ∧ u = (upd (upd F 0 (nI 2)) 2 (F 2 + 1), hs, mv, G))) := by
  refine RMi_of (lv := [(0, .ref (K 0)), (1, .int x0), (2, .int x1), (3, .int x2)]) (cc := cX7_flipRange) (maxL := 5) (ret := (some .int)) rfl rfl (by decide +kernel) (Nat.le_of_ble_eq_true rfl) rfl ?_
  intro p e s m args below meth c X hml hr hlk
  generalize hQ : MQ below _ args s 0 0 _ = Q
  refine zz_aload_n 0 X.1 0 dX7_flipRange_0 rfl ?_
  refine zz_iconst 1 X.1 (v := nI 0) dX7_flipRange_1 rfl ?_
  refine rr_put 2 hAp X 0 (by decide) (F' := upd F 0 (nI 0)) rfl (by decide +kernel) ⟨rfl, rfl⟩ (by decide +kernel) dX7_flipRange_2 ?_
  refine zz_aload_n 5 X.1 0 dX7_flipRange_5 rfl ?_
  refine zz_iload_n 6 X.1 1 dX7_flipRange_6 rfl ?_
  refine zz_iload_n 7 X.1 2 dX7_flipRange_7 rfl ?_
  refine zz_iload_n 8 X.1 3 dX7_flipRange_8 rfl ?_
  refine rr_callVi 9 X hml (As := [.int x0, .int x1, .int x2]) (kt_X7_noPlaces l D C K hAp (upd F 0 (nI 0)) hs mv G x0 x1 x2 a b d (h_a) (h_b) (h_d) (by first | rfl | assumption | omega)) gX7_flipRange_X7_noPlaces rfl ⟨rfl, rfl⟩ yd_X7_noPlaces ⟨Nat.le_of_ble_eq_true rfl, Nat.le_of_ble_eq_true rfl⟩ rfl rfl (Nat.le_of_ble_eq_true rfl) dX7_flipRange_9 ?_
  rintro r1 ⟨F1, hs1, mv1, G1⟩ hu1
  rcases (show ((0 ≤ a ∧ a < 8) ∧ 0 ≤ b ∧ b ≤ d ∧ d ≤ 1024) ∨ (¬ (0 ≤ a ∧ a < 8) ∨ 1024 < d) ∨ ((0 ≤ a ∧ a < 8) ∧ d ≤ 1024 ∧ ¬ (0 ≤ b ∧ b ≤ d)) by omega) with hc1 | hc1 | hc1
  · exfalso; omega
  · skip
    obtain ⟨rfl, hv1⟩ := (hu1.2.1 hc1)
    cases hv1
    refine zz_world (P' := (RP D C K (upd F 0 (nI 1)) hs mv G)) (fun _ h => h) ?_
    refine zz_ifB_eq 12 17 X.1 dX7_flipRange_12 (by decide) (fun h12 => ?_) (fun h12 => ?_)
    · exact absurd h12 (by decide)
    · skip
      refine zz_iconst 15 X.1 (v := nI 0) dX7_flipRange_15 rfl ?_
      rw [← hQ]
      refine zz_iret 16 X.1 hr rfl hlk (upd F 0 (nI 1), hs, mv, G) ?_ (fun _ h _ => h) dX7_flipRange_16
      refine ⟨fun hc => ?_, fun hc => ?_⟩ <;> first | (exact ⟨rfl, rfl⟩) | (exact rfl) | (exfalso; omega)
  · skip
    obtain ⟨rfl, hv1⟩ := (hu1.2.2 hc1)
    cases hv1
    refine zz_world (P' := (RP D C K (upd (upd F 0 (nI 2)) 2 ((F 2) + 1)) hs mv G)) (fun _ h => h) ?_
    refine zz_ifB_eq 12 17 X.1 dX7_flipRange_12 (by decide) (fun h12 => ?_) (fun h12 => ?_)
    · exact absurd h12 (by decide)
    · skip
      refine zz_iconst 15 X.1 (v := nI 0) dX7_flipRange_15 rfl ?_
      rw [← hQ]
      refine zz_iret 16 X.1 hr rfl hlk (upd (upd F 0 (nI 2)) 2 ((F 2) + 1), hs, mv, G) ?_ (fun _ h _ => h) dX7_flipRange_16
      refine ⟨fun hc => ?_, fun hc => ?_⟩ <;> first | (exact ⟨rfl, rfl⟩) | (exact rfl) | (exfalso; omega)

abbrev rm_X7_removeRange : Room := { frames := 2, cells := 0, slots := 0, locals := 48 }
theorem yd_X7_removeRange : yX7_removeRange.cls = RX7 ∧ yX7_removeRange.cls ≠ "java/lang/invoke/MethodHandle" ∧ yX7_removeRange.cls ≠ "java/lang/invoke/VarHandle" ∧ (parseMethodDescriptor yX7_removeRange.desc).map (fun d => d.parameters.length) = some 3 := by decide +kernel
set_option maxHeartbeats 4000000 in
set_option maxRecDepth 100000 in
theorem kt_X7_removeRange_no (l : Launch) (D : va_G) (C : Nat → ClassId) (K : Nat → Nat) (hAp : RAp K) (F : Nat → Int32) (hs mv : Nat → Bool) (G : Nat → Nat → Int32) (x0 : Int32) (x1 : Int32) (x2 : Int32) (a : Int) (b : Int) (d : Int) (h_a : x0.toInt = a) (h_b : x1.toInt = b) (h_d : x2.toInt = d) (hno : ¬ ((0 ≤ a ∧ a < 8) ∧ 0 ≤ b ∧ b ≤ d)) : RMi l yX7_removeRange wsX7_removeRange rm_X7_removeRange D C K [.int x0, .int x1, .int x2] F hs mv G (fun (r : Int32) (u : MSt) => (¬ (0 ≤ a ∧ a < 8) → r = (nI 0) ∧ u = (upd F 0 (nI 1), hs, mv, G)) ∧ ((0 ≤ a ∧ a < 8) ∧ ¬ (0 ≤ b ∧ b ≤ d) → r = (nI 0) ∧ u = (upd (upd F 0 (nI 2)) 2 (F 2 + 1), hs, mv, G))) := by
  refine RMi_of (lv := [(0, .ref (K 0)), (1, .int x0), (2, .int x1), (3, .int x2)]) (cc := cX7_removeRange) (maxL := 4) (ret := (some .int)) rfl rfl (by decide +kernel) (Nat.le_of_ble_eq_true rfl) rfl ?_
  intro p e s m args below meth c X hml hr hlk
  generalize hQ : MQ below _ args s 0 0 _ = Q
  refine zz_aload_n 0 X.1 0 dX7_removeRange_0 rfl ?_
  refine zz_iconst 1 X.1 (v := nI 0) dX7_removeRange_1 rfl ?_
  refine rr_put 2 hAp X 0 (by decide) (F' := upd F 0 (nI 0)) rfl (by decide +kernel) ⟨rfl, rfl⟩ (by decide +kernel) dX7_removeRange_2 ?_
  refine zz_aload_n 5 X.1 0 dX7_removeRange_5 rfl ?_
  refine zz_iload_n 6 X.1 1 dX7_removeRange_6 rfl ?_
  refine rr_callVi 7 X hml (As := [.int x0]) (kt_X7_noSet l D C K hAp (upd F 0 (nI 0)) hs mv G x0 a (h_a) (by first | rfl | assumption | omega)) gX7_removeRange_X7_noSet rfl ⟨rfl, rfl⟩ yd_X7_noSet ⟨Nat.le_of_ble_eq_true rfl, Nat.le_of_ble_eq_true rfl⟩ rfl rfl (Nat.le_of_ble_eq_true rfl) dX7_removeRange_7 ?_
  rintro r1 ⟨F1, hs1, mv1, G1⟩ hu1
  rcases (show (0 ≤ a ∧ a < 8) ∨ (¬ (0 ≤ a ∧ a < 8)) by omega) with hc1 | hc1
  · skip
    obtain ⟨rfl, hv1⟩ := (hu1.1 hc1)
    cases hv1
    refine zz_world (P' := (RP D C K (upd F 0 (nI 0)) hs mv G)) (fun _ h => h) ?_
    refine zz_ifB_ne 10 22 X.1 dX7_removeRange_10 (by decide) (fun h10 => ?_) (fun h10 => ?_)
    · exact absurd h10 (by decide)
    · skip
      refine zz_aload_n 13 X.1 0 dX7_removeRange_13 rfl ?_
      refine zz_iload_n 14 X.1 2 dX7_removeRange_14 rfl ?_
      refine zz_iload_n 15 X.1 3 dX7_removeRange_15 rfl ?_
      refine rr_callVi 16 X hml (As := [.int x1, .int x2]) (kt_X7_noRange l D C K hAp (upd F 0 (nI 0)) hs mv G x1 x2 b d (h_b) (h_d) (by first | rfl | assumption | omega)) gX7_removeRange_X7_noRange rfl ⟨rfl, rfl⟩ yd_X7_noRange ⟨Nat.le_of_ble_eq_true rfl, Nat.le_of_ble_eq_true rfl⟩ rfl rfl (Nat.le_of_ble_eq_true rfl) dX7_removeRange_16 ?_
      rintro r2 ⟨F2, hs2, mv2, G2⟩ hu2
      rcases (show (0 ≤ b ∧ b ≤ d) ∨ (¬ (0 ≤ b ∧ b ≤ d)) by omega) with hc2 | hc2
      · exfalso; omega
      · skip
        obtain ⟨rfl, hv2⟩ := (hu2.2 hc2)
        cases hv2
        refine zz_world (P' := (RP D C K (upd (upd F 0 (nI 2)) 2 ((F 2) + 1)) hs mv G)) (fun _ h => h) ?_
        refine zz_ifB_eq 19 26 X.1 dX7_removeRange_19 (by decide) (fun h19 => ?_) (fun h19 => ?_)
        · exact absurd h19 (by decide)
        · skip
          refine zz_iconst 22 X.1 (v := nI 0) dX7_removeRange_22 rfl ?_
          refine zz_goto 23 34 X.1 dX7_removeRange_23 (by decide) ?_
          rw [← hQ]
          refine zz_iret 34 X.1 hr rfl hlk (upd (upd F 0 (nI 2)) 2 ((F 2) + 1), hs, mv, G) ?_ (fun _ h _ => h) dX7_removeRange_34
          refine ⟨fun hc => ?_, fun hc => ?_⟩ <;> first | (exact ⟨rfl, rfl⟩) | (exact rfl) | (exfalso; omega)
  · skip
    obtain ⟨rfl, hv1⟩ := (hu1.2 hc1)
    cases hv1
    refine zz_world (P' := (RP D C K (upd F 0 (nI 1)) hs mv G)) (fun _ h => h) ?_
    refine zz_ifB_ne 10 22 X.1 dX7_removeRange_10 (by decide) (fun h10 => ?_) (fun h10 => ?_)
    · skip
      refine zz_iconst 22 X.1 (v := nI 0) dX7_removeRange_22 rfl ?_
      refine zz_goto 23 34 X.1 dX7_removeRange_23 (by decide) ?_
      rw [← hQ]
      refine zz_iret 34 X.1 hr rfl hlk (upd F 0 (nI 1), hs, mv, G) ?_ (fun _ h _ => h) dX7_removeRange_34
      refine ⟨fun hc => ?_, fun hc => ?_⟩ <;> first | (exact ⟨rfl, rfl⟩) | (exact rfl) | (exfalso; omega)
    · exact absurd h10 (by decide)

abbrev rm_X7_countIn : Room := { frames := 2, cells := 0, slots := 0, locals := 43 }
theorem yd_X7_countIn : yX7_countIn.cls = RX7 ∧ yX7_countIn.cls ≠ "java/lang/invoke/MethodHandle" ∧ yX7_countIn.cls ≠ "java/lang/invoke/VarHandle" ∧ (parseMethodDescriptor yX7_countIn.desc).map (fun d => d.parameters.length) = some 3 := by decide +kernel
set_option maxHeartbeats 4000000 in
set_option maxRecDepth 100000 in
theorem kt_X7_countIn_no (l : Launch) (D : va_G) (C : Nat → ClassId) (K : Nat → Nat) (hAp : RAp K) (F : Nat → Int32) (hs mv : Nat → Bool) (G : Nat → Nat → Int32) (x0 : Int32) (x1 : Int32) (x2 : Int32) (a : Int) (b : Int) (d : Int) (h_a : x0.toInt = a) (h_b : x1.toInt = b) (h_d : x2.toInt = d) (hno : ¬ ((0 ≤ a ∧ a < 8) ∧ 0 ≤ b ∧ b ≤ d)) : RMi l yX7_countIn wsX7_countIn rm_X7_countIn D C K [.int x0, .int x1, .int x2] F hs mv G (fun (r : Int32) (u : MSt) => (¬ (0 ≤ a ∧ a < 8) → r = (nI 0) ∧ u = (upd F 0 (nI 1), hs, mv, G)) ∧ ((0 ≤ a ∧ a < 8) ∧ ¬ (0 ≤ b ∧ b ≤ d) → r = (nI 0) ∧ u = (upd (upd F 0 (nI 2)) 2 (F 2 + 1), hs, mv, G))) := by
  refine RMi_of (lv := [(0, .ref (K 0)), (1, .int x0), (2, .int x1), (3, .int x2)]) (cc := cX7_countIn) (maxL := 4) (ret := (some .int)) rfl rfl (by decide +kernel) (Nat.le_of_ble_eq_true rfl) rfl ?_
  intro p e s m args below meth c X hml hr hlk
  generalize hQ : MQ below _ args s 0 0 _ = Q
  refine zz_aload_n 0 X.1 0 dX7_countIn_0 rfl ?_
  refine zz_iconst 1 X.1 (v := nI 0) dX7_countIn_1 rfl ?_
  refine rr_put 2 hAp X 0 (by decide) (F' := upd F 0 (nI 0)) rfl (by decide +kernel) ⟨rfl, rfl⟩ (by decide +kernel) dX7_countIn_2 ?_
  refine zz_aload_n 5 X.1 0 dX7_countIn_5 rfl ?_
  refine zz_iload_n 6 X.1 1 dX7_countIn_6 rfl ?_
  refine rr_callVi 7 X hml (As := [.int x0]) (kt_X7_noSet l D C K hAp (upd F 0 (nI 0)) hs mv G x0 a (h_a) (by first | rfl | assumption | omega)) gX7_countIn_X7_noSet rfl ⟨rfl, rfl⟩ yd_X7_noSet ⟨Nat.le_of_ble_eq_true rfl, Nat.le_of_ble_eq_true rfl⟩ rfl rfl (Nat.le_of_ble_eq_true rfl) dX7_countIn_7 ?_
  rintro r1 ⟨F1, hs1, mv1, G1⟩ hu1
  rcases (show (0 ≤ a ∧ a < 8) ∨ (¬ (0 ≤ a ∧ a < 8)) by omega) with hc1 | hc1
  · skip
    obtain ⟨rfl, hv1⟩ := (hu1.1 hc1)
    cases hv1
    refine zz_world (P' := (RP D C K (upd F 0 (nI 0)) hs mv G)) (fun _ h => h) ?_
    refine zz_ifB_ne 10 22 X.1 dX7_countIn_10 (by decide) (fun h10 => ?_) (fun h10 => ?_)
    · exact absurd h10 (by decide)
    · skip
      refine zz_aload_n 13 X.1 0 dX7_countIn_13 rfl ?_
      refine zz_iload_n 14 X.1 2 dX7_countIn_14 rfl ?_
      refine zz_iload_n 15 X.1 3 dX7_countIn_15 rfl ?_
      refine rr_callVi 16 X hml (As := [.int x1, .int x2]) (kt_X7_noRange l D C K hAp (upd F 0 (nI 0)) hs mv G x1 x2 b d (h_b) (h_d) (by first | rfl | assumption | omega)) gX7_countIn_X7_noRange rfl ⟨rfl, rfl⟩ yd_X7_noRange ⟨Nat.le_of_ble_eq_true rfl, Nat.le_of_ble_eq_true rfl⟩ rfl rfl (Nat.le_of_ble_eq_true rfl) dX7_countIn_16 ?_
      rintro r2 ⟨F2, hs2, mv2, G2⟩ hu2
      rcases (show (0 ≤ b ∧ b ≤ d) ∨ (¬ (0 ≤ b ∧ b ≤ d)) by omega) with hc2 | hc2
      · exfalso; omega
      · skip
        obtain ⟨rfl, hv2⟩ := (hu2.2 hc2)
        cases hv2
        refine zz_world (P' := (RP D C K (upd (upd F 0 (nI 2)) 2 ((F 2) + 1)) hs mv G)) (fun _ h => h) ?_
        refine zz_ifB_eq 19 26 X.1 dX7_countIn_19 (by decide) (fun h19 => ?_) (fun h19 => ?_)
        · exact absurd h19 (by decide)
        · skip
          refine zz_iconst 22 X.1 (v := nI 0) dX7_countIn_22 rfl ?_
          refine zz_goto 23 33 X.1 dX7_countIn_23 (by decide) ?_
          rw [← hQ]
          refine zz_iret 33 X.1 hr rfl hlk (upd (upd F 0 (nI 2)) 2 ((F 2) + 1), hs, mv, G) ?_ (fun _ h _ => h) dX7_countIn_33
          refine ⟨fun hc => ?_, fun hc => ?_⟩ <;> first | (exact ⟨rfl, rfl⟩) | (exact rfl) | (exfalso; omega)
  · skip
    obtain ⟨rfl, hv1⟩ := (hu1.2 hc1)
    cases hv1
    refine zz_world (P' := (RP D C K (upd F 0 (nI 1)) hs mv G)) (fun _ h => h) ?_
    refine zz_ifB_ne 10 22 X.1 dX7_countIn_10 (by decide) (fun h10 => ?_) (fun h10 => ?_)
    · skip
      refine zz_iconst 22 X.1 (v := nI 0) dX7_countIn_22 rfl ?_
      refine zz_goto 23 33 X.1 dX7_countIn_23 (by decide) ?_
      rw [← hQ]
      refine zz_iret 33 X.1 hr rfl hlk (upd F 0 (nI 1), hs, mv, G) ?_ (fun _ h _ => h) dX7_countIn_33
      refine ⟨fun hc => ?_, fun hc => ?_⟩ <;> first | (exact ⟨rfl, rfl⟩) | (exact rfl) | (exfalso; omega)
    · exact absurd h10 (by decide)

set_option maxHeartbeats 4000000 in
set_option maxRecDepth 100000 in
theorem kt_X7_addRange_ok (l : Launch) (D : va_G) (C : Nat → ClassId) (K : Nat → Nat) (hAp : RAp K) (F : Nat → Int32) (hs mv : Nat → Bool) (G : Nat → Nat → Int32) (s0 : Nat) (f : Nat) (t : Nat) (hs0 : s0 < 8) (hft : f ≤ t ∧ t ≤ 1024) : RMi l yX7_addRange wsX7_addRange rm_X7_addRange D C K [.int (nI s0), .int (nI f), .int (nI t)] F hs mv G (fun (r : Int32) (u : MSt) => r = (nI (ct (pR (hM hs s0) f t true) 1024)) ∧ u = (upd F 0 (nI 0), sS hs s0 (pR (hM hs s0) f t true), mv, G)) := by
  refine RMi_of (lv := [(0, .ref (K 0)), (1, .int (nI s0)), (2, .int (nI f)), (3, .int (nI t))]) (cc := cX7_addRange) (maxL := 4) (ret := (some .int)) rfl rfl (by decide +kernel) (Nat.le_of_ble_eq_true rfl) rfl ?_
  intro p e s m args below meth c X hml hr hlk
  generalize hQ : MQ below _ args s 0 0 _ = Q
  refine zz_aload_n 0 X.1 0 dX7_addRange_0 rfl ?_
  refine zz_iconst 1 X.1 (v := nI 0) dX7_addRange_1 rfl ?_
  refine rr_put 2 hAp X 0 (by decide) (F' := upd F 0 (nI 0)) rfl (by decide +kernel) ⟨rfl, rfl⟩ (by decide +kernel) dX7_addRange_2 ?_
  refine zz_aload_n 5 X.1 0 dX7_addRange_5 rfl ?_
  refine zz_iload_n 6 X.1 1 dX7_addRange_6 rfl ?_
  refine zz_iload_n 7 X.1 2 dX7_addRange_7 rfl ?_
  refine zz_iload_n 8 X.1 3 dX7_addRange_8 rfl ?_
  refine rr_callVi 9 X hml (As := [.int (nI s0), .int (nI f), .int (nI t)]) (kt_X7_noPlaces l D C K hAp (upd F 0 (nI 0)) hs mv G (nI s0) (nI f) (nI t) ((s0 : Nat) : Int) ((f : Nat) : Int) ((t : Nat) : Int) (nI_toInt (by omega)) (nI_toInt (by omega)) (nI_toInt (by omega)) (by first | rfl | assumption | omega)) gX7_addRange_X7_noPlaces rfl ⟨rfl, rfl⟩ yd_X7_noPlaces ⟨Nat.le_of_ble_eq_true rfl, Nat.le_of_ble_eq_true rfl⟩ rfl rfl (Nat.le_of_ble_eq_true rfl) dX7_addRange_9 ?_
  rintro r1 ⟨F1, hs1, mv1, G1⟩ hu1
  obtain ⟨rfl, hv1⟩ := (hu1.1 (by omega))
  cases hv1
  refine zz_world (P' := (RP D C K (upd F 0 (nI 0)) hs mv G)) (fun _ h => h) ?_
  refine zz_ifB_eq 12 19 X.1 dX7_addRange_12 (by decide) (fun h12 => ?_) (fun h12 => ?_)
  · skip
    refine zz_aload_n 19 X.1 0 dX7_addRange_19 rfl ?_
    refine zz_iload_n 20 X.1 1 dX7_addRange_20 rfl ?_
    refine zz_iload_n 21 X.1 2 dX7_addRange_21 rfl ?_
    refine zz_iload_n 22 X.1 3 dX7_addRange_22 rfl ?_
    refine zz_iconst 23 X.1 (v := nI 1) dX7_addRange_23 rfl ?_
    refine rr_callVi 24 X hml (As := [.int (nI s0), .int (nI f), .int (nI t), .int (bI true)]) (kt_X7_puts l D C K hAp (upd F 0 (nI 0)) hs mv G s0 f t true (by first | rfl | assumption | omega) (by first | rfl | assumption | omega)) gX7_addRange_X7_puts rfl ⟨rfl, rfl⟩ yd_X7_puts ⟨Nat.le_of_ble_eq_true rfl, Nat.le_of_ble_eq_true rfl⟩ rfl rfl (Nat.le_of_ble_eq_true rfl) dX7_addRange_24 ?_
    rintro r2 ⟨F2, hs2, mv2, G2⟩ hu2
    obtain ⟨rfl, hv2⟩ := hu2
    cases hv2
    refine zz_world (P' := (RP D C K (upd F 0 (nI 0)) (sS hs s0 (pR (hM hs s0) f t true)) mv G)) (fun _ h => h) ?_
    rw [← hQ]
    refine zz_iret 27 X.1 hr rfl hlk (upd F 0 (nI 0), sS hs s0 (pR (hM hs s0) f t true), mv, G) ?_ (fun _ h _ => h) dX7_addRange_27
    exact ⟨rfl, rfl⟩
  · exact absurd h12 (by decide)

set_option maxHeartbeats 4000000 in
set_option maxRecDepth 100000 in
theorem kt_X7_putRange_ok (l : Launch) (D : va_G) (C : Nat → ClassId) (K : Nat → Nat) (hAp : RAp K) (F : Nat → Int32) (hs mv : Nat → Bool) (G : Nat → Nat → Int32) (s0 : Nat) (f : Nat) (t : Nat) (bb : Bool) (hs0 : s0 < 8) (hft : f ≤ t ∧ t ≤ 1024) : RMi l yX7_putRange wsX7_putRange rm_X7_putRange D C K [.int (nI s0), .int (nI f), .int (nI t), .int (bI bb)] F hs mv G (fun (r : Int32) (u : MSt) => r = (nI (ct (pR (hM hs s0) f t bb) 1024)) ∧ u = (upd F 0 (nI 0), sS hs s0 (pR (hM hs s0) f t bb), mv, G)) := by
  refine RMi_of (lv := [(0, .ref (K 0)), (1, .int (nI s0)), (2, .int (nI f)), (3, .int (nI t)), (4, .int (bI bb))]) (cc := cX7_putRange) (maxL := 5) (ret := (some .int)) rfl rfl (by decide +kernel) (Nat.le_of_ble_eq_true rfl) rfl ?_
  intro p e s m args below meth c X hml hr hlk
  generalize hQ : MQ below _ args s 0 0 _ = Q
  refine zz_aload_n 0 X.1 0 dX7_putRange_0 rfl ?_
  refine zz_iconst 1 X.1 (v := nI 0) dX7_putRange_1 rfl ?_
  refine rr_put 2 hAp X 0 (by decide) (F' := upd F 0 (nI 0)) rfl (by decide +kernel) ⟨rfl, rfl⟩ (by decide +kernel) dX7_putRange_2 ?_
  refine zz_aload_n 5 X.1 0 dX7_putRange_5 rfl ?_
  refine zz_iload_n 6 X.1 1 dX7_putRange_6 rfl ?_
  refine zz_iload_n 7 X.1 2 dX7_putRange_7 rfl ?_
  refine zz_iload_n 8 X.1 3 dX7_putRange_8 rfl ?_
  refine rr_callVi 9 X hml (As := [.int (nI s0), .int (nI f), .int (nI t)]) (kt_X7_noPlaces l D C K hAp (upd F 0 (nI 0)) hs mv G (nI s0) (nI f) (nI t) ((s0 : Nat) : Int) ((f : Nat) : Int) ((t : Nat) : Int) (nI_toInt (by omega)) (nI_toInt (by omega)) (nI_toInt (by omega)) (by first | rfl | assumption | omega)) gX7_putRange_X7_noPlaces rfl ⟨rfl, rfl⟩ yd_X7_noPlaces ⟨Nat.le_of_ble_eq_true rfl, Nat.le_of_ble_eq_true rfl⟩ rfl rfl (Nat.le_of_ble_eq_true rfl) dX7_putRange_9 ?_
  rintro r1 ⟨F1, hs1, mv1, G1⟩ hu1
  obtain ⟨rfl, hv1⟩ := (hu1.1 (by omega))
  cases hv1
  refine zz_world (P' := (RP D C K (upd F 0 (nI 0)) hs mv G)) (fun _ h => h) ?_
  refine zz_ifB_eq 12 19 X.1 dX7_putRange_12 (by decide) (fun h12 => ?_) (fun h12 => ?_)
  · skip
    refine zz_aload_n 19 X.1 0 dX7_putRange_19 rfl ?_
    refine zz_iload_n 20 X.1 1 dX7_putRange_20 rfl ?_
    refine zz_iload_n 21 X.1 2 dX7_putRange_21 rfl ?_
    refine zz_iload_n 22 X.1 3 dX7_putRange_22 rfl ?_
    refine zz_iload 23 X.1 4 dX7_putRange_23 rfl ?_
    refine rr_callVi 25 X hml (As := [.int (nI s0), .int (nI f), .int (nI t), .int (bI bb)]) (kt_X7_puts l D C K hAp (upd F 0 (nI 0)) hs mv G s0 f t bb (by first | rfl | assumption | omega) (by first | rfl | assumption | omega)) gX7_putRange_X7_puts rfl ⟨rfl, rfl⟩ yd_X7_puts ⟨Nat.le_of_ble_eq_true rfl, Nat.le_of_ble_eq_true rfl⟩ rfl rfl (Nat.le_of_ble_eq_true rfl) dX7_putRange_25 ?_
    rintro r2 ⟨F2, hs2, mv2, G2⟩ hu2
    obtain ⟨rfl, hv2⟩ := hu2
    cases hv2
    refine zz_world (P' := (RP D C K (upd F 0 (nI 0)) (sS hs s0 (pR (hM hs s0) f t bb)) mv G)) (fun _ h => h) ?_
    rw [← hQ]
    refine zz_iret 28 X.1 hr rfl hlk (upd F 0 (nI 0), sS hs s0 (pR (hM hs s0) f t bb), mv, G) ?_ (fun _ h _ => h) dX7_putRange_28
    exact ⟨rfl, rfl⟩
  · exact absurd h12 (by decide)

set_option maxHeartbeats 4000000 in
set_option maxRecDepth 100000 in
theorem kt_X7_removeRange_ok (l : Launch) (D : va_G) (C : Nat → ClassId) (K : Nat → Nat) (hAp : RAp K) (F : Nat → Int32) (hs mv : Nat → Bool) (G : Nat → Nat → Int32) (s0 : Nat) (f : Nat) (t : Nat) (hs0 : s0 < 8) (hft : f ≤ t ∧ t < 2 ^ 31) : RMi l yX7_removeRange wsX7_removeRange rm_X7_removeRange D C K [.int (nI s0), .int (nI f), .int (nI t)] F hs mv G (fun (r : Int32) (u : MSt) => r = (nI (ct (pR (hM hs s0) f t false) 1024)) ∧ u = (upd F 0 (nI 0), sS hs s0 (pR (hM hs s0) f t false), mv, G)) := by
  refine RMi_of (lv := [(0, .ref (K 0)), (1, .int (nI s0)), (2, .int (nI f)), (3, .int (nI t))]) (cc := cX7_removeRange) (maxL := 4) (ret := (some .int)) rfl rfl (by decide +kernel) (Nat.le_of_ble_eq_true rfl) rfl ?_
  intro p e s m args below meth c X hml hr hlk
  generalize hQ : MQ below _ args s 0 0 _ = Q
  refine zz_aload_n 0 X.1 0 dX7_removeRange_0 rfl ?_
  refine zz_iconst 1 X.1 (v := nI 0) dX7_removeRange_1 rfl ?_
  refine rr_put 2 hAp X 0 (by decide) (F' := upd F 0 (nI 0)) rfl (by decide +kernel) ⟨rfl, rfl⟩ (by decide +kernel) dX7_removeRange_2 ?_
  refine zz_aload_n 5 X.1 0 dX7_removeRange_5 rfl ?_
  refine zz_iload_n 6 X.1 1 dX7_removeRange_6 rfl ?_
  refine rr_callVi 7 X hml (As := [.int (nI s0)]) (kt_X7_noSet l D C K hAp (upd F 0 (nI 0)) hs mv G (nI s0) ((s0 : Nat) : Int) (nI_toInt (by omega)) (by first | rfl | assumption | omega)) gX7_removeRange_X7_noSet rfl ⟨rfl, rfl⟩ yd_X7_noSet ⟨Nat.le_of_ble_eq_true rfl, Nat.le_of_ble_eq_true rfl⟩ rfl rfl (Nat.le_of_ble_eq_true rfl) dX7_removeRange_7 ?_
  rintro r1 ⟨F1, hs1, mv1, G1⟩ hu1
  obtain ⟨rfl, hv1⟩ := (hu1.1 (by omega))
  cases hv1
  refine zz_world (P' := (RP D C K (upd F 0 (nI 0)) hs mv G)) (fun _ h => h) ?_
  refine zz_ifB_ne 10 22 X.1 dX7_removeRange_10 (by decide) (fun h10 => ?_) (fun h10 => ?_)
  · exact absurd h10 (by decide)
  · skip
    refine zz_aload_n 13 X.1 0 dX7_removeRange_13 rfl ?_
    refine zz_iload_n 14 X.1 2 dX7_removeRange_14 rfl ?_
    refine zz_iload_n 15 X.1 3 dX7_removeRange_15 rfl ?_
    refine rr_callVi 16 X hml (As := [.int (nI f), .int (nI t)]) (kt_X7_noRange l D C K hAp (upd F 0 (nI 0)) hs mv G (nI f) (nI t) ((f : Nat) : Int) ((t : Nat) : Int) (nI_toInt (by omega)) (nI_toInt (by omega)) (by first | rfl | assumption | omega)) gX7_removeRange_X7_noRange rfl ⟨rfl, rfl⟩ yd_X7_noRange ⟨Nat.le_of_ble_eq_true rfl, Nat.le_of_ble_eq_true rfl⟩ rfl rfl (Nat.le_of_ble_eq_true rfl) dX7_removeRange_16 ?_
    rintro r2 ⟨F2, hs2, mv2, G2⟩ hu2
    obtain ⟨rfl, hv2⟩ := (hu2.1 (by omega))
    cases hv2
    refine zz_world (P' := (RP D C K (upd F 0 (nI 0)) hs mv G)) (fun _ h => h) ?_
    refine zz_ifB_eq 19 26 X.1 dX7_removeRange_19 (by decide) (fun h19 => ?_) (fun h19 => ?_)
    · skip
      refine zz_aload_n 26 X.1 0 dX7_removeRange_26 rfl ?_
      refine zz_iload_n 27 X.1 1 dX7_removeRange_27 rfl ?_
      refine zz_iload_n 28 X.1 2 dX7_removeRange_28 rfl ?_
      refine zz_iload_n 29 X.1 3 dX7_removeRange_29 rfl ?_
      refine zz_iconst 30 X.1 (v := nI 0) dX7_removeRange_30 rfl ?_
      refine rr_callVi 31 X hml (As := [.int (nI s0), .int (nI f), .int (nI t), .int (bI false)]) (kt_X7_puts l D C K hAp (upd F 0 (nI 0)) hs mv G s0 f t false (by first | rfl | assumption | omega) (by first | rfl | assumption | omega)) gX7_removeRange_X7_puts rfl ⟨rfl, rfl⟩ yd_X7_puts ⟨Nat.le_of_ble_eq_true rfl, Nat.le_of_ble_eq_true rfl⟩ rfl rfl (Nat.le_of_ble_eq_true rfl) dX7_removeRange_31 ?_
      rintro r3 ⟨F3, hs3, mv3, G3⟩ hu3
      obtain ⟨rfl, hv3⟩ := hu3
      cases hv3
      refine zz_world (P' := (RP D C K (upd F 0 (nI 0)) (sS hs s0 (pR (hM hs s0) f t false)) mv G)) (fun _ h => h) ?_
      rw [← hQ]
      refine zz_iret 34 X.1 hr rfl hlk (upd F 0 (nI 0), sS hs s0 (pR (hM hs s0) f t false), mv, G) ?_ (fun _ h _ => h) dX7_removeRange_34
      exact ⟨rfl, rfl⟩
    · exact absurd h19 (by decide)

set_option maxHeartbeats 4000000 in
set_option maxRecDepth 100000 in
theorem kt_X7_flipRange_ok (l : Launch) (D : va_G) (C : Nat → ClassId) (K : Nat → Nat) (hAp : RAp K) (F : Nat → Int32) (hs mv : Nat → Bool) (G : Nat → Nat → Int32) (s0 : Nat) (f : Nat) (t : Nat) (hs0 : s0 < 8) (hft : f ≤ t ∧ t ≤ 1024) : RMi l yX7_flipRange wsX7_flipRange rm_X7_flipRange D C K [.int (nI s0), .int (nI f), .int (nI t)] F hs mv G (fun (r : Int32) (u : MSt) => r = (nI (ct (pX (hM hs s0) f t) 1024)) ∧ u = (upd F 0 (nI 0), sS hs s0 (pX (hM hs s0) f t), mv, G)) := by
  refine RMi_of (lv := [(0, .ref (K 0)), (1, .int (nI s0)), (2, .int (nI f)), (3, .int (nI t))]) (cc := cX7_flipRange) (maxL := 5) (ret := (some .int)) rfl rfl (by decide +kernel) (Nat.le_of_ble_eq_true rfl) rfl ?_
  intro p e s m args below meth c X hml hr hlk
  generalize hQ : MQ below _ args s 0 0 _ = Q
  refine zz_aload_n 0 X.1 0 dX7_flipRange_0 rfl ?_
  refine zz_iconst 1 X.1 (v := nI 0) dX7_flipRange_1 rfl ?_
  refine rr_put 2 hAp X 0 (by decide) (F' := upd F 0 (nI 0)) rfl (by decide +kernel) ⟨rfl, rfl⟩ (by decide +kernel) dX7_flipRange_2 ?_
  refine zz_aload_n 5 X.1 0 dX7_flipRange_5 rfl ?_
  refine zz_iload_n 6 X.1 1 dX7_flipRange_6 rfl ?_
  refine zz_iload_n 7 X.1 2 dX7_flipRange_7 rfl ?_
  refine zz_iload_n 8 X.1 3 dX7_flipRange_8 rfl ?_
  refine rr_callVi 9 X hml (As := [.int (nI s0), .int (nI f), .int (nI t)]) (kt_X7_noPlaces l D C K hAp (upd F 0 (nI 0)) hs mv G (nI s0) (nI f) (nI t) ((s0 : Nat) : Int) ((f : Nat) : Int) ((t : Nat) : Int) (nI_toInt (by omega)) (nI_toInt (by omega)) (nI_toInt (by omega)) (by first | rfl | assumption | omega)) gX7_flipRange_X7_noPlaces rfl ⟨rfl, rfl⟩ yd_X7_noPlaces ⟨Nat.le_of_ble_eq_true rfl, Nat.le_of_ble_eq_true rfl⟩ rfl rfl (Nat.le_of_ble_eq_true rfl) dX7_flipRange_9 ?_
  rintro r1 ⟨F1, hs1, mv1, G1⟩ hu1
  obtain ⟨rfl, hv1⟩ := (hu1.1 (by omega))
  cases hv1
  refine zz_world (P' := (RP D C K (upd F 0 (nI 0)) hs mv G)) (fun _ h => h) ?_
  refine zz_ifB_eq 12 17 X.1 dX7_flipRange_12 (by decide) (fun h12 => ?_) (fun h12 => ?_)
  · skip
    refine zz_iload_n 17 X.1 2 dX7_flipRange_17 rfl ?_
    refine zz_istore 18 X.1 (lv' := [(4, .int (nI f)), (0, .ref (K 0)), (1, .int (nI s0)), (2, .int (nI f)), (3, .int (nI t))]) dX7_flipRange_18 (by decide) rfl ?_
    have C20 : ∀ (d : Nat) (i : Nat) (hs1 : Nat → Bool) (hi : f ≤ i ∧ i ≤ t) (hh : hs1 = sF hs s0 (pX (hM hs s0) f t) i) (hd : t - i < d), ZZ p l e rm_X7_flipRange s m args below meth c 0 0 Q (zz_A (RAd K) s.heap.size) (RP D C K (upd F 0 (nI 0)) hs1 mv G) 5 [(0, .ref (K 0)), (1, .int (nI s0)), (3, .int (nI t)), (4, .int (nI i))] [] 20 := by
      intro d
      induction d with
      | zero => intro i hs1 hi hh hd; exact absurd hd (Nat.not_lt_zero _)
      | succ d ih20 =>
        intro i hs1 hi hh hd
        have ea : hM hs s0 i = hs1 (1024 * s0 + i) := by rw [hh, sF_rd (Nat.le_refl _)]; rfl
        refine zz_iload 20 X.1 3 dX7_flipRange_20 rfl ?_
        refine zz_iload_n 22 X.1 2 dX7_flipRange_22 rfl ?_
        refine zz_icmp_ge 23 66 X.1 (nI_toInt (by omega)) (nI_toInt (by omega)) dX7_flipRange_23 (by decide) (fun h23 => ?_) (fun h23 => ?_)
        · skip
          refine rr_hs (hs' := sS hs s0 (pX (hM hs s0) f t)) (hh.trans (flip_end (by omega) (by omega))) ?_
          refine zz_aload_n 66 X.1 0 dX7_flipRange_66 rfl ?_
          refine zz_iload_n 67 X.1 1 dX7_flipRange_67 rfl ?_
          refine rr_callVi 68 X hml (As := [.int (nI s0)]) (kt_X7_many l D C K hAp (upd F 0 (nI 0)) (sS hs s0 (pX (hM hs s0) f t)) mv G s0 (by first | rfl | assumption | omega)) gX7_flipRange_X7_many rfl ⟨rfl, rfl⟩ yd_X7_many ⟨Nat.le_of_ble_eq_true rfl, Nat.le_of_ble_eq_true rfl⟩ rfl rfl (Nat.le_of_ble_eq_true rfl) dX7_flipRange_68 ?_
          rintro r2 ⟨F2, hs2, mv2, G2⟩ hu2
          obtain ⟨rfl, hv2⟩ := hu2
          cases hv2
          refine zz_world (P' := (RP D C K (upd F 0 (nI 0)) (sS hs s0 (pX (hM hs s0) f t)) mv G)) (fun _ h => h) ?_
          rw [← hQ]
          refine zz_iret 71 X.1 hr rfl hlk (upd F 0 (nI 0), sS hs s0 (pX (hM hs s0) f t), mv, G) ?_ (fun _ h _ => h) dX7_flipRange_71
          exact ⟨by rw [ct_sS], rfl⟩
        · skip
          refine zz_aload_n 26 X.1 0 dX7_flipRange_26 rfl ?_
          refine rr_get 27 X 1 (by decide) (v := .ref (K 1)) rfl (by decide +kernel) rfl dX7_flipRange_27 ?_
          refine zz_sipush 30 X.1 (v := nI 1024) dX7_flipRange_30 rfl ?_
          refine zz_iload_n 33 X.1 1 dX7_flipRange_33 rfl ?_
          refine zz_imul 34 X.1 (v := (nI (1024 * s0))) dX7_flipRange_34 (pk_mul _ _) ?_
          refine zz_iload 35 X.1 3 dX7_flipRange_35 rfl ?_
          refine zz_iadd 37 X.1 (v := (nI ((1024 * s0) + i))) dX7_flipRange_37 (nI_add _ _) ?_
          refine zz_aload_n 38 X.1 0 dX7_flipRange_38 rfl ?_
          refine rr_get 39 X 1 (by decide) (v := .ref (K 1)) rfl (by decide +kernel) rfl dX7_flipRange_39 ?_
          refine zz_sipush 42 X.1 (v := nI 1024) dX7_flipRange_42 rfl ?_
          refine zz_iload_n 45 X.1 1 dX7_flipRange_45 rfl ?_
          refine zz_imul 46 X.1 (v := (nI (1024 * s0))) dX7_flipRange_46 (pk_mul _ _) ?_
          refine zz_iload 47 X.1 3 dX7_flipRange_47 rfl ?_
          refine zz_iadd 49 X.1 (v := (nI ((1024 * s0) + i))) dX7_flipRange_49 (nI_add _ _) ?_
          refine rr_hld 50 X (by omega) dX7_flipRange_50 ?_
          refine zz_ifB_ne 51 58 X.1 dX7_flipRange_51 (by decide) (fun h51 => ?_) (fun h51 => ?_)
          · skip
            refine zz_iconst 58 X.1 (v := nI 0) dX7_flipRange_58 rfl ?_
            refine zz_topi (bI false) rfl ?_
            refine rr_hst 59 hAp X (by omega) dX7_flipRange_59 ?_
            refine zz_iinc 60 X.1 3 (v := (nI (i + 1))) (lv' := [(4, .int (nI (i + 1))), (0, .ref (K 0)), (1, .int (nI s0)), (3, .int (nI t))]) dX7_flipRange_60 rfl (nI_add i 1) (by decide) rfl ?_
            refine zz_goto 63 20 X.1 dX7_flipRange_63 (by decide) ?_
            refine zz_lvs [1, 2, 3, 0] rfl ?_
            exact ih20 (i + 1) (va_up hs1 ((1024 * s0) + i) false) (by omega) (sF_up2 hh (by rw [pX_in (by omega) (by omega), ea, h51]; rfl)) (by omega)
          · skip
            refine zz_iconst 54 X.1 (v := nI 1) dX7_flipRange_54 rfl ?_
            refine zz_goto 55 59 X.1 dX7_flipRange_55 (by decide) ?_
            refine zz_topi (bI true) rfl ?_
            refine rr_hst 59 hAp X (by omega) dX7_flipRange_59 ?_
            refine zz_iinc 60 X.1 3 (v := (nI (i + 1))) (lv' := [(4, .int (nI (i + 1))), (0, .ref (K 0)), (1, .int (nI s0)), (3, .int (nI t))]) dX7_flipRange_60 rfl (nI_add i 1) (by decide) rfl ?_
            refine zz_goto 63 20 X.1 dX7_flipRange_63 (by decide) ?_
            refine zz_lvs [1, 2, 3, 0] rfl ?_
            exact ih20 (i + 1) (va_up hs1 ((1024 * s0) + i) true) (by omega) (sF_up2 hh (by rw [pX_in (by omega) (by omega), ea, h51]; rfl)) (by omega)
    refine zz_lvs [1, 2, 4, 0] rfl ?_
    exact C20 (t - f + 1) f hs (by omega) (flip_begin) (Nat.lt_succ_self _)
  · exact absurd h12 (by decide)

abbrev rm_X7_removeAll : Room := { frames := 2, cells := 0, slots := 0, locals := 43 }
theorem yd_X7_removeAll : yX7_removeAll.cls = RX7 ∧ yX7_removeAll.cls ≠ "java/lang/invoke/MethodHandle" ∧ yX7_removeAll.cls ≠ "java/lang/invoke/VarHandle" ∧ (parseMethodDescriptor yX7_removeAll.desc).map (fun d => d.parameters.length) = some 1 := by decide +kernel
set_option maxHeartbeats 4000000 in
set_option maxRecDepth 100000 in
theorem kt_X7_removeAll_no (l : Launch) (D : va_G) (C : Nat → ClassId) (K : Nat → Nat) (hAp : RAp K) (F : Nat → Int32) (hs mv : Nat → Bool) (G : Nat → Nat → Int32) (x0 : Int32) (a : Int) (h_a : x0.toInt = a) (hno : ¬ (0 ≤ a ∧ a < 8)) : RMi l yX7_removeAll wsX7_removeAll rm_X7_removeAll D C K [.int x0] F hs mv G (fun (r : Int32) (u : MSt) => r = (nI 0) ∧ u = (upd F 0 (nI 1), hs, mv, G)) := by
  refine RMi_of (lv := [(0, .ref (K 0)), (1, .int x0)]) (cc := cX7_removeAll) (maxL := 3) (ret := (some .int)) rfl rfl (by decide +kernel) (Nat.le_of_ble_eq_true rfl) rfl ?_
  intro p e s m args below meth c X hml hr hlk
  generalize hQ : MQ below _ args s 0 0 _ = Q
  refine zz_aload_n 0 X.1 0 dX7_removeAll_0 rfl ?_
  refine zz_iconst 1 X.1 (v := nI 0) dX7_removeAll_1 rfl ?_
  refine rr_put 2 hAp X 0 (by decide) (F' := upd F 0 (nI 0)) rfl (by decide +kernel) ⟨rfl, rfl⟩ (by decide +kernel) dX7_removeAll_2 ?_
  refine zz_aload_n 5 X.1 0 dX7_removeAll_5 rfl ?_
  refine zz_iload_n 6 X.1 1 dX7_removeAll_6 rfl ?_
  refine rr_callVi 7 X hml (As := [.int x0]) (kt_X7_noSet l D C K hAp (upd F 0 (nI 0)) hs mv G x0 a (h_a) (by first | rfl | assumption | omega)) gX7_removeAll_X7_noSet rfl ⟨rfl, rfl⟩ yd_X7_noSet ⟨Nat.le_of_ble_eq_true rfl, Nat.le_of_ble_eq_true rfl⟩ rfl rfl (Nat.le_of_ble_eq_true rfl) dX7_removeAll_7 ?_
  rintro r1 ⟨F1, hs1, mv1, G1⟩ hu1
  rcases (show (0 ≤ a ∧ a < 8) ∨ (¬ (0 ≤ a ∧ a < 8)) by omega) with hc1 | hc1
  · exfalso; omega
  · skip
    obtain ⟨rfl, hv1⟩ := (hu1.2 hc1)
    cases hv1
    refine zz_world (P' := (RP D C K (upd F 0 (nI 1)) hs mv G)) (fun _ h => h) ?_
    refine zz_ifB_eq 10 15 X.1 dX7_removeAll_10 (by decide) (fun h10 => ?_) (fun h10 => ?_)
    · exact absurd h10 (by decide)
    · skip
      refine zz_iconst 13 X.1 (v := nI 0) dX7_removeAll_13 rfl ?_
      rw [← hQ]
      refine zz_iret 14 X.1 hr rfl hlk (upd F 0 (nI 1), hs, mv, G) ?_ (fun _ h _ => h) dX7_removeAll_14
      exact ⟨rfl, rfl⟩

abbrev rm_X7_renew : Room := { frames := 2, cells := 0, slots := 0, locals := 43 }
theorem yd_X7_renew : yX7_renew.cls = RX7 ∧ yX7_renew.cls ≠ "java/lang/invoke/MethodHandle" ∧ yX7_renew.cls ≠ "java/lang/invoke/VarHandle" ∧ (parseMethodDescriptor yX7_renew.desc).map (fun d => d.parameters.length) = some 2 := by decide +kernel
set_option maxHeartbeats 4000000 in
set_option maxRecDepth 100000 in
theorem kt_X7_renew_no (l : Launch) (D : va_G) (C : Nat → ClassId) (K : Nat → Nat) (hAp : RAp K) (F : Nat → Int32) (hs mv : Nat → Bool) (G : Nat → Nat → Int32) (x0 : Int32) (x1 : Int32) (a : Int) (h_a : x0.toInt = a) (hno : ¬ (0 ≤ a ∧ a < 8)) : RMi l yX7_renew wsX7_renew rm_X7_renew D C K [.int x0, .int x1] F hs mv G (fun (r : Int32) (u : MSt) => r = (nI 0) ∧ u = (upd F 0 (nI 1), hs, mv, G)) := by
  refine RMi_of (lv := [(0, .ref (K 0)), (1, .int x0), (2, .int x1)]) (cc := cX7_renew) (maxL := 4) (ret := (some .int)) rfl rfl (by decide +kernel) (Nat.le_of_ble_eq_true rfl) rfl ?_
  intro p e s m args below meth c X hml hr hlk
  generalize hQ : MQ below _ args s 0 0 _ = Q
  refine zz_aload_n 0 X.1 0 dX7_renew_0 rfl ?_
  refine zz_iconst 1 X.1 (v := nI 0) dX7_renew_1 rfl ?_
  refine rr_put 2 hAp X 0 (by decide) (F' := upd F 0 (nI 0)) rfl (by decide +kernel) ⟨rfl, rfl⟩ (by decide +kernel) dX7_renew_2 ?_
  refine zz_aload_n 5 X.1 0 dX7_renew_5 rfl ?_
  refine zz_iload_n 6 X.1 1 dX7_renew_6 rfl ?_
  refine rr_callVi 7 X hml (As := [.int x0]) (kt_X7_noSet l D C K hAp (upd F 0 (nI 0)) hs mv G x0 a (h_a) (by first | rfl | assumption | omega)) gX7_renew_X7_noSet rfl ⟨rfl, rfl⟩ yd_X7_noSet ⟨Nat.le_of_ble_eq_true rfl, Nat.le_of_ble_eq_true rfl⟩ rfl rfl (Nat.le_of_ble_eq_true rfl) dX7_renew_7 ?_
  rintro r1 ⟨F1, hs1, mv1, G1⟩ hu1
  rcases (show (0 ≤ a ∧ a < 8) ∨ (¬ (0 ≤ a ∧ a < 8)) by omega) with hc1 | hc1
  · exfalso; omega
  · skip
    obtain ⟨rfl, hv1⟩ := (hu1.2 hc1)
    cases hv1
    refine zz_world (P' := (RP D C K (upd F 0 (nI 1)) hs mv G)) (fun _ h => h) ?_
    refine zz_ifB_eq 10 15 X.1 dX7_renew_10 (by decide) (fun h10 => ?_) (fun h10 => ?_)
    · exact absurd h10 (by decide)
    · skip
      refine zz_iconst 13 X.1 (v := nI 0) dX7_renew_13 rfl ?_
      rw [← hQ]
      refine zz_iret 14 X.1 hr rfl hlk (upd F 0 (nI 1), hs, mv, G) ?_ (fun _ h _ => h) dX7_renew_14
      exact ⟨rfl, rfl⟩

set_option maxHeartbeats 4000000 in
set_option maxRecDepth 100000 in
theorem kt_X7_removeAll_ok (l : Launch) (D : va_G) (C : Nat → ClassId) (K : Nat → Nat) (hAp : RAp K) (F : Nat → Int32) (hs mv : Nat → Bool) (G : Nat → Nat → Int32) (s0 : Nat) (hs0 : s0 < 8) : RMi l yX7_removeAll wsX7_removeAll rm_X7_removeAll D C K [.int (nI s0)] F hs mv G (fun (r : Int32) (u : MSt) => r = (nI (ct (hM hs s0) 1024)) ∧ u = (upd F 0 (nI 0), sS hs s0 (fun _ => false), mv, G)) := by
  refine RMi_of (lv := [(0, .ref (K 0)), (1, .int (nI s0))]) (cc := cX7_removeAll) (maxL := 3) (ret := (some .int)) rfl rfl (by decide +kernel) (Nat.le_of_ble_eq_true rfl) rfl ?_
  intro p e s m args below meth c X hml hr hlk
  generalize hQ : MQ below _ args s 0 0 _ = Q
  refine zz_aload_n 0 X.1 0 dX7_removeAll_0 rfl ?_
  refine zz_iconst 1 X.1 (v := nI 0) dX7_removeAll_1 rfl ?_
  refine rr_put 2 hAp X 0 (by decide) (F' := upd F 0 (nI 0)) rfl (by decide +kernel) ⟨rfl, rfl⟩ (by decide +kernel) dX7_removeAll_2 ?_
  refine zz_aload_n 5 X.1 0 dX7_removeAll_5 rfl ?_
  refine zz_iload_n 6 X.1 1 dX7_removeAll_6 rfl ?_
  refine rr_callVi 7 X hml (As := [.int (nI s0)]) (kt_X7_noSet l D C K hAp (upd F 0 (nI 0)) hs mv G (nI s0) ((s0 : Nat) : Int) (nI_toInt (by omega)) (by first | rfl | assumption | omega)) gX7_removeAll_X7_noSet rfl ⟨rfl, rfl⟩ yd_X7_noSet ⟨Nat.le_of_ble_eq_true rfl, Nat.le_of_ble_eq_true rfl⟩ rfl rfl (Nat.le_of_ble_eq_true rfl) dX7_removeAll_7 ?_
  rintro r1 ⟨F1, hs1, mv1, G1⟩ hu1
  obtain ⟨rfl, hv1⟩ := (hu1.1 (by omega))
  cases hv1
  refine zz_world (P' := (RP D C K (upd F 0 (nI 0)) hs mv G)) (fun _ h => h) ?_
  refine zz_ifB_eq 10 15 X.1 dX7_removeAll_10 (by decide) (fun h10 => ?_) (fun h10 => ?_)
  · skip
    refine zz_aload_n 15 X.1 0 dX7_removeAll_15 rfl ?_
    refine zz_iload_n 16 X.1 1 dX7_removeAll_16 rfl ?_
    refine rr_callVi 17 X hml (As := [.int (nI s0)]) (kt_X7_many l D C K hAp (upd F 0 (nI 0)) hs mv G s0 (by first | rfl | assumption | omega)) gX7_removeAll_X7_many rfl ⟨rfl, rfl⟩ yd_X7_many ⟨Nat.le_of_ble_eq_true rfl, Nat.le_of_ble_eq_true rfl⟩ rfl rfl (Nat.le_of_ble_eq_true rfl) dX7_removeAll_17 ?_
    rintro r2 ⟨F2, hs2, mv2, G2⟩ hu2
    obtain ⟨rfl, hv2⟩ := hu2
    cases hv2
    refine zz_world (P' := (RP D C K (upd F 0 (nI 0)) hs mv G)) (fun _ h => h) ?_
    refine zz_istore_n 20 X.1 (lv' := [(2, .int (nI (ct (hM hs s0) 1024))), (0, .ref (K 0)), (1, .int (nI s0))]) dX7_removeAll_20 (by decide) rfl ?_
    refine zz_aload_n 21 X.1 1 dX7_removeAll_21 rfl ?_
    refine zz_iload_n 22 X.1 2 dX7_removeAll_22 rfl ?_
    refine rr_callVv 23 X hml (As := [.int (nI s0)]) (kt_X7_empties l D C K hAp (upd F 0 (nI 0)) hs mv G s0 (by first | rfl | assumption | omega)) gX7_removeAll_X7_empties rfl ⟨rfl, rfl⟩ yd_X7_empties ⟨Nat.le_of_ble_eq_true rfl, Nat.le_of_ble_eq_true rfl⟩ rfl rfl (Nat.le_of_ble_eq_true rfl) dX7_removeAll_23 ?_
    rintro ⟨F3, hs3, mv3, G3⟩ hu3
    cases hu3
    refine zz_world (P' := (RP D C K (upd F 0 (nI 0)) (sS hs s0 (fun _ => false)) mv G)) (fun _ h => h) ?_
    refine zz_iload_n 26 X.1 0 dX7_removeAll_26 rfl ?_
    rw [← hQ]
    refine zz_iret 27 X.1 hr rfl hlk (upd F 0 (nI 0), sS hs s0 (fun _ => false), mv, G) ?_ (fun _ h _ => h) dX7_removeAll_27
    exact ⟨rfl, rfl⟩
  · exact absurd h10 (by decide)

set_option maxHeartbeats 4000000 in
set_option maxRecDepth 100000 in
theorem kt_X7_renew_ok (l : Launch) (D : va_G) (C : Nat → ClassId) (K : Nat → Nat) (hAp : RAp K) (F : Nat → Int32) (hs mv : Nat → Bool) (G : Nat → Nat → Int32) (s0 : Nat) (x1 : Int32) (b : Int) (h_b : x1.toInt = b) (hs0 : s0 < 8) : RMi l yX7_renew wsX7_renew rm_X7_renew D C K [.int (nI s0), .int x1] F hs mv G (fun (r : Int32) (u : MSt) => (b < 0 → r = (nI 0) ∧ u = (upd (upd F 0 (nI 1)) 2 (F 2 + 1), hs, mv, G)) ∧ (1024 < b → r = (nI 0) ∧ u = (upd F 0 (nI 1), hs, mv, G)) ∧ (0 ≤ b ∧ b ≤ 1024 → r = (nI (ct (hM hs s0) 1024)) ∧ u = (upd F 0 (nI 0), sS hs s0 (fun _ => false), mv, G))) := by
  refine RMi_of (lv := [(0, .ref (K 0)), (1, .int (nI s0)), (2, .int x1)]) (cc := cX7_renew) (maxL := 4) (ret := (some .int)) rfl rfl (by decide +kernel) (Nat.le_of_ble_eq_true rfl) rfl ?_
  intro p e s m args below meth c X hml hr hlk
  generalize hQ : MQ below _ args s 0 0 _ = Q
  refine zz_aload_n 0 X.1 0 dX7_renew_0 rfl ?_
  refine zz_iconst 1 X.1 (v := nI 0) dX7_renew_1 rfl ?_
  refine rr_put 2 hAp X 0 (by decide) (F' := upd F 0 (nI 0)) rfl (by decide +kernel) ⟨rfl, rfl⟩ (by decide +kernel) dX7_renew_2 ?_
  refine zz_aload_n 5 X.1 0 dX7_renew_5 rfl ?_
  refine zz_iload_n 6 X.1 1 dX7_renew_6 rfl ?_
  refine rr_callVi 7 X hml (As := [.int (nI s0)]) (kt_X7_noSet l D C K hAp (upd F 0 (nI 0)) hs mv G (nI s0) ((s0 : Nat) : Int) (nI_toInt (by omega)) (by first | rfl | assumption | omega)) gX7_renew_X7_noSet rfl ⟨rfl, rfl⟩ yd_X7_noSet ⟨Nat.le_of_ble_eq_true rfl, Nat.le_of_ble_eq_true rfl⟩ rfl rfl (Nat.le_of_ble_eq_true rfl) dX7_renew_7 ?_
  rintro r1 ⟨F1, hs1, mv1, G1⟩ hu1
  obtain ⟨rfl, hv1⟩ := (hu1.1 (by omega))
  cases hv1
  refine zz_world (P' := (RP D C K (upd F 0 (nI 0)) hs mv G)) (fun _ h => h) ?_
  refine zz_ifB_eq 10 15 X.1 dX7_renew_10 (by decide) (fun h10 => ?_) (fun h10 => ?_)
  · skip
    refine zz_iload_n 15 X.1 2 dX7_renew_15 rfl ?_
    refine zz_if_ge 16 29 X.1 h_b dX7_renew_16 (by decide) (fun h16 => ?_) (fun h16 => ?_)
    · skip
      refine zz_aload_n 29 X.1 0 dX7_renew_29 rfl ?_
      refine zz_iload_n 30 X.1 2 dX7_renew_30 rfl ?_
      refine zz_iconst 31 X.1 (v := nI 0) dX7_renew_31 rfl ?_
      refine zz_sipush 32 X.1 (v := nI 1024) dX7_renew_32 rfl ?_
      refine zz_callS0i 35 ⟨X.1.1, X.1.2, hml, X.2.2.2.1, X.2.1⟩ (fun q h => Or.inr h) RP_keep (As := [.int x1, .int (nI 0), .int (nI 1024)]) (kt_X7_in l x1 (nI 0) (nI 1024) b ((0 : Nat) : Int) ((1024 : Nat) : Int) (h_b) (nI_toInt (by omega)) (nI_toInt (by omega))) gX7_renew_X7_in rfl ⟨rfl, rfl⟩ yd_X7_in.2 ⟨Nat.le_of_ble_eq_true rfl, Nat.le_of_ble_eq_true rfl⟩ rfl rfl (Nat.le_of_ble_eq_true rfl) ⟨Nat.zero_le _, Nat.zero_le _⟩ dX7_renew_35 ?_
      intro r2 hu2
      rcases (show (((0 : Nat) : Int) ≤ b ∧ b ≤ ((1024 : Nat) : Int)) ∨ (¬ (((0 : Nat) : Int) ≤ b ∧ b ≤ ((1024 : Nat) : Int))) by omega) with hc2 | hc2
      · skip
        obtain rfl := (hu2.1 hc2)
        refine zz_iconst 38 X.1 (v := nI 1) dX7_renew_38 rfl ?_
        refine rr_callVi 39 X hml (As := [.int (bI true), .int (nI 1)]) (kt_X7_fails l D C K hAp (upd F 0 (nI 0)) hs mv G true 1 (by first | rfl | assumption | omega) (by first | rfl | assumption | omega)) gX7_renew_X7_fails rfl ⟨rfl, rfl⟩ yd_X7_fails ⟨Nat.le_of_ble_eq_true rfl, Nat.le_of_ble_eq_true rfl⟩ rfl rfl (Nat.le_of_ble_eq_true rfl) dX7_renew_39 ?_
        rintro r3 ⟨F3, hs3, mv3, G3⟩ hu3
        obtain ⟨rfl, hv3⟩ := (hu3.1 (rfl))
        cases hv3
        refine zz_world (P' := (RP D C K (upd F 0 (nI 0)) hs mv G)) (fun _ h => h) ?_
        refine zz_ifB_eq 42 47 X.1 dX7_renew_42 (by decide) (fun h42 => ?_) (fun h42 => ?_)
        · skip
          refine zz_aload_n 47 X.1 0 dX7_renew_47 rfl ?_
          refine zz_iload_n 48 X.1 1 dX7_renew_48 rfl ?_
          refine rr_callVi 49 X hml (As := [.int (nI s0)]) (kt_X7_many l D C K hAp (upd F 0 (nI 0)) hs mv G s0 (by first | rfl | assumption | omega)) gX7_renew_X7_many rfl ⟨rfl, rfl⟩ yd_X7_many ⟨Nat.le_of_ble_eq_true rfl, Nat.le_of_ble_eq_true rfl⟩ rfl rfl (Nat.le_of_ble_eq_true rfl) dX7_renew_49 ?_
          rintro r4 ⟨F4, hs4, mv4, G4⟩ hu4
          obtain ⟨rfl, hv4⟩ := hu4
          cases hv4
          refine zz_world (P' := (RP D C K (upd F 0 (nI 0)) hs mv G)) (fun _ h => h) ?_
          refine zz_istore_n 52 X.1 (lv' := [(3, .int (nI (ct (hM hs s0) 1024))), (0, .ref (K 0)), (1, .int (nI s0)), (2, .int x1)]) dX7_renew_52 (by decide) rfl ?_
          refine zz_aload_n 53 X.1 1 dX7_renew_53 rfl ?_
          refine zz_iload_n 54 X.1 2 dX7_renew_54 rfl ?_
          refine rr_callVv 55 X hml (As := [.int (nI s0)]) (kt_X7_empties l D C K hAp (upd F 0 (nI 0)) hs mv G s0 (by first | rfl | assumption | omega)) gX7_renew_X7_empties rfl ⟨rfl, rfl⟩ yd_X7_empties ⟨Nat.le_of_ble_eq_true rfl, Nat.le_of_ble_eq_true rfl⟩ rfl rfl (Nat.le_of_ble_eq_true rfl) dX7_renew_55 ?_
          rintro ⟨F5, hs5, mv5, G5⟩ hu5
          cases hu5
          refine zz_world (P' := (RP D C K (upd F 0 (nI 0)) (sS hs s0 (fun _ => false)) mv G)) (fun _ h => h) ?_
          refine zz_iload_n 58 X.1 0 dX7_renew_58 rfl ?_
          rw [← hQ]
          refine zz_iret 59 X.1 hr rfl hlk (upd F 0 (nI 0), sS hs s0 (fun _ => false), mv, G) ?_ (fun _ h _ => h) dX7_renew_59
          refine ⟨fun hc => ?_, fun hc => ?_, fun hc => ?_⟩ <;> first | (exact ⟨rfl, rfl⟩) | (exact rfl) | (exfalso; omega)
        · exact absurd h42 (by decide)
      · skip
        obtain rfl := (hu2.2 hc2)
        refine zz_iconst 38 X.1 (v := nI 1) dX7_renew_38 rfl ?_
        refine rr_callVi 39 X hml (As := [.int (bI false), .int (nI 1)]) (kt_X7_fails l D C K hAp (upd F 0 (nI 0)) hs mv G false 1 (by first | rfl | assumption | omega) (by first | rfl | assumption | omega)) gX7_renew_X7_fails rfl ⟨rfl, rfl⟩ yd_X7_fails ⟨Nat.le_of_ble_eq_true rfl, Nat.le_of_ble_eq_true rfl⟩ rfl rfl (Nat.le_of_ble_eq_true rfl) dX7_renew_39 ?_
        rintro r6 ⟨F6, hs6, mv6, G6⟩ hu6
        obtain ⟨rfl, hv6⟩ := (hu6.2 (rfl))
        cases hv6
        refine zz_world (P' := (RP D C K (upd F 0 (nI 1)) hs mv G)) (fun _ h => h) ?_
        refine zz_ifB_eq 42 47 X.1 dX7_renew_42 (by decide) (fun h42 => ?_) (fun h42 => ?_)
        · exact absurd h42 (by decide)
        · skip
          refine zz_iconst 45 X.1 (v := nI 0) dX7_renew_45 rfl ?_
          rw [← hQ]
          refine zz_iret 46 X.1 hr rfl hlk (upd F 0 (nI 1), hs, mv, G) ?_ (fun _ h _ => h) dX7_renew_46
          refine ⟨fun hc => ?_, fun hc => ?_, fun hc => ?_⟩ <;> first | (exact ⟨rfl, rfl⟩) | (exact rfl) | (exfalso; omega)
    · skip
      refine zz_aload_n 19 X.1 0 dX7_renew_19 rfl ?_
      refine zz_dup 20 X.1 dX7_renew_20 rfl ?_
      refine rr_get 21 X 2 (by decide) (v := .int (F 2)) rfl (by decide +kernel) rfl dX7_renew_21 ?_
      refine zz_iconst 24 X.1 (v := nI 1) dX7_renew_24 rfl ?_
      refine zz_iadd 25 X.1 (v := ((F 2) + (nI 1))) dX7_renew_25 rfl ?_
      refine rr_put 26 hAp X 2 (by decide) (F' := upd (upd F 0 (nI 0)) 2 ((F 2) + (nI 1))) rfl (by decide +kernel) ⟨rfl, rfl⟩ (by decide +kernel) dX7_renew_26 ?_
      refine zz_aload_n 29 X.1 0 dX7_renew_29 rfl ?_
      refine zz_iload_n 30 X.1 2 dX7_renew_30 rfl ?_
      refine zz_iconst 31 X.1 (v := nI 0) dX7_renew_31 rfl ?_
      refine zz_sipush 32 X.1 (v := nI 1024) dX7_renew_32 rfl ?_
      refine zz_callS0i 35 ⟨X.1.1, X.1.2, hml, X.2.2.2.1, X.2.1⟩ (fun q h => Or.inr h) RP_keep (As := [.int x1, .int (nI 0), .int (nI 1024)]) (kt_X7_in l x1 (nI 0) (nI 1024) b ((0 : Nat) : Int) ((1024 : Nat) : Int) (h_b) (nI_toInt (by omega)) (nI_toInt (by omega))) gX7_renew_X7_in rfl ⟨rfl, rfl⟩ yd_X7_in.2 ⟨Nat.le_of_ble_eq_true rfl, Nat.le_of_ble_eq_true rfl⟩ rfl rfl (Nat.le_of_ble_eq_true rfl) ⟨Nat.zero_le _, Nat.zero_le _⟩ dX7_renew_35 ?_
      intro r7 hu7
      rcases (show (((0 : Nat) : Int) ≤ b ∧ b ≤ ((1024 : Nat) : Int)) ∨ (¬ (((0 : Nat) : Int) ≤ b ∧ b ≤ ((1024 : Nat) : Int))) by omega) with hc7 | hc7
      · exfalso; omega
      · skip
        obtain rfl := (hu7.2 hc7)
        refine zz_iconst 38 X.1 (v := nI 1) dX7_renew_38 rfl ?_
        refine rr_callVi 39 X hml (As := [.int (bI false), .int (nI 1)]) (kt_X7_fails l D C K hAp (upd (upd F 0 (nI 0)) 2 ((F 2) + (nI 1))) hs mv G false 1 (by first | rfl | assumption | omega) (by first | rfl | assumption | omega)) gX7_renew_X7_fails rfl ⟨rfl, rfl⟩ yd_X7_fails ⟨Nat.le_of_ble_eq_true rfl, Nat.le_of_ble_eq_true rfl⟩ rfl rfl (Nat.le_of_ble_eq_true rfl) dX7_renew_39 ?_
        rintro r8 ⟨F8, hs8, mv8, G8⟩ hu8
        obtain ⟨rfl, hv8⟩ := (hu8.2 (rfl))
        cases hv8
        refine zz_world (P' := (RP D C K (upd (upd F 0 (nI 1)) 2 ((F 2) + (nI 1))) hs mv G)) (fun _ h => h) ?_
        refine zz_ifB_eq 42 47 X.1 dX7_renew_42 (by decide) (fun h42 => ?_) (fun h42 => ?_)
        · exact absurd h42 (by decide)
        · skip
          refine zz_iconst 45 X.1 (v := nI 0) dX7_renew_45 rfl ?_
          rw [← hQ]
          refine zz_iret 46 X.1 hr rfl hlk (upd (upd F 0 (nI 1)) 2 ((F 2) + (nI 1)), hs, mv, G) ?_ (fun _ h _ => h) dX7_renew_46
          refine ⟨fun hc => ?_, fun hc => ?_, fun hc => ?_⟩ <;> first | (exact ⟨rfl, rfl⟩) | (exact rfl) | (exfalso; omega)
  · exact absurd h10 (by decide)

abbrev rm_X7_joins : Room := { frames := 1, cells := 0, slots := 0, locals := 23 }
theorem yd_X7_joins : yX7_joins.cls = RX7 ∧ yX7_joins.cls ≠ "java/lang/invoke/MethodHandle" ∧ yX7_joins.cls ≠ "java/lang/invoke/VarHandle" ∧ (parseMethodDescriptor yX7_joins.desc).map (fun d => d.parameters.length) = some 3 := by decide +kernel
set_option maxHeartbeats 4000000 in
set_option maxRecDepth 100000 in
theorem kt_X7_joins_38 (l : Launch) (D : va_G) (C : Nat → ClassId) (K : Nat → Nat) (hAp : RAp K) (F : Nat → Int32) (hs mv : Nat → Bool) (G : Nat → Nat → Int32) (s0 : Nat) (o0 : Nat) (hs0 : s0 < 8) (ho0 : o0 < 8) : RMi l yX7_joins wsX7_joins rm_X7_joins D C K [.int (nI s0), .int (nI o0), .int (nI 38)] F hs mv G (fun (r : Int32) (u : MSt) => r = (nI (ct (fun i => pJ 38 (hM hs s0 i) (hM hs o0 i)) 1024)) ∧ u = (F, sS hs s0 (fun i => pJ 38 (hM hs s0 i) (hM hs o0 i)), mv, G)) := by
  refine RMi_of (lv := [(0, .ref (K 0)), (1, .int (nI s0)), (2, .int (nI o0)), (3, .int (nI 38))]) (cc := cX7_joins) (maxL := 7) (ret := (some .int)) rfl rfl (by decide +kernel) (Nat.le_of_ble_eq_true rfl) rfl ?_
  intro p e s m args below meth c X hml hr hlk
  generalize hQ : MQ below _ args s 0 0 _ = Q
  refine zz_iconst 0 X.1 (v := nI 0) dX7_joins_0 rfl ?_
  refine zz_istore 1 X.1 (lv' := [(4, .int (nI 0)), (0, .ref (K 0)), (1, .int (nI s0)), (2, .int (nI o0)), (3, .int (nI 38))]) dX7_joins_1 (by decide) rfl ?_
  have C3 : ∀ (d : Nat) (i : Nat) (hs1 : Nat → Bool) (hi : i ≤ 1024) (hh : hs1 = sF hs s0 (fun i => pJ 38 (hM hs s0 i) (hM hs o0 i)) i) (hd : 1024 - i < d), ZZ p l e rm_X7_joins s m args below meth c 0 0 Q (zz_A (RAd K) s.heap.size) (RP D C K F hs1 mv G) 7 [(0, .ref (K 0)), (1, .int (nI s0)), (2, .int (nI o0)), (3, .int (nI 38)), (4, .int (nI i))] [] 3 := by
    intro d
    induction d with
    | zero => intro i hs1 hi hh hd; exact absurd hd (Nat.not_lt_zero _)
    | succ d ih3 =>
      intro i hs1 hi hh hd
      have ea : hM hs s0 i = hs1 (1024 * s0 + i) := by rw [hh, sF_rd (Nat.le_refl _)]; rfl
      have eb : i < 1024 → hM hs o0 i = hs1 (1024 * o0 + i) := fun hz => by rw [hh, sF_rdo hz hi (Or.inr (Nat.le_refl _))]; rfl
      refine zz_iload 3 X.1 4 dX7_joins_3 rfl ?_
      refine zz_sipush 5 X.1 (v := nI 1024) dX7_joins_5 rfl ?_
      refine zz_icmp_ge 8 155 X.1 (nI_toInt (by omega)) (nI_toInt (by omega)) dX7_joins_8 (by decide) (fun h8 => ?_) (fun h8 => ?_)
      · skip
        refine rr_hs (hs' := sS hs s0 (fun i => pJ 38 (hM hs s0 i) (hM hs o0 i))) (hh.trans (by rw [show i = 1024 by omega]; rfl)) ?_
        refine zz_aload_n 155 X.1 0 dX7_joins_155 rfl ?_
        refine zz_iload_n 156 X.1 1 dX7_joins_156 rfl ?_
        refine rr_callVi 157 X hml (As := [.int (nI s0)]) (kt_X7_many l D C K hAp F (sS hs s0 (fun i => pJ 38 (hM hs s0 i) (hM hs o0 i))) mv G s0 (by first | rfl | assumption | omega)) gX7_joins_X7_many rfl ⟨rfl, rfl⟩ yd_X7_many ⟨Nat.le_of_ble_eq_true rfl, Nat.le_of_ble_eq_true rfl⟩ rfl rfl (Nat.le_of_ble_eq_true rfl) dX7_joins_157 ?_
        rintro r1 ⟨F1, hs1, mv1, G1⟩ hu1
        obtain ⟨rfl, hv1⟩ := hu1
        cases hv1
        refine zz_world (P' := (RP D C K F (sS hs s0 (fun i => pJ 38 (hM hs s0 i) (hM hs o0 i))) mv G)) (fun _ h => h) ?_
        rw [← hQ]
        refine zz_iret 160 X.1 hr rfl hlk (F, sS hs s0 (fun i => pJ 38 (hM hs s0 i) (hM hs o0 i)), mv, G) ?_ (fun _ h _ => h) dX7_joins_160
        exact ⟨by rw [ct_sS], rfl⟩
      · skip
        replace eb := eb (by omega)
        refine zz_aload_n 11 X.1 0 dX7_joins_11 rfl ?_
        refine rr_get 12 X 1 (by decide) (v := .ref (K 1)) rfl (by decide +kernel) rfl dX7_joins_12 ?_
        refine zz_sipush 15 X.1 (v := nI 1024) dX7_joins_15 rfl ?_
        refine zz_iload_n 18 X.1 1 dX7_joins_18 rfl ?_
        refine zz_imul 19 X.1 (v := (nI (1024 * s0))) dX7_joins_19 (pk_mul _ _) ?_
        refine zz_iload 20 X.1 4 dX7_joins_20 rfl ?_
        refine zz_iadd 22 X.1 (v := (nI ((1024 * s0) + i))) dX7_joins_22 (nI_add _ _) ?_
        refine rr_hld 23 X (by omega) dX7_joins_23 ?_
        refine zz_istore 24 X.1 (lv' := [(5, .int (bI (hs1 ((1024 * s0) + i)))), (0, .ref (K 0)), (1, .int (nI s0)), (2, .int (nI o0)), (3, .int (nI 38)), (4, .int (nI i))]) dX7_joins_24 (by decide) rfl ?_
        refine zz_aload_n 26 X.1 1 dX7_joins_26 rfl ?_
        refine rr_get 27 X 1 (by decide) (v := .ref (K 1)) rfl (by decide +kernel) rfl dX7_joins_27 ?_
        refine zz_sipush 30 X.1 (v := nI 1024) dX7_joins_30 rfl ?_
        refine zz_iload_n 33 X.1 3 dX7_joins_33 rfl ?_
        refine zz_imul 34 X.1 (v := (nI (1024 * o0))) dX7_joins_34 (pk_mul _ _) ?_
        refine zz_iload 35 X.1 5 dX7_joins_35 rfl ?_
        refine zz_iadd 37 X.1 (v := (nI ((1024 * o0) + i))) dX7_joins_37 (nI_add _ _) ?_
        refine rr_hld 38 X (by omega) dX7_joins_38 ?_
        refine zz_istore 39 X.1 (lv' := [(6, .int (bI (hs1 ((1024 * o0) + i)))), (5, .int (bI (hs1 ((1024 * s0) + i)))), (0, .ref (K 0)), (1, .int (nI s0)), (2, .int (nI o0)), (3, .int (nI 38)), (4, .int (nI i))]) dX7_joins_39 (by decide) rfl ?_
        refine zz_aload_n 41 X.1 2 dX7_joins_41 rfl ?_
        refine rr_get 42 X 1 (by decide) (v := .ref (K 1)) rfl (by decide +kernel) rfl dX7_joins_42 ?_
        refine zz_sipush 45 X.1 (v := nI 1024) dX7_joins_45 rfl ?_
        refine zz_iload_n 48 X.1 3 dX7_joins_48 rfl ?_
        refine zz_imul 49 X.1 (v := (nI (1024 * s0))) dX7_joins_49 (pk_mul _ _) ?_
        refine zz_iload 50 X.1 6 dX7_joins_50 rfl ?_
        refine zz_iadd 52 X.1 (v := (nI ((1024 * s0) + i))) dX7_joins_52 (nI_add _ _) ?_
        refine zz_iload_n 53 X.1 5 dX7_joins_53 rfl ?_
        refine zz_bipush 54 X.1 (v := nI 38) dX7_joins_54 rfl ?_
        refine zz_icmp_ne 56 77 X.1 (nI_toInt (by omega)) (nI_toInt (by omega)) dX7_joins_56 (by decide) (fun h56 => ?_) (fun h56 => ?_)
        · exfalso; omega
        · skip
          refine zz_iload 59 X.1 1 dX7_joins_59 rfl ?_
          refine zz_ifB_eq 61 73 X.1 dX7_joins_61 (by decide) (fun h61 => ?_) (fun h61 => ?_)
          · skip
            refine zz_iconst 73 X.1 (v := nI 0) dX7_joins_73 rfl ?_
            refine zz_goto 74 148 X.1 dX7_joins_74 (by decide) ?_
            refine zz_topi (bI false) rfl ?_
            refine rr_hst 148 hAp X (by omega) dX7_joins_148 ?_
            refine zz_iinc 149 X.1 6 (v := (nI (i + 1))) (lv' := [(4, .int (nI (i + 1))), (6, .int (bI (hs1 ((1024 * o0) + i)))), (5, .int (bI (hs1 ((1024 * s0) + i)))), (0, .ref (K 0)), (1, .int (nI s0)), (2, .int (nI o0)), (3, .int (nI 38))]) dX7_joins_149 rfl (nI_add i 1) (by decide) rfl ?_
            refine zz_goto 152 3 X.1 dX7_joins_152 (by decide) ?_
            refine zz_lvs [3, 4, 5, 6, 0] rfl ?_
            exact ih3 (i + 1) (va_up hs1 ((1024 * s0) + i) false) (by omega) (sF_up2 hh (by clear hh; simp [pJ, *])) (by omega)
          · skip
            refine zz_iload 64 X.1 0 dX7_joins_64 rfl ?_
            refine zz_ifB_eq 66 73 X.1 dX7_joins_66 (by decide) (fun h66 => ?_) (fun h66 => ?_)
            · skip
              refine zz_iconst 73 X.1 (v := nI 0) dX7_joins_73 rfl ?_
              refine zz_goto 74 148 X.1 dX7_joins_74 (by decide) ?_
              refine zz_topi (bI false) rfl ?_
              refine rr_hst 148 hAp X (by omega) dX7_joins_148 ?_
              refine zz_iinc 149 X.1 6 (v := (nI (i + 1))) (lv' := [(4, .int (nI (i + 1))), (6, .int (bI (hs1 ((1024 * o0) + i)))), (5, .int (bI (hs1 ((1024 * s0) + i)))), (0, .ref (K 0)), (1, .int (nI s0)), (2, .int (nI o0)), (3, .int (nI 38))]) dX7_joins_149 rfl (nI_add i 1) (by decide) rfl ?_
              refine zz_goto 152 3 X.1 dX7_joins_152 (by decide) ?_
              refine zz_lvs [3, 4, 5, 6, 0] rfl ?_
              exact ih3 (i + 1) (va_up hs1 ((1024 * s0) + i) false) (by omega) (sF_up2 hh (by clear hh; simp [pJ, *])) (by omega)
            · skip
              refine zz_iconst 69 X.1 (v := nI 1) dX7_joins_69 rfl ?_
              refine zz_goto 70 148 X.1 dX7_joins_70 (by decide) ?_
              refine zz_topi (bI true) rfl ?_
              refine rr_hst 148 hAp X (by omega) dX7_joins_148 ?_
              refine zz_iinc 149 X.1 6 (v := (nI (i + 1))) (lv' := [(4, .int (nI (i + 1))), (6, .int (bI (hs1 ((1024 * o0) + i)))), (5, .int (bI (hs1 ((1024 * s0) + i)))), (0, .ref (K 0)), (1, .int (nI s0)), (2, .int (nI o0)), (3, .int (nI 38))]) dX7_joins_149 rfl (nI_add i 1) (by decide) rfl ?_
              refine zz_goto 152 3 X.1 dX7_joins_152 (by decide) ?_
              refine zz_lvs [3, 4, 5, 6, 0] rfl ?_
              exact ih3 (i + 1) (va_up hs1 ((1024 * s0) + i) true) (by omega) (sF_up2 hh (by clear hh; simp [pJ, *])) (by omega)
  refine zz_lvs [1, 2, 3, 4, 0] rfl ?_
  exact C3 (1024 - 0 + 1) 0 hs (by omega) (sF_0.symm) (Nat.lt_succ_self _)

set_option maxHeartbeats 4000000 in
set_option maxRecDepth 100000 in
theorem kt_X7_joins_124 (l : Launch) (D : va_G) (C : Nat → ClassId) (K : Nat → Nat) (hAp : RAp K) (F : Nat → Int32) (hs mv : Nat → Bool) (G : Nat → Nat → Int32) (s0 : Nat) (o0 : Nat) (hs0 : s0 < 8) (ho0 : o0 < 8) : RMi l yX7_joins wsX7_joins rm_X7_joins D C K [.int (nI s0), .int (nI o0), .int (nI 124)] F hs mv G (fun (r : Int32) (u : MSt) => r = (nI (ct (fun i => pJ 124 (hM hs s0 i) (hM hs o0 i)) 1024)) ∧ u = (F, sS hs s0 (fun i => pJ 124 (hM hs s0 i) (hM hs o0 i)), mv, G)) := by
  refine RMi_of (lv := [(0, .ref (K 0)), (1, .int (nI s0)), (2, .int (nI o0)), (3, .int (nI 124))]) (cc := cX7_joins) (maxL := 7) (ret := (some .int)) rfl rfl (by decide +kernel) (Nat.le_of_ble_eq_true rfl) rfl ?_
  intro p e s m args below meth c X hml hr hlk
  generalize hQ : MQ below _ args s 0 0 _ = Q
  refine zz_iconst 0 X.1 (v := nI 0) dX7_joins_0 rfl ?_
  refine zz_istore 1 X.1 (lv' := [(4, .int (nI 0)), (0, .ref (K 0)), (1, .int (nI s0)), (2, .int (nI o0)), (3, .int (nI 124))]) dX7_joins_1 (by decide) rfl ?_
  have C3 : ∀ (d : Nat) (i : Nat) (hs1 : Nat → Bool) (hi : i ≤ 1024) (hh : hs1 = sF hs s0 (fun i => pJ 124 (hM hs s0 i) (hM hs o0 i)) i) (hd : 1024 - i < d), ZZ p l e rm_X7_joins s m args below meth c 0 0 Q (zz_A (RAd K) s.heap.size) (RP D C K F hs1 mv G) 7 [(0, .ref (K 0)), (1, .int (nI s0)), (2, .int (nI o0)), (3, .int (nI 124)), (4, .int (nI i))] [] 3 := by
    intro d
    induction d with
    | zero => intro i hs1 hi hh hd; exact absurd hd (Nat.not_lt_zero _)
    | succ d ih3 =>
      intro i hs1 hi hh hd
      have ea : hM hs s0 i = hs1 (1024 * s0 + i) := by rw [hh, sF_rd (Nat.le_refl _)]; rfl
      have eb : i < 1024 → hM hs o0 i = hs1 (1024 * o0 + i) := fun hz => by rw [hh, sF_rdo hz hi (Or.inr (Nat.le_refl _))]; rfl
      refine zz_iload 3 X.1 4 dX7_joins_3 rfl ?_
      refine zz_sipush 5 X.1 (v := nI 1024) dX7_joins_5 rfl ?_
      refine zz_icmp_ge 8 155 X.1 (nI_toInt (by omega)) (nI_toInt (by omega)) dX7_joins_8 (by decide) (fun h8 => ?_) (fun h8 => ?_)
      · skip
        refine rr_hs (hs' := sS hs s0 (fun i => pJ 124 (hM hs s0 i) (hM hs o0 i))) (hh.trans (by rw [show i = 1024 by omega]; rfl)) ?_
        refine zz_aload_n 155 X.1 0 dX7_joins_155 rfl ?_
        refine zz_iload_n 156 X.1 1 dX7_joins_156 rfl ?_
        refine rr_callVi 157 X hml (As := [.int (nI s0)]) (kt_X7_many l D C K hAp F (sS hs s0 (fun i => pJ 124 (hM hs s0 i) (hM hs o0 i))) mv G s0 (by first | rfl | assumption | omega)) gX7_joins_X7_many rfl ⟨rfl, rfl⟩ yd_X7_many ⟨Nat.le_of_ble_eq_true rfl, Nat.le_of_ble_eq_true rfl⟩ rfl rfl (Nat.le_of_ble_eq_true rfl) dX7_joins_157 ?_
        rintro r1 ⟨F1, hs1, mv1, G1⟩ hu1
        obtain ⟨rfl, hv1⟩ := hu1
        cases hv1
        refine zz_world (P' := (RP D C K F (sS hs s0 (fun i => pJ 124 (hM hs s0 i) (hM hs o0 i))) mv G)) (fun _ h => h) ?_
        rw [← hQ]
        refine zz_iret 160 X.1 hr rfl hlk (F, sS hs s0 (fun i => pJ 124 (hM hs s0 i) (hM hs o0 i)), mv, G) ?_ (fun _ h _ => h) dX7_joins_160
        exact ⟨by rw [ct_sS], rfl⟩
      · skip
        replace eb := eb (by omega)
        refine zz_aload_n 11 X.1 0 dX7_joins_11 rfl ?_
        refine rr_get 12 X 1 (by decide) (v := .ref (K 1)) rfl (by decide +kernel) rfl dX7_joins_12 ?_
        refine zz_sipush 15 X.1 (v := nI 1024) dX7_joins_15 rfl ?_
        refine zz_iload_n 18 X.1 1 dX7_joins_18 rfl ?_
        refine zz_imul 19 X.1 (v := (nI (1024 * s0))) dX7_joins_19 (pk_mul _ _) ?_
        refine zz_iload 20 X.1 4 dX7_joins_20 rfl ?_
        refine zz_iadd 22 X.1 (v := (nI ((1024 * s0) + i))) dX7_joins_22 (nI_add _ _) ?_
        refine rr_hld 23 X (by omega) dX7_joins_23 ?_
        refine zz_istore 24 X.1 (lv' := [(5, .int (bI (hs1 ((1024 * s0) + i)))), (0, .ref (K 0)), (1, .int (nI s0)), (2, .int (nI o0)), (3, .int (nI 124)), (4, .int (nI i))]) dX7_joins_24 (by decide) rfl ?_
        refine zz_aload_n 26 X.1 1 dX7_joins_26 rfl ?_
        refine rr_get 27 X 1 (by decide) (v := .ref (K 1)) rfl (by decide +kernel) rfl dX7_joins_27 ?_
        refine zz_sipush 30 X.1 (v := nI 1024) dX7_joins_30 rfl ?_
        refine zz_iload_n 33 X.1 3 dX7_joins_33 rfl ?_
        refine zz_imul 34 X.1 (v := (nI (1024 * o0))) dX7_joins_34 (pk_mul _ _) ?_
        refine zz_iload 35 X.1 5 dX7_joins_35 rfl ?_
        refine zz_iadd 37 X.1 (v := (nI ((1024 * o0) + i))) dX7_joins_37 (nI_add _ _) ?_
        refine rr_hld 38 X (by omega) dX7_joins_38 ?_
        refine zz_istore 39 X.1 (lv' := [(6, .int (bI (hs1 ((1024 * o0) + i)))), (5, .int (bI (hs1 ((1024 * s0) + i)))), (0, .ref (K 0)), (1, .int (nI s0)), (2, .int (nI o0)), (3, .int (nI 124)), (4, .int (nI i))]) dX7_joins_39 (by decide) rfl ?_
        refine zz_aload_n 41 X.1 2 dX7_joins_41 rfl ?_
        refine rr_get 42 X 1 (by decide) (v := .ref (K 1)) rfl (by decide +kernel) rfl dX7_joins_42 ?_
        refine zz_sipush 45 X.1 (v := nI 1024) dX7_joins_45 rfl ?_
        refine zz_iload_n 48 X.1 3 dX7_joins_48 rfl ?_
        refine zz_imul 49 X.1 (v := (nI (1024 * s0))) dX7_joins_49 (pk_mul _ _) ?_
        refine zz_iload 50 X.1 6 dX7_joins_50 rfl ?_
        refine zz_iadd 52 X.1 (v := (nI ((1024 * s0) + i))) dX7_joins_52 (nI_add _ _) ?_
        refine zz_iload_n 53 X.1 5 dX7_joins_53 rfl ?_
        refine zz_bipush 54 X.1 (v := nI 38) dX7_joins_54 rfl ?_
        refine zz_icmp_ne 56 77 X.1 (nI_toInt (by omega)) (nI_toInt (by omega)) dX7_joins_56 (by decide) (fun h56 => ?_) (fun h56 => ?_)
        · skip
          refine zz_iload_n 77 X.1 5 dX7_joins_77 rfl ?_
          refine zz_bipush 78 X.1 (v := nI 124) dX7_joins_78 rfl ?_
          refine zz_icmp_ne 80 101 X.1 (nI_toInt (by omega)) (nI_toInt (by omega)) dX7_joins_80 (by decide) (fun h80 => ?_) (fun h80 => ?_)
          · exfalso; omega
          · skip
            refine zz_iload 83 X.1 1 dX7_joins_83 rfl ?_
            refine zz_ifB_ne 85 93 X.1 dX7_joins_85 (by decide) (fun h85 => ?_) (fun h85 => ?_)
            · skip
              refine zz_iconst 93 X.1 (v := nI 1) dX7_joins_93 rfl ?_
              refine zz_goto 94 148 X.1 dX7_joins_94 (by decide) ?_
              refine zz_topi (bI true) rfl ?_
              refine rr_hst 148 hAp X (by omega) dX7_joins_148 ?_
              refine zz_iinc 149 X.1 6 (v := (nI (i + 1))) (lv' := [(4, .int (nI (i + 1))), (6, .int (bI (hs1 ((1024 * o0) + i)))), (5, .int (bI (hs1 ((1024 * s0) + i)))), (0, .ref (K 0)), (1, .int (nI s0)), (2, .int (nI o0)), (3, .int (nI 124))]) dX7_joins_149 rfl (nI_add i 1) (by decide) rfl ?_
              refine zz_goto 152 3 X.1 dX7_joins_152 (by decide) ?_
              refine zz_lvs [3, 4, 5, 6, 0] rfl ?_
              exact ih3 (i + 1) (va_up hs1 ((1024 * s0) + i) true) (by omega) (sF_up2 hh (by clear hh; simp [pJ, *])) (by omega)
            · skip
              refine zz_iload 88 X.1 0 dX7_joins_88 rfl ?_
              refine zz_ifB_eq 90 97 X.1 dX7_joins_90 (by decide) (fun h90 => ?_) (fun h90 => ?_)
              · skip
                refine zz_iconst 97 X.1 (v := nI 0) dX7_joins_97 rfl ?_
                refine zz_goto 98 148 X.1 dX7_joins_98 (by decide) ?_
                refine zz_topi (bI false) rfl ?_
                refine rr_hst 148 hAp X (by omega) dX7_joins_148 ?_
                refine zz_iinc 149 X.1 6 (v := (nI (i + 1))) (lv' := [(4, .int (nI (i + 1))), (6, .int (bI (hs1 ((1024 * o0) + i)))), (5, .int (bI (hs1 ((1024 * s0) + i)))), (0, .ref (K 0)), (1, .int (nI s0)), (2, .int (nI o0)), (3, .int (nI 124))]) dX7_joins_149 rfl (nI_add i 1) (by decide) rfl ?_
                refine zz_goto 152 3 X.1 dX7_joins_152 (by decide) ?_
                refine zz_lvs [3, 4, 5, 6, 0] rfl ?_
                exact ih3 (i + 1) (va_up hs1 ((1024 * s0) + i) false) (by omega) (sF_up2 hh (by clear hh; simp [pJ, *])) (by omega)
              · skip
                refine zz_iconst 93 X.1 (v := nI 1) dX7_joins_93 rfl ?_
                refine zz_goto 94 148 X.1 dX7_joins_94 (by decide) ?_
                refine zz_topi (bI true) rfl ?_
                refine rr_hst 148 hAp X (by omega) dX7_joins_148 ?_
                refine zz_iinc 149 X.1 6 (v := (nI (i + 1))) (lv' := [(4, .int (nI (i + 1))), (6, .int (bI (hs1 ((1024 * o0) + i)))), (5, .int (bI (hs1 ((1024 * s0) + i)))), (0, .ref (K 0)), (1, .int (nI s0)), (2, .int (nI o0)), (3, .int (nI 124))]) dX7_joins_149 rfl (nI_add i 1) (by decide) rfl ?_
                refine zz_goto 152 3 X.1 dX7_joins_152 (by decide) ?_
                refine zz_lvs [3, 4, 5, 6, 0] rfl ?_
                exact ih3 (i + 1) (va_up hs1 ((1024 * s0) + i) true) (by omega) (sF_up2 hh (by clear hh; simp [pJ, *])) (by omega)
        · exfalso; omega
  refine zz_lvs [1, 2, 3, 4, 0] rfl ?_
  exact C3 (1024 - 0 + 1) 0 hs (by omega) (sF_0.symm) (Nat.lt_succ_self _)

set_option maxHeartbeats 4000000 in
set_option maxRecDepth 100000 in
theorem kt_X7_joins_126 (l : Launch) (D : va_G) (C : Nat → ClassId) (K : Nat → Nat) (hAp : RAp K) (F : Nat → Int32) (hs mv : Nat → Bool) (G : Nat → Nat → Int32) (s0 : Nat) (o0 : Nat) (hs0 : s0 < 8) (ho0 : o0 < 8) : RMi l yX7_joins wsX7_joins rm_X7_joins D C K [.int (nI s0), .int (nI o0), .int (nI 126)] F hs mv G (fun (r : Int32) (u : MSt) => r = (nI (ct (fun i => pJ 126 (hM hs s0 i) (hM hs o0 i)) 1024)) ∧ u = (F, sS hs s0 (fun i => pJ 126 (hM hs s0 i) (hM hs o0 i)), mv, G)) := by
  refine RMi_of (lv := [(0, .ref (K 0)), (1, .int (nI s0)), (2, .int (nI o0)), (3, .int (nI 126))]) (cc := cX7_joins) (maxL := 7) (ret := (some .int)) rfl rfl (by decide +kernel) (Nat.le_of_ble_eq_true rfl) rfl ?_
  intro p e s m args below meth c X hml hr hlk
  generalize hQ : MQ below _ args s 0 0 _ = Q
  refine zz_iconst 0 X.1 (v := nI 0) dX7_joins_0 rfl ?_
  refine zz_istore 1 X.1 (lv' := [(4, .int (nI 0)), (0, .ref (K 0)), (1, .int (nI s0)), (2, .int (nI o0)), (3, .int (nI 126))]) dX7_joins_1 (by decide) rfl ?_
  have C3 : ∀ (d : Nat) (i : Nat) (hs1 : Nat → Bool) (hi : i ≤ 1024) (hh : hs1 = sF hs s0 (fun i => pJ 126 (hM hs s0 i) (hM hs o0 i)) i) (hd : 1024 - i < d), ZZ p l e rm_X7_joins s m args below meth c 0 0 Q (zz_A (RAd K) s.heap.size) (RP D C K F hs1 mv G) 7 [(0, .ref (K 0)), (1, .int (nI s0)), (2, .int (nI o0)), (3, .int (nI 126)), (4, .int (nI i))] [] 3 := by
    intro d
    induction d with
    | zero => intro i hs1 hi hh hd; exact absurd hd (Nat.not_lt_zero _)
    | succ d ih3 =>
      intro i hs1 hi hh hd
      have ea : hM hs s0 i = hs1 (1024 * s0 + i) := by rw [hh, sF_rd (Nat.le_refl _)]; rfl
      have eb : i < 1024 → hM hs o0 i = hs1 (1024 * o0 + i) := fun hz => by rw [hh, sF_rdo hz hi (Or.inr (Nat.le_refl _))]; rfl
      refine zz_iload 3 X.1 4 dX7_joins_3 rfl ?_
      refine zz_sipush 5 X.1 (v := nI 1024) dX7_joins_5 rfl ?_
      refine zz_icmp_ge 8 155 X.1 (nI_toInt (by omega)) (nI_toInt (by omega)) dX7_joins_8 (by decide) (fun h8 => ?_) (fun h8 => ?_)
      · skip
        refine rr_hs (hs' := sS hs s0 (fun i => pJ 126 (hM hs s0 i) (hM hs o0 i))) (hh.trans (by rw [show i = 1024 by omega]; rfl)) ?_
        refine zz_aload_n 155 X.1 0 dX7_joins_155 rfl ?_
        refine zz_iload_n 156 X.1 1 dX7_joins_156 rfl ?_
        refine rr_callVi 157 X hml (As := [.int (nI s0)]) (kt_X7_many l D C K hAp F (sS hs s0 (fun i => pJ 126 (hM hs s0 i) (hM hs o0 i))) mv G s0 (by first | rfl | assumption | omega)) gX7_joins_X7_many rfl ⟨rfl, rfl⟩ yd_X7_many ⟨Nat.le_of_ble_eq_true rfl, Nat.le_of_ble_eq_true rfl⟩ rfl rfl (Nat.le_of_ble_eq_true rfl) dX7_joins_157 ?_
        rintro r1 ⟨F1, hs1, mv1, G1⟩ hu1
        obtain ⟨rfl, hv1⟩ := hu1
        cases hv1
        refine zz_world (P' := (RP D C K F (sS hs s0 (fun i => pJ 126 (hM hs s0 i) (hM hs o0 i))) mv G)) (fun _ h => h) ?_
        rw [← hQ]
        refine zz_iret 160 X.1 hr rfl hlk (F, sS hs s0 (fun i => pJ 126 (hM hs s0 i) (hM hs o0 i)), mv, G) ?_ (fun _ h _ => h) dX7_joins_160
        exact ⟨by rw [ct_sS], rfl⟩
      · skip
        replace eb := eb (by omega)
        refine zz_aload_n 11 X.1 0 dX7_joins_11 rfl ?_
        refine rr_get 12 X 1 (by decide) (v := .ref (K 1)) rfl (by decide +kernel) rfl dX7_joins_12 ?_
        refine zz_sipush 15 X.1 (v := nI 1024) dX7_joins_15 rfl ?_
        refine zz_iload_n 18 X.1 1 dX7_joins_18 rfl ?_
        refine zz_imul 19 X.1 (v := (nI (1024 * s0))) dX7_joins_19 (pk_mul _ _) ?_
        refine zz_iload 20 X.1 4 dX7_joins_20 rfl ?_
        refine zz_iadd 22 X.1 (v := (nI ((1024 * s0) + i))) dX7_joins_22 (nI_add _ _) ?_
        refine rr_hld 23 X (by omega) dX7_joins_23 ?_
        refine zz_istore 24 X.1 (lv' := [(5, .int (bI (hs1 ((1024 * s0) + i)))), (0, .ref (K 0)), (1, .int (nI s0)), (2, .int (nI o0)), (3, .int (nI 126)), (4, .int (nI i))]) dX7_joins_24 (by decide) rfl ?_
        refine zz_aload_n 26 X.1 1 dX7_joins_26 rfl ?_
        refine rr_get 27 X 1 (by decide) (v := .ref (K 1)) rfl (by decide +kernel) rfl dX7_joins_27 ?_
        refine zz_sipush 30 X.1 (v := nI 1024) dX7_joins_30 rfl ?_
        refine zz_iload_n 33 X.1 3 dX7_joins_33 rfl ?_
        refine zz_imul 34 X.1 (v := (nI (1024 * o0))) dX7_joins_34 (pk_mul _ _) ?_
        refine zz_iload 35 X.1 5 dX7_joins_35 rfl ?_
        refine zz_iadd 37 X.1 (v := (nI ((1024 * o0) + i))) dX7_joins_37 (nI_add _ _) ?_
        refine rr_hld 38 X (by omega) dX7_joins_38 ?_
        refine zz_istore 39 X.1 (lv' := [(6, .int (bI (hs1 ((1024 * o0) + i)))), (5, .int (bI (hs1 ((1024 * s0) + i)))), (0, .ref (K 0)), (1, .int (nI s0)), (2, .int (nI o0)), (3, .int (nI 126)), (4, .int (nI i))]) dX7_joins_39 (by decide) rfl ?_
        refine zz_aload_n 41 X.1 2 dX7_joins_41 rfl ?_
        refine rr_get 42 X 1 (by decide) (v := .ref (K 1)) rfl (by decide +kernel) rfl dX7_joins_42 ?_
        refine zz_sipush 45 X.1 (v := nI 1024) dX7_joins_45 rfl ?_
        refine zz_iload_n 48 X.1 3 dX7_joins_48 rfl ?_
        refine zz_imul 49 X.1 (v := (nI (1024 * s0))) dX7_joins_49 (pk_mul _ _) ?_
        refine zz_iload 50 X.1 6 dX7_joins_50 rfl ?_
        refine zz_iadd 52 X.1 (v := (nI ((1024 * s0) + i))) dX7_joins_52 (nI_add _ _) ?_
        refine zz_iload_n 53 X.1 5 dX7_joins_53 rfl ?_
        refine zz_bipush 54 X.1 (v := nI 38) dX7_joins_54 rfl ?_
        refine zz_icmp_ne 56 77 X.1 (nI_toInt (by omega)) (nI_toInt (by omega)) dX7_joins_56 (by decide) (fun h56 => ?_) (fun h56 => ?_)
        · skip
          refine zz_iload_n 77 X.1 5 dX7_joins_77 rfl ?_
          refine zz_bipush 78 X.1 (v := nI 124) dX7_joins_78 rfl ?_
          refine zz_icmp_ne 80 101 X.1 (nI_toInt (by omega)) (nI_toInt (by omega)) dX7_joins_80 (by decide) (fun h80 => ?_) (fun h80 => ?_)
          · skip
            refine zz_iload_n 101 X.1 5 dX7_joins_101 rfl ?_
            refine zz_bipush 102 X.1 (v := nI 126) dX7_joins_102 rfl ?_
            refine zz_icmp_ne 104 122 X.1 (nI_toInt (by omega)) (nI_toInt (by omega)) dX7_joins_104 (by decide) (fun h104 => ?_) (fun h104 => ?_)
            · exfalso; omega
            · skip
              refine zz_iload 107 X.1 1 dX7_joins_107 rfl ?_
              refine zz_iload 109 X.1 0 dX7_joins_109 rfl ?_
              refine zz_icmpB_eq 111 118 X.1 dX7_joins_111 (by decide) (fun h111 => ?_) (fun h111 => ?_)
              · skip
                refine zz_iconst 118 X.1 (v := nI 0) dX7_joins_118 rfl ?_
                refine zz_goto 119 148 X.1 dX7_joins_119 (by decide) ?_
                refine zz_topi (bI false) rfl ?_
                refine rr_hst 148 hAp X (by omega) dX7_joins_148 ?_
                refine zz_iinc 149 X.1 6 (v := (nI (i + 1))) (lv' := [(4, .int (nI (i + 1))), (6, .int (bI (hs1 ((1024 * o0) + i)))), (5, .int (bI (hs1 ((1024 * s0) + i)))), (0, .ref (K 0)), (1, .int (nI s0)), (2, .int (nI o0)), (3, .int (nI 126))]) dX7_joins_149 rfl (nI_add i 1) (by decide) rfl ?_
                refine zz_goto 152 3 X.1 dX7_joins_152 (by decide) ?_
                refine zz_lvs [3, 4, 5, 6, 0] rfl ?_
                exact ih3 (i + 1) (va_up hs1 ((1024 * s0) + i) false) (by omega) (sF_up2 hh (by clear hh; simp [pJ, *])) (by omega)
              · skip
                refine zz_iconst 114 X.1 (v := nI 1) dX7_joins_114 rfl ?_
                refine zz_goto 115 148 X.1 dX7_joins_115 (by decide) ?_
                refine zz_topi (bI true) rfl ?_
                refine rr_hst 148 hAp X (by omega) dX7_joins_148 ?_
                refine zz_iinc 149 X.1 6 (v := (nI (i + 1))) (lv' := [(4, .int (nI (i + 1))), (6, .int (bI (hs1 ((1024 * o0) + i)))), (5, .int (bI (hs1 ((1024 * s0) + i)))), (0, .ref (K 0)), (1, .int (nI s0)), (2, .int (nI o0)), (3, .int (nI 126))]) dX7_joins_149 rfl (nI_add i 1) (by decide) rfl ?_
                refine zz_goto 152 3 X.1 dX7_joins_152 (by decide) ?_
                refine zz_lvs [3, 4, 5, 6, 0] rfl ?_
                exact ih3 (i + 1) (va_up hs1 ((1024 * s0) + i) true) (by omega) (sF_up2 hh (by clear hh; simp [pJ, *])) (by omega)
          · exfalso; omega
        · exfalso; omega
  refine zz_lvs [1, 2, 3, 4, 0] rfl ?_
  exact C3 (1024 - 0 + 1) 0 hs (by omega) (sF_0.symm) (Nat.lt_succ_self _)

set_option maxHeartbeats 4000000 in
set_option maxRecDepth 100000 in
theorem kt_X7_joins_33 (l : Launch) (D : va_G) (C : Nat → ClassId) (K : Nat → Nat) (hAp : RAp K) (F : Nat → Int32) (hs mv : Nat → Bool) (G : Nat → Nat → Int32) (s0 : Nat) (o0 : Nat) (hs0 : s0 < 8) (ho0 : o0 < 8) : RMi l yX7_joins wsX7_joins rm_X7_joins D C K [.int (nI s0), .int (nI o0), .int (nI 33)] F hs mv G (fun (r : Int32) (u : MSt) => r = (nI (ct (fun i => pJ 33 (hM hs s0 i) (hM hs o0 i)) 1024)) ∧ u = (F, sS hs s0 (fun i => pJ 33 (hM hs s0 i) (hM hs o0 i)), mv, G)) := by
  refine RMi_of (lv := [(0, .ref (K 0)), (1, .int (nI s0)), (2, .int (nI o0)), (3, .int (nI 33))]) (cc := cX7_joins) (maxL := 7) (ret := (some .int)) rfl rfl (by decide +kernel) (Nat.le_of_ble_eq_true rfl) rfl ?_
  intro p e s m args below meth c X hml hr hlk
  generalize hQ : MQ below _ args s 0 0 _ = Q
  refine zz_iconst 0 X.1 (v := nI 0) dX7_joins_0 rfl ?_
  refine zz_istore 1 X.1 (lv' := [(4, .int (nI 0)), (0, .ref (K 0)), (1, .int (nI s0)), (2, .int (nI o0)), (3, .int (nI 33))]) dX7_joins_1 (by decide) rfl ?_
  have C3 : ∀ (d : Nat) (i : Nat) (hs1 : Nat → Bool) (hi : i ≤ 1024) (hh : hs1 = sF hs s0 (fun i => pJ 33 (hM hs s0 i) (hM hs o0 i)) i) (hd : 1024 - i < d), ZZ p l e rm_X7_joins s m args below meth c 0 0 Q (zz_A (RAd K) s.heap.size) (RP D C K F hs1 mv G) 7 [(0, .ref (K 0)), (1, .int (nI s0)), (2, .int (nI o0)), (3, .int (nI 33)), (4, .int (nI i))] [] 3 := by
    intro d
    induction d with
    | zero => intro i hs1 hi hh hd; exact absurd hd (Nat.not_lt_zero _)
    | succ d ih3 =>
      intro i hs1 hi hh hd
      have ea : hM hs s0 i = hs1 (1024 * s0 + i) := by rw [hh, sF_rd (Nat.le_refl _)]; rfl
      have eb : i < 1024 → hM hs o0 i = hs1 (1024 * o0 + i) := fun hz => by rw [hh, sF_rdo hz hi (Or.inr (Nat.le_refl _))]; rfl
      refine zz_iload 3 X.1 4 dX7_joins_3 rfl ?_
      refine zz_sipush 5 X.1 (v := nI 1024) dX7_joins_5 rfl ?_
      refine zz_icmp_ge 8 155 X.1 (nI_toInt (by omega)) (nI_toInt (by omega)) dX7_joins_8 (by decide) (fun h8 => ?_) (fun h8 => ?_)
      · skip
        refine rr_hs (hs' := sS hs s0 (fun i => pJ 33 (hM hs s0 i) (hM hs o0 i))) (hh.trans (by rw [show i = 1024 by omega]; rfl)) ?_
        refine zz_aload_n 155 X.1 0 dX7_joins_155 rfl ?_
        refine zz_iload_n 156 X.1 1 dX7_joins_156 rfl ?_
        refine rr_callVi 157 X hml (As := [.int (nI s0)]) (kt_X7_many l D C K hAp F (sS hs s0 (fun i => pJ 33 (hM hs s0 i) (hM hs o0 i))) mv G s0 (by first | rfl | assumption | omega)) gX7_joins_X7_many rfl ⟨rfl, rfl⟩ yd_X7_many ⟨Nat.le_of_ble_eq_true rfl, Nat.le_of_ble_eq_true rfl⟩ rfl rfl (Nat.le_of_ble_eq_true rfl) dX7_joins_157 ?_
        rintro r1 ⟨F1, hs1, mv1, G1⟩ hu1
        obtain ⟨rfl, hv1⟩ := hu1
        cases hv1
        refine zz_world (P' := (RP D C K F (sS hs s0 (fun i => pJ 33 (hM hs s0 i) (hM hs o0 i))) mv G)) (fun _ h => h) ?_
        rw [← hQ]
        refine zz_iret 160 X.1 hr rfl hlk (F, sS hs s0 (fun i => pJ 33 (hM hs s0 i) (hM hs o0 i)), mv, G) ?_ (fun _ h _ => h) dX7_joins_160
        exact ⟨by rw [ct_sS], rfl⟩
      · skip
        replace eb := eb (by omega)
        refine zz_aload_n 11 X.1 0 dX7_joins_11 rfl ?_
        refine rr_get 12 X 1 (by decide) (v := .ref (K 1)) rfl (by decide +kernel) rfl dX7_joins_12 ?_
        refine zz_sipush 15 X.1 (v := nI 1024) dX7_joins_15 rfl ?_
        refine zz_iload_n 18 X.1 1 dX7_joins_18 rfl ?_
        refine zz_imul 19 X.1 (v := (nI (1024 * s0))) dX7_joins_19 (pk_mul _ _) ?_
        refine zz_iload 20 X.1 4 dX7_joins_20 rfl ?_
        refine zz_iadd 22 X.1 (v := (nI ((1024 * s0) + i))) dX7_joins_22 (nI_add _ _) ?_
        refine rr_hld 23 X (by omega) dX7_joins_23 ?_
        refine zz_istore 24 X.1 (lv' := [(5, .int (bI (hs1 ((1024 * s0) + i)))), (0, .ref (K 0)), (1, .int (nI s0)), (2, .int (nI o0)), (3, .int (nI 33)), (4, .int (nI i))]) dX7_joins_24 (by decide) rfl ?_
        refine zz_aload_n 26 X.1 1 dX7_joins_26 rfl ?_
        refine rr_get 27 X 1 (by decide) (v := .ref (K 1)) rfl (by decide +kernel) rfl dX7_joins_27 ?_
        refine zz_sipush 30 X.1 (v := nI 1024) dX7_joins_30 rfl ?_
        refine zz_iload_n 33 X.1 3 dX7_joins_33 rfl ?_
        refine zz_imul 34 X.1 (v := (nI (1024 * o0))) dX7_joins_34 (pk_mul _ _) ?_
        refine zz_iload 35 X.1 5 dX7_joins_35 rfl ?_
        refine zz_iadd 37 X.1 (v := (nI ((1024 * o0) + i))) dX7_joins_37 (nI_add _ _) ?_
        refine rr_hld 38 X (by omega) dX7_joins_38 ?_
        refine zz_istore 39 X.1 (lv' := [(6, .int (bI (hs1 ((1024 * o0) + i)))), (5, .int (bI (hs1 ((1024 * s0) + i)))), (0, .ref (K 0)), (1, .int (nI s0)), (2, .int (nI o0)), (3, .int (nI 33)), (4, .int (nI i))]) dX7_joins_39 (by decide) rfl ?_
        refine zz_aload_n 41 X.1 2 dX7_joins_41 rfl ?_
        refine rr_get 42 X 1 (by decide) (v := .ref (K 1)) rfl (by decide +kernel) rfl dX7_joins_42 ?_
        refine zz_sipush 45 X.1 (v := nI 1024) dX7_joins_45 rfl ?_
        refine zz_iload_n 48 X.1 3 dX7_joins_48 rfl ?_
        refine zz_imul 49 X.1 (v := (nI (1024 * s0))) dX7_joins_49 (pk_mul _ _) ?_
        refine zz_iload 50 X.1 6 dX7_joins_50 rfl ?_
        refine zz_iadd 52 X.1 (v := (nI ((1024 * s0) + i))) dX7_joins_52 (nI_add _ _) ?_
        refine zz_iload_n 53 X.1 5 dX7_joins_53 rfl ?_
        refine zz_bipush 54 X.1 (v := nI 38) dX7_joins_54 rfl ?_
        refine zz_icmp_ne 56 77 X.1 (nI_toInt (by omega)) (nI_toInt (by omega)) dX7_joins_56 (by decide) (fun h56 => ?_) (fun h56 => ?_)
        · skip
          refine zz_iload_n 77 X.1 5 dX7_joins_77 rfl ?_
          refine zz_bipush 78 X.1 (v := nI 124) dX7_joins_78 rfl ?_
          refine zz_icmp_ne 80 101 X.1 (nI_toInt (by omega)) (nI_toInt (by omega)) dX7_joins_80 (by decide) (fun h80 => ?_) (fun h80 => ?_)
          · skip
            refine zz_iload_n 101 X.1 5 dX7_joins_101 rfl ?_
            refine zz_bipush 102 X.1 (v := nI 126) dX7_joins_102 rfl ?_
            refine zz_icmp_ne 104 122 X.1 (nI_toInt (by omega)) (nI_toInt (by omega)) dX7_joins_104 (by decide) (fun h104 => ?_) (fun h104 => ?_)
            · skip
              refine zz_iload_n 122 X.1 5 dX7_joins_122 rfl ?_
              refine zz_bipush 123 X.1 (v := nI 33) dX7_joins_123 rfl ?_
              refine zz_icmp_ne 125 146 X.1 (nI_toInt (by omega)) (nI_toInt (by omega)) dX7_joins_125 (by decide) (fun h125 => ?_) (fun h125 => ?_)
              · exfalso; omega
              · skip
                refine zz_iload 128 X.1 1 dX7_joins_128 rfl ?_
                refine zz_ifB_eq 130 142 X.1 dX7_joins_130 (by decide) (fun h130 => ?_) (fun h130 => ?_)
                · skip
                  refine zz_iconst 142 X.1 (v := nI 0) dX7_joins_142 rfl ?_
                  refine zz_goto 143 148 X.1 dX7_joins_143 (by decide) ?_
                  refine zz_topi (bI false) rfl ?_
                  refine rr_hst 148 hAp X (by omega) dX7_joins_148 ?_
                  refine zz_iinc 149 X.1 6 (v := (nI (i + 1))) (lv' := [(4, .int (nI (i + 1))), (6, .int (bI (hs1 ((1024 * o0) + i)))), (5, .int (bI (hs1 ((1024 * s0) + i)))), (0, .ref (K 0)), (1, .int (nI s0)), (2, .int (nI o0)), (3, .int (nI 33))]) dX7_joins_149 rfl (nI_add i 1) (by decide) rfl ?_
                  refine zz_goto 152 3 X.1 dX7_joins_152 (by decide) ?_
                  refine zz_lvs [3, 4, 5, 6, 0] rfl ?_
                  exact ih3 (i + 1) (va_up hs1 ((1024 * s0) + i) false) (by omega) (sF_up2 hh (by clear hh; simp [pJ, *])) (by omega)
                · skip
                  refine zz_iload 133 X.1 0 dX7_joins_133 rfl ?_
                  refine zz_ifB_ne 135 142 X.1 dX7_joins_135 (by decide) (fun h135 => ?_) (fun h135 => ?_)
                  · skip
                    refine zz_iconst 142 X.1 (v := nI 0) dX7_joins_142 rfl ?_
                    refine zz_goto 143 148 X.1 dX7_joins_143 (by decide) ?_
                    refine zz_topi (bI false) rfl ?_
                    refine rr_hst 148 hAp X (by omega) dX7_joins_148 ?_
                    refine zz_iinc 149 X.1 6 (v := (nI (i + 1))) (lv' := [(4, .int (nI (i + 1))), (6, .int (bI (hs1 ((1024 * o0) + i)))), (5, .int (bI (hs1 ((1024 * s0) + i)))), (0, .ref (K 0)), (1, .int (nI s0)), (2, .int (nI o0)), (3, .int (nI 33))]) dX7_joins_149 rfl (nI_add i 1) (by decide) rfl ?_
                    refine zz_goto 152 3 X.1 dX7_joins_152 (by decide) ?_
                    refine zz_lvs [3, 4, 5, 6, 0] rfl ?_
                    exact ih3 (i + 1) (va_up hs1 ((1024 * s0) + i) false) (by omega) (sF_up2 hh (by clear hh; simp [pJ, *])) (by omega)
                  · skip
                    refine zz_iconst 138 X.1 (v := nI 1) dX7_joins_138 rfl ?_
                    refine zz_goto 139 148 X.1 dX7_joins_139 (by decide) ?_
                    refine zz_topi (bI true) rfl ?_
                    refine rr_hst 148 hAp X (by omega) dX7_joins_148 ?_
                    refine zz_iinc 149 X.1 6 (v := (nI (i + 1))) (lv' := [(4, .int (nI (i + 1))), (6, .int (bI (hs1 ((1024 * o0) + i)))), (5, .int (bI (hs1 ((1024 * s0) + i)))), (0, .ref (K 0)), (1, .int (nI s0)), (2, .int (nI o0)), (3, .int (nI 33))]) dX7_joins_149 rfl (nI_add i 1) (by decide) rfl ?_
                    refine zz_goto 152 3 X.1 dX7_joins_152 (by decide) ?_
                    refine zz_lvs [3, 4, 5, 6, 0] rfl ?_
                    exact ih3 (i + 1) (va_up hs1 ((1024 * s0) + i) true) (by omega) (sF_up2 hh (by clear hh; simp [pJ, *])) (by omega)
            · exfalso; omega
          · exfalso; omega
        · exfalso; omega
  refine zz_lvs [1, 2, 3, 4, 0] rfl ?_
  exact C3 (1024 - 0 + 1) 0 hs (by omega) (sF_0.symm) (Nat.lt_succ_self _)

set_option maxHeartbeats 4000000 in
set_option maxRecDepth 100000 in
theorem kt_X7_joins_61 (l : Launch) (D : va_G) (C : Nat → ClassId) (K : Nat → Nat) (hAp : RAp K) (F : Nat → Int32) (hs mv : Nat → Bool) (G : Nat → Nat → Int32) (s0 : Nat) (o0 : Nat) (hs0 : s0 < 8) (ho0 : o0 < 8) : RMi l yX7_joins wsX7_joins rm_X7_joins D C K [.int (nI s0), .int (nI o0), .int (nI 61)] F hs mv G (fun (r : Int32) (u : MSt) => r = (nI (ct (fun i => pJ 61 (hM hs s0 i) (hM hs o0 i)) 1024)) ∧ u = (F, sS hs s0 (fun i => pJ 61 (hM hs s0 i) (hM hs o0 i)), mv, G)) := by
  refine RMi_of (lv := [(0, .ref (K 0)), (1, .int (nI s0)), (2, .int (nI o0)), (3, .int (nI 61))]) (cc := cX7_joins) (maxL := 7) (ret := (some .int)) rfl rfl (by decide +kernel) (Nat.le_of_ble_eq_true rfl) rfl ?_
  intro p e s m args below meth c X hml hr hlk
  generalize hQ : MQ below _ args s 0 0 _ = Q
  refine zz_iconst 0 X.1 (v := nI 0) dX7_joins_0 rfl ?_
  refine zz_istore 1 X.1 (lv' := [(4, .int (nI 0)), (0, .ref (K 0)), (1, .int (nI s0)), (2, .int (nI o0)), (3, .int (nI 61))]) dX7_joins_1 (by decide) rfl ?_
  have C3 : ∀ (d : Nat) (i : Nat) (hs1 : Nat → Bool) (hi : i ≤ 1024) (hh : hs1 = sF hs s0 (fun i => pJ 61 (hM hs s0 i) (hM hs o0 i)) i) (hd : 1024 - i < d), ZZ p l e rm_X7_joins s m args below meth c 0 0 Q (zz_A (RAd K) s.heap.size) (RP D C K F hs1 mv G) 7 [(0, .ref (K 0)), (1, .int (nI s0)), (2, .int (nI o0)), (3, .int (nI 61)), (4, .int (nI i))] [] 3 := by
    intro d
    induction d with
    | zero => intro i hs1 hi hh hd; exact absurd hd (Nat.not_lt_zero _)
    | succ d ih3 =>
      intro i hs1 hi hh hd
      have ea : hM hs s0 i = hs1 (1024 * s0 + i) := by rw [hh, sF_rd (Nat.le_refl _)]; rfl
      have eb : i < 1024 → hM hs o0 i = hs1 (1024 * o0 + i) := fun hz => by rw [hh, sF_rdo hz hi (Or.inr (Nat.le_refl _))]; rfl
      refine zz_iload 3 X.1 4 dX7_joins_3 rfl ?_
      refine zz_sipush 5 X.1 (v := nI 1024) dX7_joins_5 rfl ?_
      refine zz_icmp_ge 8 155 X.1 (nI_toInt (by omega)) (nI_toInt (by omega)) dX7_joins_8 (by decide) (fun h8 => ?_) (fun h8 => ?_)
      · skip
        refine rr_hs (hs' := sS hs s0 (fun i => pJ 61 (hM hs s0 i) (hM hs o0 i))) (hh.trans (by rw [show i = 1024 by omega]; rfl)) ?_
        refine zz_aload_n 155 X.1 0 dX7_joins_155 rfl ?_
        refine zz_iload_n 156 X.1 1 dX7_joins_156 rfl ?_
        refine rr_callVi 157 X hml (As := [.int (nI s0)]) (kt_X7_many l D C K hAp F (sS hs s0 (fun i => pJ 61 (hM hs s0 i) (hM hs o0 i))) mv G s0 (by first | rfl | assumption | omega)) gX7_joins_X7_many rfl ⟨rfl, rfl⟩ yd_X7_many ⟨Nat.le_of_ble_eq_true rfl, Nat.le_of_ble_eq_true rfl⟩ rfl rfl (Nat.le_of_ble_eq_true rfl) dX7_joins_157 ?_
        rintro r1 ⟨F1, hs1, mv1, G1⟩ hu1
        obtain ⟨rfl, hv1⟩ := hu1
        cases hv1
        refine zz_world (P' := (RP D C K F (sS hs s0 (fun i => pJ 61 (hM hs s0 i) (hM hs o0 i))) mv G)) (fun _ h => h) ?_
        rw [← hQ]
        refine zz_iret 160 X.1 hr rfl hlk (F, sS hs s0 (fun i => pJ 61 (hM hs s0 i) (hM hs o0 i)), mv, G) ?_ (fun _ h _ => h) dX7_joins_160
        exact ⟨by rw [ct_sS], rfl⟩
      · skip
        replace eb := eb (by omega)
        refine zz_aload_n 11 X.1 0 dX7_joins_11 rfl ?_
        refine rr_get 12 X 1 (by decide) (v := .ref (K 1)) rfl (by decide +kernel) rfl dX7_joins_12 ?_
        refine zz_sipush 15 X.1 (v := nI 1024) dX7_joins_15 rfl ?_
        refine zz_iload_n 18 X.1 1 dX7_joins_18 rfl ?_
        refine zz_imul 19 X.1 (v := (nI (1024 * s0))) dX7_joins_19 (pk_mul _ _) ?_
        refine zz_iload 20 X.1 4 dX7_joins_20 rfl ?_
        refine zz_iadd 22 X.1 (v := (nI ((1024 * s0) + i))) dX7_joins_22 (nI_add _ _) ?_
        refine rr_hld 23 X (by omega) dX7_joins_23 ?_
        refine zz_istore 24 X.1 (lv' := [(5, .int (bI (hs1 ((1024 * s0) + i)))), (0, .ref (K 0)), (1, .int (nI s0)), (2, .int (nI o0)), (3, .int (nI 61)), (4, .int (nI i))]) dX7_joins_24 (by decide) rfl ?_
        refine zz_aload_n 26 X.1 1 dX7_joins_26 rfl ?_
        refine rr_get 27 X 1 (by decide) (v := .ref (K 1)) rfl (by decide +kernel) rfl dX7_joins_27 ?_
        refine zz_sipush 30 X.1 (v := nI 1024) dX7_joins_30 rfl ?_
        refine zz_iload_n 33 X.1 3 dX7_joins_33 rfl ?_
        refine zz_imul 34 X.1 (v := (nI (1024 * o0))) dX7_joins_34 (pk_mul _ _) ?_
        refine zz_iload 35 X.1 5 dX7_joins_35 rfl ?_
        refine zz_iadd 37 X.1 (v := (nI ((1024 * o0) + i))) dX7_joins_37 (nI_add _ _) ?_
        refine rr_hld 38 X (by omega) dX7_joins_38 ?_
        refine zz_istore 39 X.1 (lv' := [(6, .int (bI (hs1 ((1024 * o0) + i)))), (5, .int (bI (hs1 ((1024 * s0) + i)))), (0, .ref (K 0)), (1, .int (nI s0)), (2, .int (nI o0)), (3, .int (nI 61)), (4, .int (nI i))]) dX7_joins_39 (by decide) rfl ?_
        refine zz_aload_n 41 X.1 2 dX7_joins_41 rfl ?_
        refine rr_get 42 X 1 (by decide) (v := .ref (K 1)) rfl (by decide +kernel) rfl dX7_joins_42 ?_
        refine zz_sipush 45 X.1 (v := nI 1024) dX7_joins_45 rfl ?_
        refine zz_iload_n 48 X.1 3 dX7_joins_48 rfl ?_
        refine zz_imul 49 X.1 (v := (nI (1024 * s0))) dX7_joins_49 (pk_mul _ _) ?_
        refine zz_iload 50 X.1 6 dX7_joins_50 rfl ?_
        refine zz_iadd 52 X.1 (v := (nI ((1024 * s0) + i))) dX7_joins_52 (nI_add _ _) ?_
        refine zz_iload_n 53 X.1 5 dX7_joins_53 rfl ?_
        refine zz_bipush 54 X.1 (v := nI 38) dX7_joins_54 rfl ?_
        refine zz_icmp_ne 56 77 X.1 (nI_toInt (by omega)) (nI_toInt (by omega)) dX7_joins_56 (by decide) (fun h56 => ?_) (fun h56 => ?_)
        · skip
          refine zz_iload_n 77 X.1 5 dX7_joins_77 rfl ?_
          refine zz_bipush 78 X.1 (v := nI 124) dX7_joins_78 rfl ?_
          refine zz_icmp_ne 80 101 X.1 (nI_toInt (by omega)) (nI_toInt (by omega)) dX7_joins_80 (by decide) (fun h80 => ?_) (fun h80 => ?_)
          · skip
            refine zz_iload_n 101 X.1 5 dX7_joins_101 rfl ?_
            refine zz_bipush 102 X.1 (v := nI 126) dX7_joins_102 rfl ?_
            refine zz_icmp_ne 104 122 X.1 (nI_toInt (by omega)) (nI_toInt (by omega)) dX7_joins_104 (by decide) (fun h104 => ?_) (fun h104 => ?_)
            · skip
              refine zz_iload_n 122 X.1 5 dX7_joins_122 rfl ?_
              refine zz_bipush 123 X.1 (v := nI 33) dX7_joins_123 rfl ?_
              refine zz_icmp_ne 125 146 X.1 (nI_toInt (by omega)) (nI_toInt (by omega)) dX7_joins_125 (by decide) (fun h125 => ?_) (fun h125 => ?_)
              · skip
                refine zz_iload 146 X.1 0 dX7_joins_146 rfl ?_
                refine rr_hst 148 hAp X (by omega) dX7_joins_148 ?_
                refine zz_iinc 149 X.1 6 (v := (nI (i + 1))) (lv' := [(4, .int (nI (i + 1))), (6, .int (bI (hs1 ((1024 * o0) + i)))), (5, .int (bI (hs1 ((1024 * s0) + i)))), (0, .ref (K 0)), (1, .int (nI s0)), (2, .int (nI o0)), (3, .int (nI 61))]) dX7_joins_149 rfl (nI_add i 1) (by decide) rfl ?_
                refine zz_goto 152 3 X.1 dX7_joins_152 (by decide) ?_
                refine zz_lvs [3, 4, 5, 6, 0] rfl ?_
                exact ih3 (i + 1) (va_up hs1 ((1024 * s0) + i) (hs1 ((1024 * o0) + i))) (by omega) (sF_up2 hh (by clear hh; simp [pJ, *])) (by omega)
              · exfalso; omega
            · exfalso; omega
          · exfalso; omega
        · exfalso; omega
  refine zz_lvs [1, 2, 3, 4, 0] rfl ?_
  exact C3 (1024 - 0 + 1) 0 hs (by omega) (sF_0.symm) (Nat.lt_succ_self _)

abbrev rm_X7_intersect : Room := { frames := 3, cells := 0, slots := 0, locals := 65 }
theorem yd_X7_intersect : yX7_intersect.cls = RX7 ∧ yX7_intersect.cls ≠ "java/lang/invoke/MethodHandle" ∧ yX7_intersect.cls ≠ "java/lang/invoke/VarHandle" ∧ (parseMethodDescriptor yX7_intersect.desc).map (fun d => d.parameters.length) = some 2 := by decide +kernel
set_option maxHeartbeats 4000000 in
set_option maxRecDepth 100000 in
theorem kt_X7_intersect_no (l : Launch) (D : va_G) (C : Nat → ClassId) (K : Nat → Nat) (hAp : RAp K) (F : Nat → Int32) (hs mv : Nat → Bool) (G : Nat → Nat → Int32) (x0 : Int32) (x1 : Int32) (a : Int) (b : Int) (h_a : x0.toInt = a) (h_b : x1.toInt = b) (hno : ¬ ((0 ≤ a ∧ a < 8) ∧ 0 ≤ b ∧ b < 8)) : RMi l yX7_intersect wsX7_intersect rm_X7_intersect D C K [.int x0, .int x1] F hs mv G (fun (r : Int32) (u : MSt) => r = (nI 0) ∧ u = (upd F 0 (nI 1), hs, mv, G)) := by
  refine RMi_of (lv := [(0, .ref (K 0)), (1, .int x0), (2, .int x1)]) (cc := cX7_intersect) (maxL := 3) (ret := (some .int)) rfl rfl (by decide +kernel) (Nat.le_of_ble_eq_true rfl) rfl ?_
  intro p e s m args below meth c X hml hr hlk
  generalize hQ : MQ below _ args s 0 0 _ = Q
  refine zz_aload_n 0 X.1 0 dX7_intersect_0 rfl ?_
  refine zz_iconst 1 X.1 (v := nI 0) dX7_intersect_1 rfl ?_
  refine rr_put 2 hAp X 0 (by decide) (F' := upd F 0 (nI 0)) rfl (by decide +kernel) ⟨rfl, rfl⟩ (by decide +kernel) dX7_intersect_2 ?_
  refine zz_aload_n 5 X.1 0 dX7_intersect_5 rfl ?_
  refine zz_iload_n 6 X.1 1 dX7_intersect_6 rfl ?_
  refine zz_iload_n 7 X.1 2 dX7_intersect_7 rfl ?_
  refine rr_callVi 8 X hml (As := [.int x0, .int x1]) (kt_X7_noSets l D C K hAp (upd F 0 (nI 0)) hs mv G x0 x1 a b (h_a) (h_b) (by first | rfl | assumption | omega)) gX7_intersect_X7_noSets rfl ⟨rfl, rfl⟩ yd_X7_noSets ⟨Nat.le_of_ble_eq_true rfl, Nat.le_of_ble_eq_true rfl⟩ rfl rfl (Nat.le_of_ble_eq_true rfl) dX7_intersect_8 ?_
  rintro r1 ⟨F1, hs1, mv1, G1⟩ hu1
  rcases (show ((0 ≤ a ∧ a < 8) ∧ 0 ≤ b ∧ b < 8) ∨ (¬ ((0 ≤ a ∧ a < 8) ∧ 0 ≤ b ∧ b < 8)) by omega) with hc1 | hc1
  · exfalso; omega
  · skip
    obtain ⟨rfl, hv1⟩ := (hu1.2 hc1)
    cases hv1
    refine zz_world (P' := (RP D C K (upd F 0 (nI 1)) hs mv G)) (fun _ h => h) ?_
    refine zz_ifB_eq 11 18 X.1 dX7_intersect_11 (by decide) (fun h11 => ?_) (fun h11 => ?_)
    · exact absurd h11 (by decide)
    · skip
      refine zz_iconst 14 X.1 (v := nI 0) dX7_intersect_14 rfl ?_
      refine zz_goto 15 26 X.1 dX7_intersect_15 (by decide) ?_
      rw [← hQ]
      refine zz_iret 26 X.1 hr rfl hlk (upd F 0 (nI 1), hs, mv, G) ?_ (fun _ h _ => h) dX7_intersect_26
      exact ⟨rfl, rfl⟩

set_option maxHeartbeats 4000000 in
set_option maxRecDepth 100000 in
theorem kt_X7_intersect_ok (l : Launch) (D : va_G) (C : Nat → ClassId) (K : Nat → Nat) (hAp : RAp K) (F : Nat → Int32) (hs mv : Nat → Bool) (G : Nat → Nat → Int32) (s0 : Nat) (o0 : Nat) (hs0 : s0 < 8) (ho0 : o0 < 8) : RMi l yX7_intersect wsX7_intersect rm_X7_intersect D C K [.int (nI s0), .int (nI o0)] F hs mv G (fun (r : Int32) (u : MSt) => r = (nI (ct (fun i => pJ 38 (hM hs s0 i) (hM hs o0 i)) 1024)) ∧ u = (upd F 0 (nI 0), sS hs s0 (fun i => pJ 38 (hM hs s0 i) (hM hs o0 i)), mv, G)) := by
  refine RMi_of (lv := [(0, .ref (K 0)), (1, .int (nI s0)), (2, .int (nI o0))]) (cc := cX7_intersect) (maxL := 3) (ret := (some .int)) rfl rfl (by decide +kernel) (Nat.le_of_ble_eq_true rfl) rfl ?_
  intro p e s m args below meth c X hml hr hlk
  generalize hQ : MQ below _ args s 0 0 _ = Q
  refine zz_aload_n 0 X.1 0 dX7_intersect_0 rfl ?_
  refine zz_iconst 1 X.1 (v := nI 0) dX7_intersect_1 rfl ?_
  refine rr_put 2 hAp X 0 (by decide) (F' := upd F 0 (nI 0)) rfl (by decide +kernel) ⟨rfl, rfl⟩ (by decide +kernel) dX7_intersect_2 ?_
  refine zz_aload_n 5 X.1 0 dX7_intersect_5 rfl ?_
  refine zz_iload_n 6 X.1 1 dX7_intersect_6 rfl ?_
  refine zz_iload_n 7 X.1 2 dX7_intersect_7 rfl ?_
  refine rr_callVi 8 X hml (As := [.int (nI s0), .int (nI o0)]) (kt_X7_noSets l D C K hAp (upd F 0 (nI 0)) hs mv G (nI s0) (nI o0) ((s0 : Nat) : Int) ((o0 : Nat) : Int) (nI_toInt (by omega)) (nI_toInt (by omega)) (by first | rfl | assumption | omega)) gX7_intersect_X7_noSets rfl ⟨rfl, rfl⟩ yd_X7_noSets ⟨Nat.le_of_ble_eq_true rfl, Nat.le_of_ble_eq_true rfl⟩ rfl rfl (Nat.le_of_ble_eq_true rfl) dX7_intersect_8 ?_
  rintro r1 ⟨F1, hs1, mv1, G1⟩ hu1
  obtain ⟨rfl, hv1⟩ := (hu1.1 (by omega))
  cases hv1
  refine zz_world (P' := (RP D C K (upd F 0 (nI 0)) hs mv G)) (fun _ h => h) ?_
  refine zz_ifB_eq 11 18 X.1 dX7_intersect_11 (by decide) (fun h11 => ?_) (fun h11 => ?_)
  · skip
    refine zz_aload_n 18 X.1 0 dX7_intersect_18 rfl ?_
    refine zz_iload_n 19 X.1 1 dX7_intersect_19 rfl ?_
    refine zz_iload_n 20 X.1 2 dX7_intersect_20 rfl ?_
    refine zz_bipush 21 X.1 (v := nI 38) dX7_intersect_21 rfl ?_
    refine rr_callVi 23 X hml (As := [.int (nI s0), .int (nI o0), .int (nI 38)]) (kt_X7_joins_38 l D C K hAp (upd F 0 (nI 0)) hs mv G s0 o0 (by first | rfl | assumption | omega) (by first | rfl | assumption | omega)) gX7_intersect_X7_joins rfl ⟨rfl, rfl⟩ yd_X7_joins ⟨Nat.le_of_ble_eq_true rfl, Nat.le_of_ble_eq_true rfl⟩ rfl rfl (Nat.le_of_ble_eq_true rfl) dX7_intersect_23 ?_
    rintro r2 ⟨F2, hs2, mv2, G2⟩ hu2
    obtain ⟨rfl, hv2⟩ := hu2
    cases hv2
    refine zz_world (P' := (RP D C K (upd F 0 (nI 0)) (sS hs s0 (fun i => pJ 38 (hM hs s0 i) (hM hs o0 i))) mv G)) (fun _ h => h) ?_
    rw [← hQ]
    refine zz_iret 26 X.1 hr rfl hlk (upd F 0 (nI 0), sS hs s0 (fun i => pJ 38 (hM hs s0 i) (hM hs o0 i)), mv, G) ?_ (fun _ h _ => h) dX7_intersect_26
    exact ⟨rfl, rfl⟩
  · exact absurd h11 (by decide)

abbrev rm_X7_unite : Room := { frames := 3, cells := 0, slots := 0, locals := 65 }
theorem yd_X7_unite : yX7_unite.cls = RX7 ∧ yX7_unite.cls ≠ "java/lang/invoke/MethodHandle" ∧ yX7_unite.cls ≠ "java/lang/invoke/VarHandle" ∧ (parseMethodDescriptor yX7_unite.desc).map (fun d => d.parameters.length) = some 2 := by decide +kernel
set_option maxHeartbeats 4000000 in
set_option maxRecDepth 100000 in
theorem kt_X7_unite_no (l : Launch) (D : va_G) (C : Nat → ClassId) (K : Nat → Nat) (hAp : RAp K) (F : Nat → Int32) (hs mv : Nat → Bool) (G : Nat → Nat → Int32) (x0 : Int32) (x1 : Int32) (a : Int) (b : Int) (h_a : x0.toInt = a) (h_b : x1.toInt = b) (hno : ¬ ((0 ≤ a ∧ a < 8) ∧ 0 ≤ b ∧ b < 8)) : RMi l yX7_unite wsX7_unite rm_X7_unite D C K [.int x0, .int x1] F hs mv G (fun (r : Int32) (u : MSt) => r = (nI 0) ∧ u = (upd F 0 (nI 1), hs, mv, G)) := by
  refine RMi_of (lv := [(0, .ref (K 0)), (1, .int x0), (2, .int x1)]) (cc := cX7_unite) (maxL := 3) (ret := (some .int)) rfl rfl (by decide +kernel) (Nat.le_of_ble_eq_true rfl) rfl ?_
  intro p e s m args below meth c X hml hr hlk
  generalize hQ : MQ below _ args s 0 0 _ = Q
  refine zz_aload_n 0 X.1 0 dX7_unite_0 rfl ?_
  refine zz_iconst 1 X.1 (v := nI 0) dX7_unite_1 rfl ?_
  refine rr_put 2 hAp X 0 (by decide) (F' := upd F 0 (nI 0)) rfl (by decide +kernel) ⟨rfl, rfl⟩ (by decide +kernel) dX7_unite_2 ?_
  refine zz_aload_n 5 X.1 0 dX7_unite_5 rfl ?_
  refine zz_iload_n 6 X.1 1 dX7_unite_6 rfl ?_
  refine zz_iload_n 7 X.1 2 dX7_unite_7 rfl ?_
  refine rr_callVi 8 X hml (As := [.int x0, .int x1]) (kt_X7_noSets l D C K hAp (upd F 0 (nI 0)) hs mv G x0 x1 a b (h_a) (h_b) (by first | rfl | assumption | omega)) gX7_unite_X7_noSets rfl ⟨rfl, rfl⟩ yd_X7_noSets ⟨Nat.le_of_ble_eq_true rfl, Nat.le_of_ble_eq_true rfl⟩ rfl rfl (Nat.le_of_ble_eq_true rfl) dX7_unite_8 ?_
  rintro r1 ⟨F1, hs1, mv1, G1⟩ hu1
  rcases (show ((0 ≤ a ∧ a < 8) ∧ 0 ≤ b ∧ b < 8) ∨ (¬ ((0 ≤ a ∧ a < 8) ∧ 0 ≤ b ∧ b < 8)) by omega) with hc1 | hc1
  · exfalso; omega
  · skip
    obtain ⟨rfl, hv1⟩ := (hu1.2 hc1)
    cases hv1
    refine zz_world (P' := (RP D C K (upd F 0 (nI 1)) hs mv G)) (fun _ h => h) ?_
    refine zz_ifB_eq 11 18 X.1 dX7_unite_11 (by decide) (fun h11 => ?_) (fun h11 => ?_)
    · exact absurd h11 (by decide)
    · skip
      refine zz_iconst 14 X.1 (v := nI 0) dX7_unite_14 rfl ?_
      refine zz_goto 15 26 X.1 dX7_unite_15 (by decide) ?_
      rw [← hQ]
      refine zz_iret 26 X.1 hr rfl hlk (upd F 0 (nI 1), hs, mv, G) ?_ (fun _ h _ => h) dX7_unite_26
      exact ⟨rfl, rfl⟩

set_option maxHeartbeats 4000000 in
set_option maxRecDepth 100000 in
theorem kt_X7_unite_ok (l : Launch) (D : va_G) (C : Nat → ClassId) (K : Nat → Nat) (hAp : RAp K) (F : Nat → Int32) (hs mv : Nat → Bool) (G : Nat → Nat → Int32) (s0 : Nat) (o0 : Nat) (hs0 : s0 < 8) (ho0 : o0 < 8) : RMi l yX7_unite wsX7_unite rm_X7_unite D C K [.int (nI s0), .int (nI o0)] F hs mv G (fun (r : Int32) (u : MSt) => r = (nI (ct (fun i => pJ 124 (hM hs s0 i) (hM hs o0 i)) 1024)) ∧ u = (upd F 0 (nI 0), sS hs s0 (fun i => pJ 124 (hM hs s0 i) (hM hs o0 i)), mv, G)) := by
  refine RMi_of (lv := [(0, .ref (K 0)), (1, .int (nI s0)), (2, .int (nI o0))]) (cc := cX7_unite) (maxL := 3) (ret := (some .int)) rfl rfl (by decide +kernel) (Nat.le_of_ble_eq_true rfl) rfl ?_
  intro p e s m args below meth c X hml hr hlk
  generalize hQ : MQ below _ args s 0 0 _ = Q
  refine zz_aload_n 0 X.1 0 dX7_unite_0 rfl ?_
  refine zz_iconst 1 X.1 (v := nI 0) dX7_unite_1 rfl ?_
  refine rr_put 2 hAp X 0 (by decide) (F' := upd F 0 (nI 0)) rfl (by decide +kernel) ⟨rfl, rfl⟩ (by decide +kernel) dX7_unite_2 ?_
  refine zz_aload_n 5 X.1 0 dX7_unite_5 rfl ?_
  refine zz_iload_n 6 X.1 1 dX7_unite_6 rfl ?_
  refine zz_iload_n 7 X.1 2 dX7_unite_7 rfl ?_
  refine rr_callVi 8 X hml (As := [.int (nI s0), .int (nI o0)]) (kt_X7_noSets l D C K hAp (upd F 0 (nI 0)) hs mv G (nI s0) (nI o0) ((s0 : Nat) : Int) ((o0 : Nat) : Int) (nI_toInt (by omega)) (nI_toInt (by omega)) (by first | rfl | assumption | omega)) gX7_unite_X7_noSets rfl ⟨rfl, rfl⟩ yd_X7_noSets ⟨Nat.le_of_ble_eq_true rfl, Nat.le_of_ble_eq_true rfl⟩ rfl rfl (Nat.le_of_ble_eq_true rfl) dX7_unite_8 ?_
  rintro r1 ⟨F1, hs1, mv1, G1⟩ hu1
  obtain ⟨rfl, hv1⟩ := (hu1.1 (by omega))
  cases hv1
  refine zz_world (P' := (RP D C K (upd F 0 (nI 0)) hs mv G)) (fun _ h => h) ?_
  refine zz_ifB_eq 11 18 X.1 dX7_unite_11 (by decide) (fun h11 => ?_) (fun h11 => ?_)
  · skip
    refine zz_aload_n 18 X.1 0 dX7_unite_18 rfl ?_
    refine zz_iload_n 19 X.1 1 dX7_unite_19 rfl ?_
    refine zz_iload_n 20 X.1 2 dX7_unite_20 rfl ?_
    refine zz_bipush 21 X.1 (v := nI 124) dX7_unite_21 rfl ?_
    refine rr_callVi 23 X hml (As := [.int (nI s0), .int (nI o0), .int (nI 124)]) (kt_X7_joins_124 l D C K hAp (upd F 0 (nI 0)) hs mv G s0 o0 (by first | rfl | assumption | omega) (by first | rfl | assumption | omega)) gX7_unite_X7_joins rfl ⟨rfl, rfl⟩ yd_X7_joins ⟨Nat.le_of_ble_eq_true rfl, Nat.le_of_ble_eq_true rfl⟩ rfl rfl (Nat.le_of_ble_eq_true rfl) dX7_unite_23 ?_
    rintro r2 ⟨F2, hs2, mv2, G2⟩ hu2
    obtain ⟨rfl, hv2⟩ := hu2
    cases hv2
    refine zz_world (P' := (RP D C K (upd F 0 (nI 0)) (sS hs s0 (fun i => pJ 124 (hM hs s0 i) (hM hs o0 i))) mv G)) (fun _ h => h) ?_
    rw [← hQ]
    refine zz_iret 26 X.1 hr rfl hlk (upd F 0 (nI 0), sS hs s0 (fun i => pJ 124 (hM hs s0 i) (hM hs o0 i)), mv, G) ?_ (fun _ h _ => h) dX7_unite_26
    exact ⟨rfl, rfl⟩
  · exact absurd h11 (by decide)

abbrev rm_X7_differ : Room := { frames := 3, cells := 0, slots := 0, locals := 65 }
theorem yd_X7_differ : yX7_differ.cls = RX7 ∧ yX7_differ.cls ≠ "java/lang/invoke/MethodHandle" ∧ yX7_differ.cls ≠ "java/lang/invoke/VarHandle" ∧ (parseMethodDescriptor yX7_differ.desc).map (fun d => d.parameters.length) = some 2 := by decide +kernel
set_option maxHeartbeats 4000000 in
set_option maxRecDepth 100000 in
theorem kt_X7_differ_no (l : Launch) (D : va_G) (C : Nat → ClassId) (K : Nat → Nat) (hAp : RAp K) (F : Nat → Int32) (hs mv : Nat → Bool) (G : Nat → Nat → Int32) (x0 : Int32) (x1 : Int32) (a : Int) (b : Int) (h_a : x0.toInt = a) (h_b : x1.toInt = b) (hno : ¬ ((0 ≤ a ∧ a < 8) ∧ 0 ≤ b ∧ b < 8)) : RMi l yX7_differ wsX7_differ rm_X7_differ D C K [.int x0, .int x1] F hs mv G (fun (r : Int32) (u : MSt) => r = (nI 0) ∧ u = (upd F 0 (nI 1), hs, mv, G)) := by
  refine RMi_of (lv := [(0, .ref (K 0)), (1, .int x0), (2, .int x1)]) (cc := cX7_differ) (maxL := 3) (ret := (some .int)) rfl rfl (by decide +kernel) (Nat.le_of_ble_eq_true rfl) rfl ?_
  intro p e s m args below meth c X hml hr hlk
  generalize hQ : MQ below _ args s 0 0 _ = Q
  refine zz_aload_n 0 X.1 0 dX7_differ_0 rfl ?_
  refine zz_iconst 1 X.1 (v := nI 0) dX7_differ_1 rfl ?_
  refine rr_put 2 hAp X 0 (by decide) (F' := upd F 0 (nI 0)) rfl (by decide +kernel) ⟨rfl, rfl⟩ (by decide +kernel) dX7_differ_2 ?_
  refine zz_aload_n 5 X.1 0 dX7_differ_5 rfl ?_
  refine zz_iload_n 6 X.1 1 dX7_differ_6 rfl ?_
  refine zz_iload_n 7 X.1 2 dX7_differ_7 rfl ?_
  refine rr_callVi 8 X hml (As := [.int x0, .int x1]) (kt_X7_noSets l D C K hAp (upd F 0 (nI 0)) hs mv G x0 x1 a b (h_a) (h_b) (by first | rfl | assumption | omega)) gX7_differ_X7_noSets rfl ⟨rfl, rfl⟩ yd_X7_noSets ⟨Nat.le_of_ble_eq_true rfl, Nat.le_of_ble_eq_true rfl⟩ rfl rfl (Nat.le_of_ble_eq_true rfl) dX7_differ_8 ?_
  rintro r1 ⟨F1, hs1, mv1, G1⟩ hu1
  rcases (show ((0 ≤ a ∧ a < 8) ∧ 0 ≤ b ∧ b < 8) ∨ (¬ ((0 ≤ a ∧ a < 8) ∧ 0 ≤ b ∧ b < 8)) by omega) with hc1 | hc1
  · exfalso; omega
  · skip
    obtain ⟨rfl, hv1⟩ := (hu1.2 hc1)
    cases hv1
    refine zz_world (P' := (RP D C K (upd F 0 (nI 1)) hs mv G)) (fun _ h => h) ?_
    refine zz_ifB_eq 11 18 X.1 dX7_differ_11 (by decide) (fun h11 => ?_) (fun h11 => ?_)
    · exact absurd h11 (by decide)
    · skip
      refine zz_iconst 14 X.1 (v := nI 0) dX7_differ_14 rfl ?_
      refine zz_goto 15 26 X.1 dX7_differ_15 (by decide) ?_
      rw [← hQ]
      refine zz_iret 26 X.1 hr rfl hlk (upd F 0 (nI 1), hs, mv, G) ?_ (fun _ h _ => h) dX7_differ_26
      exact ⟨rfl, rfl⟩

set_option maxHeartbeats 4000000 in
set_option maxRecDepth 100000 in
theorem kt_X7_differ_ok (l : Launch) (D : va_G) (C : Nat → ClassId) (K : Nat → Nat) (hAp : RAp K) (F : Nat → Int32) (hs mv : Nat → Bool) (G : Nat → Nat → Int32) (s0 : Nat) (o0 : Nat) (hs0 : s0 < 8) (ho0 : o0 < 8) : RMi l yX7_differ wsX7_differ rm_X7_differ D C K [.int (nI s0), .int (nI o0)] F hs mv G (fun (r : Int32) (u : MSt) => r = (nI (ct (fun i => pJ 126 (hM hs s0 i) (hM hs o0 i)) 1024)) ∧ u = (upd F 0 (nI 0), sS hs s0 (fun i => pJ 126 (hM hs s0 i) (hM hs o0 i)), mv, G)) := by
  refine RMi_of (lv := [(0, .ref (K 0)), (1, .int (nI s0)), (2, .int (nI o0))]) (cc := cX7_differ) (maxL := 3) (ret := (some .int)) rfl rfl (by decide +kernel) (Nat.le_of_ble_eq_true rfl) rfl ?_
  intro p e s m args below meth c X hml hr hlk
  generalize hQ : MQ below _ args s 0 0 _ = Q
  refine zz_aload_n 0 X.1 0 dX7_differ_0 rfl ?_
  refine zz_iconst 1 X.1 (v := nI 0) dX7_differ_1 rfl ?_
  refine rr_put 2 hAp X 0 (by decide) (F' := upd F 0 (nI 0)) rfl (by decide +kernel) ⟨rfl, rfl⟩ (by decide +kernel) dX7_differ_2 ?_
  refine zz_aload_n 5 X.1 0 dX7_differ_5 rfl ?_
  refine zz_iload_n 6 X.1 1 dX7_differ_6 rfl ?_
  refine zz_iload_n 7 X.1 2 dX7_differ_7 rfl ?_
  refine rr_callVi 8 X hml (As := [.int (nI s0), .int (nI o0)]) (kt_X7_noSets l D C K hAp (upd F 0 (nI 0)) hs mv G (nI s0) (nI o0) ((s0 : Nat) : Int) ((o0 : Nat) : Int) (nI_toInt (by omega)) (nI_toInt (by omega)) (by first | rfl | assumption | omega)) gX7_differ_X7_noSets rfl ⟨rfl, rfl⟩ yd_X7_noSets ⟨Nat.le_of_ble_eq_true rfl, Nat.le_of_ble_eq_true rfl⟩ rfl rfl (Nat.le_of_ble_eq_true rfl) dX7_differ_8 ?_
  rintro r1 ⟨F1, hs1, mv1, G1⟩ hu1
  obtain ⟨rfl, hv1⟩ := (hu1.1 (by omega))
  cases hv1
  refine zz_world (P' := (RP D C K (upd F 0 (nI 0)) hs mv G)) (fun _ h => h) ?_
  refine zz_ifB_eq 11 18 X.1 dX7_differ_11 (by decide) (fun h11 => ?_) (fun h11 => ?_)
  · skip
    refine zz_aload_n 18 X.1 0 dX7_differ_18 rfl ?_
    refine zz_iload_n 19 X.1 1 dX7_differ_19 rfl ?_
    refine zz_iload_n 20 X.1 2 dX7_differ_20 rfl ?_
    refine zz_bipush 21 X.1 (v := nI 126) dX7_differ_21 rfl ?_
    refine rr_callVi 23 X hml (As := [.int (nI s0), .int (nI o0), .int (nI 126)]) (kt_X7_joins_126 l D C K hAp (upd F 0 (nI 0)) hs mv G s0 o0 (by first | rfl | assumption | omega) (by first | rfl | assumption | omega)) gX7_differ_X7_joins rfl ⟨rfl, rfl⟩ yd_X7_joins ⟨Nat.le_of_ble_eq_true rfl, Nat.le_of_ble_eq_true rfl⟩ rfl rfl (Nat.le_of_ble_eq_true rfl) dX7_differ_23 ?_
    rintro r2 ⟨F2, hs2, mv2, G2⟩ hu2
    obtain ⟨rfl, hv2⟩ := hu2
    cases hv2
    refine zz_world (P' := (RP D C K (upd F 0 (nI 0)) (sS hs s0 (fun i => pJ 126 (hM hs s0 i) (hM hs o0 i))) mv G)) (fun _ h => h) ?_
    rw [← hQ]
    refine zz_iret 26 X.1 hr rfl hlk (upd F 0 (nI 0), sS hs s0 (fun i => pJ 126 (hM hs s0 i) (hM hs o0 i)), mv, G) ?_ (fun _ h _ => h) dX7_differ_26
    exact ⟨rfl, rfl⟩
  · exact absurd h11 (by decide)

abbrev rm_X7_subtract : Room := { frames := 3, cells := 0, slots := 0, locals := 65 }
theorem yd_X7_subtract : yX7_subtract.cls = RX7 ∧ yX7_subtract.cls ≠ "java/lang/invoke/MethodHandle" ∧ yX7_subtract.cls ≠ "java/lang/invoke/VarHandle" ∧ (parseMethodDescriptor yX7_subtract.desc).map (fun d => d.parameters.length) = some 2 := by decide +kernel
set_option maxHeartbeats 4000000 in
set_option maxRecDepth 100000 in
theorem kt_X7_subtract_no (l : Launch) (D : va_G) (C : Nat → ClassId) (K : Nat → Nat) (hAp : RAp K) (F : Nat → Int32) (hs mv : Nat → Bool) (G : Nat → Nat → Int32) (x0 : Int32) (x1 : Int32) (a : Int) (b : Int) (h_a : x0.toInt = a) (h_b : x1.toInt = b) (hno : ¬ ((0 ≤ a ∧ a < 8) ∧ 0 ≤ b ∧ b < 8)) : RMi l yX7_subtract wsX7_subtract rm_X7_subtract D C K [.int x0, .int x1] F hs mv G (fun (r : Int32) (u : MSt) => r = (nI 0) ∧ u = (upd F 0 (nI 1), hs, mv, G)) := by
  refine RMi_of (lv := [(0, .ref (K 0)), (1, .int x0), (2, .int x1)]) (cc := cX7_subtract) (maxL := 3) (ret := (some .int)) rfl rfl (by decide +kernel) (Nat.le_of_ble_eq_true rfl) rfl ?_
  intro p e s m args below meth c X hml hr hlk
  generalize hQ : MQ below _ args s 0 0 _ = Q
  refine zz_aload_n 0 X.1 0 dX7_subtract_0 rfl ?_
  refine zz_iconst 1 X.1 (v := nI 0) dX7_subtract_1 rfl ?_
  refine rr_put 2 hAp X 0 (by decide) (F' := upd F 0 (nI 0)) rfl (by decide +kernel) ⟨rfl, rfl⟩ (by decide +kernel) dX7_subtract_2 ?_
  refine zz_aload_n 5 X.1 0 dX7_subtract_5 rfl ?_
  refine zz_iload_n 6 X.1 1 dX7_subtract_6 rfl ?_
  refine zz_iload_n 7 X.1 2 dX7_subtract_7 rfl ?_
  refine rr_callVi 8 X hml (As := [.int x0, .int x1]) (kt_X7_noSets l D C K hAp (upd F 0 (nI 0)) hs mv G x0 x1 a b (h_a) (h_b) (by first | rfl | assumption | omega)) gX7_subtract_X7_noSets rfl ⟨rfl, rfl⟩ yd_X7_noSets ⟨Nat.le_of_ble_eq_true rfl, Nat.le_of_ble_eq_true rfl⟩ rfl rfl (Nat.le_of_ble_eq_true rfl) dX7_subtract_8 ?_
  rintro r1 ⟨F1, hs1, mv1, G1⟩ hu1
  rcases (show ((0 ≤ a ∧ a < 8) ∧ 0 ≤ b ∧ b < 8) ∨ (¬ ((0 ≤ a ∧ a < 8) ∧ 0 ≤ b ∧ b < 8)) by omega) with hc1 | hc1
  · exfalso; omega
  · skip
    obtain ⟨rfl, hv1⟩ := (hu1.2 hc1)
    cases hv1
    refine zz_world (P' := (RP D C K (upd F 0 (nI 1)) hs mv G)) (fun _ h => h) ?_
    refine zz_ifB_eq 11 18 X.1 dX7_subtract_11 (by decide) (fun h11 => ?_) (fun h11 => ?_)
    · exact absurd h11 (by decide)
    · skip
      refine zz_iconst 14 X.1 (v := nI 0) dX7_subtract_14 rfl ?_
      refine zz_goto 15 26 X.1 dX7_subtract_15 (by decide) ?_
      rw [← hQ]
      refine zz_iret 26 X.1 hr rfl hlk (upd F 0 (nI 1), hs, mv, G) ?_ (fun _ h _ => h) dX7_subtract_26
      exact ⟨rfl, rfl⟩

set_option maxHeartbeats 4000000 in
set_option maxRecDepth 100000 in
theorem kt_X7_subtract_ok (l : Launch) (D : va_G) (C : Nat → ClassId) (K : Nat → Nat) (hAp : RAp K) (F : Nat → Int32) (hs mv : Nat → Bool) (G : Nat → Nat → Int32) (s0 : Nat) (o0 : Nat) (hs0 : s0 < 8) (ho0 : o0 < 8) : RMi l yX7_subtract wsX7_subtract rm_X7_subtract D C K [.int (nI s0), .int (nI o0)] F hs mv G (fun (r : Int32) (u : MSt) => r = (nI (ct (fun i => pJ 33 (hM hs s0 i) (hM hs o0 i)) 1024)) ∧ u = (upd F 0 (nI 0), sS hs s0 (fun i => pJ 33 (hM hs s0 i) (hM hs o0 i)), mv, G)) := by
  refine RMi_of (lv := [(0, .ref (K 0)), (1, .int (nI s0)), (2, .int (nI o0))]) (cc := cX7_subtract) (maxL := 3) (ret := (some .int)) rfl rfl (by decide +kernel) (Nat.le_of_ble_eq_true rfl) rfl ?_
  intro p e s m args below meth c X hml hr hlk
  generalize hQ : MQ below _ args s 0 0 _ = Q
  refine zz_aload_n 0 X.1 0 dX7_subtract_0 rfl ?_
  refine zz_iconst 1 X.1 (v := nI 0) dX7_subtract_1 rfl ?_
  refine rr_put 2 hAp X 0 (by decide) (F' := upd F 0 (nI 0)) rfl (by decide +kernel) ⟨rfl, rfl⟩ (by decide +kernel) dX7_subtract_2 ?_
  refine zz_aload_n 5 X.1 0 dX7_subtract_5 rfl ?_
  refine zz_iload_n 6 X.1 1 dX7_subtract_6 rfl ?_
  refine zz_iload_n 7 X.1 2 dX7_subtract_7 rfl ?_
  refine rr_callVi 8 X hml (As := [.int (nI s0), .int (nI o0)]) (kt_X7_noSets l D C K hAp (upd F 0 (nI 0)) hs mv G (nI s0) (nI o0) ((s0 : Nat) : Int) ((o0 : Nat) : Int) (nI_toInt (by omega)) (nI_toInt (by omega)) (by first | rfl | assumption | omega)) gX7_subtract_X7_noSets rfl ⟨rfl, rfl⟩ yd_X7_noSets ⟨Nat.le_of_ble_eq_true rfl, Nat.le_of_ble_eq_true rfl⟩ rfl rfl (Nat.le_of_ble_eq_true rfl) dX7_subtract_8 ?_
  rintro r1 ⟨F1, hs1, mv1, G1⟩ hu1
  obtain ⟨rfl, hv1⟩ := (hu1.1 (by omega))
  cases hv1
  refine zz_world (P' := (RP D C K (upd F 0 (nI 0)) hs mv G)) (fun _ h => h) ?_
  refine zz_ifB_eq 11 18 X.1 dX7_subtract_11 (by decide) (fun h11 => ?_) (fun h11 => ?_)
  · skip
    refine zz_aload_n 18 X.1 0 dX7_subtract_18 rfl ?_
    refine zz_iload_n 19 X.1 1 dX7_subtract_19 rfl ?_
    refine zz_iload_n 20 X.1 2 dX7_subtract_20 rfl ?_
    refine zz_bipush 21 X.1 (v := nI 33) dX7_subtract_21 rfl ?_
    refine rr_callVi 23 X hml (As := [.int (nI s0), .int (nI o0), .int (nI 33)]) (kt_X7_joins_33 l D C K hAp (upd F 0 (nI 0)) hs mv G s0 o0 (by first | rfl | assumption | omega) (by first | rfl | assumption | omega)) gX7_subtract_X7_joins rfl ⟨rfl, rfl⟩ yd_X7_joins ⟨Nat.le_of_ble_eq_true rfl, Nat.le_of_ble_eq_true rfl⟩ rfl rfl (Nat.le_of_ble_eq_true rfl) dX7_subtract_23 ?_
    rintro r2 ⟨F2, hs2, mv2, G2⟩ hu2
    obtain ⟨rfl, hv2⟩ := hu2
    cases hv2
    refine zz_world (P' := (RP D C K (upd F 0 (nI 0)) (sS hs s0 (fun i => pJ 33 (hM hs s0 i) (hM hs o0 i))) mv G)) (fun _ h => h) ?_
    rw [← hQ]
    refine zz_iret 26 X.1 hr rfl hlk (upd F 0 (nI 0), sS hs s0 (fun i => pJ 33 (hM hs s0 i) (hM hs o0 i)), mv, G) ?_ (fun _ h _ => h) dX7_subtract_26
    exact ⟨rfl, rfl⟩
  · exact absurd h11 (by decide)

abbrev rm_X7_copy : Room := { frames := 3, cells := 0, slots := 0, locals := 65 }
theorem yd_X7_copy : yX7_copy.cls = RX7 ∧ yX7_copy.cls ≠ "java/lang/invoke/MethodHandle" ∧ yX7_copy.cls ≠ "java/lang/invoke/VarHandle" ∧ (parseMethodDescriptor yX7_copy.desc).map (fun d => d.parameters.length) = some 2 := by decide +kernel
set_option maxHeartbeats 4000000 in
set_option maxRecDepth 100000 in
theorem kt_X7_copy_no (l : Launch) (D : va_G) (C : Nat → ClassId) (K : Nat → Nat) (hAp : RAp K) (F : Nat → Int32) (hs mv : Nat → Bool) (G : Nat → Nat → Int32) (x0 : Int32) (x1 : Int32) (a : Int) (b : Int) (h_a : x0.toInt = a) (h_b : x1.toInt = b) (hno : ¬ ((0 ≤ a ∧ a < 8) ∧ 0 ≤ b ∧ b < 8)) : RMi l yX7_copy wsX7_copy rm_X7_copy D C K [.int x0, .int x1] F hs mv G (fun (r : Int32) (u : MSt) => r = (nI 0) ∧ u = (upd F 0 (nI 1), hs, mv, G)) := by
  refine RMi_of (lv := [(0, .ref (K 0)), (1, .int x0), (2, .int x1)]) (cc := cX7_copy) (maxL := 3) (ret := (some .int)) rfl rfl (by decide +kernel) (Nat.le_of_ble_eq_true rfl) rfl ?_
  intro p e s m args below meth c X hml hr hlk
  generalize hQ : MQ below _ args s 0 0 _ = Q
  refine zz_aload_n 0 X.1 0 dX7_copy_0 rfl ?_
  refine zz_iconst 1 X.1 (v := nI 0) dX7_copy_1 rfl ?_
  refine rr_put 2 hAp X 0 (by decide) (F' := upd F 0 (nI 0)) rfl (by decide +kernel) ⟨rfl, rfl⟩ (by decide +kernel) dX7_copy_2 ?_
  refine zz_aload_n 5 X.1 0 dX7_copy_5 rfl ?_
  refine zz_iload_n 6 X.1 1 dX7_copy_6 rfl ?_
  refine zz_iload_n 7 X.1 2 dX7_copy_7 rfl ?_
  refine rr_callVi 8 X hml (As := [.int x0, .int x1]) (kt_X7_noSets l D C K hAp (upd F 0 (nI 0)) hs mv G x0 x1 a b (h_a) (h_b) (by first | rfl | assumption | omega)) gX7_copy_X7_noSets rfl ⟨rfl, rfl⟩ yd_X7_noSets ⟨Nat.le_of_ble_eq_true rfl, Nat.le_of_ble_eq_true rfl⟩ rfl rfl (Nat.le_of_ble_eq_true rfl) dX7_copy_8 ?_
  rintro r1 ⟨F1, hs1, mv1, G1⟩ hu1
  rcases (show ((0 ≤ a ∧ a < 8) ∧ 0 ≤ b ∧ b < 8) ∨ (¬ ((0 ≤ a ∧ a < 8) ∧ 0 ≤ b ∧ b < 8)) by omega) with hc1 | hc1
  · exfalso; omega
  · skip
    obtain ⟨rfl, hv1⟩ := (hu1.2 hc1)
    cases hv1
    refine zz_world (P' := (RP D C K (upd F 0 (nI 1)) hs mv G)) (fun _ h => h) ?_
    refine zz_ifB_eq 11 18 X.1 dX7_copy_11 (by decide) (fun h11 => ?_) (fun h11 => ?_)
    · exact absurd h11 (by decide)
    · skip
      refine zz_iconst 14 X.1 (v := nI 0) dX7_copy_14 rfl ?_
      refine zz_goto 15 26 X.1 dX7_copy_15 (by decide) ?_
      rw [← hQ]
      refine zz_iret 26 X.1 hr rfl hlk (upd F 0 (nI 1), hs, mv, G) ?_ (fun _ h _ => h) dX7_copy_26
      exact ⟨rfl, rfl⟩

set_option maxHeartbeats 4000000 in
set_option maxRecDepth 100000 in
theorem kt_X7_copy_ok (l : Launch) (D : va_G) (C : Nat → ClassId) (K : Nat → Nat) (hAp : RAp K) (F : Nat → Int32) (hs mv : Nat → Bool) (G : Nat → Nat → Int32) (s0 : Nat) (o0 : Nat) (hs0 : s0 < 8) (ho0 : o0 < 8) : RMi l yX7_copy wsX7_copy rm_X7_copy D C K [.int (nI s0), .int (nI o0)] F hs mv G (fun (r : Int32) (u : MSt) => r = (nI (ct (fun i => pJ 61 (hM hs s0 i) (hM hs o0 i)) 1024)) ∧ u = (upd F 0 (nI 0), sS hs s0 (fun i => pJ 61 (hM hs s0 i) (hM hs o0 i)), mv, G)) := by
  refine RMi_of (lv := [(0, .ref (K 0)), (1, .int (nI s0)), (2, .int (nI o0))]) (cc := cX7_copy) (maxL := 3) (ret := (some .int)) rfl rfl (by decide +kernel) (Nat.le_of_ble_eq_true rfl) rfl ?_
  intro p e s m args below meth c X hml hr hlk
  generalize hQ : MQ below _ args s 0 0 _ = Q
  refine zz_aload_n 0 X.1 0 dX7_copy_0 rfl ?_
  refine zz_iconst 1 X.1 (v := nI 0) dX7_copy_1 rfl ?_
  refine rr_put 2 hAp X 0 (by decide) (F' := upd F 0 (nI 0)) rfl (by decide +kernel) ⟨rfl, rfl⟩ (by decide +kernel) dX7_copy_2 ?_
  refine zz_aload_n 5 X.1 0 dX7_copy_5 rfl ?_
  refine zz_iload_n 6 X.1 1 dX7_copy_6 rfl ?_
  refine zz_iload_n 7 X.1 2 dX7_copy_7 rfl ?_
  refine rr_callVi 8 X hml (As := [.int (nI s0), .int (nI o0)]) (kt_X7_noSets l D C K hAp (upd F 0 (nI 0)) hs mv G (nI s0) (nI o0) ((s0 : Nat) : Int) ((o0 : Nat) : Int) (nI_toInt (by omega)) (nI_toInt (by omega)) (by first | rfl | assumption | omega)) gX7_copy_X7_noSets rfl ⟨rfl, rfl⟩ yd_X7_noSets ⟨Nat.le_of_ble_eq_true rfl, Nat.le_of_ble_eq_true rfl⟩ rfl rfl (Nat.le_of_ble_eq_true rfl) dX7_copy_8 ?_
  rintro r1 ⟨F1, hs1, mv1, G1⟩ hu1
  obtain ⟨rfl, hv1⟩ := (hu1.1 (by omega))
  cases hv1
  refine zz_world (P' := (RP D C K (upd F 0 (nI 0)) hs mv G)) (fun _ h => h) ?_
  refine zz_ifB_eq 11 18 X.1 dX7_copy_11 (by decide) (fun h11 => ?_) (fun h11 => ?_)
  · skip
    refine zz_aload_n 18 X.1 0 dX7_copy_18 rfl ?_
    refine zz_iload_n 19 X.1 1 dX7_copy_19 rfl ?_
    refine zz_iload_n 20 X.1 2 dX7_copy_20 rfl ?_
    refine zz_bipush 21 X.1 (v := nI 61) dX7_copy_21 rfl ?_
    refine rr_callVi 23 X hml (As := [.int (nI s0), .int (nI o0), .int (nI 61)]) (kt_X7_joins_61 l D C K hAp (upd F 0 (nI 0)) hs mv G s0 o0 (by first | rfl | assumption | omega) (by first | rfl | assumption | omega)) gX7_copy_X7_joins rfl ⟨rfl, rfl⟩ yd_X7_joins ⟨Nat.le_of_ble_eq_true rfl, Nat.le_of_ble_eq_true rfl⟩ rfl rfl (Nat.le_of_ble_eq_true rfl) dX7_copy_23 ?_
    rintro r2 ⟨F2, hs2, mv2, G2⟩ hu2
    obtain ⟨rfl, hv2⟩ := hu2
    cases hv2
    refine zz_world (P' := (RP D C K (upd F 0 (nI 0)) (sS hs s0 (fun i => pJ 61 (hM hs s0 i) (hM hs o0 i))) mv G)) (fun _ h => h) ?_
    rw [← hQ]
    refine zz_iret 26 X.1 hr rfl hlk (upd F 0 (nI 0), sS hs s0 (fun i => pJ 61 (hM hs s0 i) (hM hs o0 i)), mv, G) ?_ (fun _ h _ => h) dX7_copy_26
    exact ⟨rfl, rfl⟩
  · exact absurd h11 (by decide)

abbrev rm_X7_becomes : Room := { frames := 1, cells := 0, slots := 0, locals := 23 }
theorem yd_X7_becomes : yX7_becomes.cls = RX7 ∧ yX7_becomes.cls ≠ "java/lang/invoke/MethodHandle" ∧ yX7_becomes.cls ≠ "java/lang/invoke/VarHandle" ∧ (parseMethodDescriptor yX7_becomes.desc).map (fun d => d.parameters.length) = some 1 := by decide +kernel
set_option maxHeartbeats 4000000 in
set_option maxRecDepth 100000 in
theorem kt_X7_becomes (l : Launch) (D : va_G) (C : Nat → ClassId) (K : Nat → Nat) (hAp : RAp K) (F : Nat → Int32) (hs mv : Nat → Bool) (G : Nat → Nat → Int32) (s0 : Nat) (hs0 : s0 < 8) : RMi l yX7_becomes wsX7_becomes rm_X7_becomes D C K [.int (nI s0)] F hs mv G (fun (r : Int32) (u : MSt) => r = (nI (ct mv 1024)) ∧ u = (F, sS hs s0 mv, mv, G)) := by
  refine RMi_of (lv := [(0, .ref (K 0)), (1, .int (nI s0))]) (cc := cX7_becomes) (maxL := 3) (ret := (some .int)) rfl rfl (by decide +kernel) (Nat.le_of_ble_eq_true rfl) rfl ?_
  intro p e s m args below meth c X hml hr hlk
  generalize hQ : MQ below _ args s 0 0 _ = Q
  refine zz_iconst 0 X.1 (v := nI 0) dX7_becomes_0 rfl ?_
  refine zz_istore_n 1 X.1 (lv' := [(2, .int (nI 0)), (0, .ref (K 0)), (1, .int (nI s0))]) dX7_becomes_1 (by decide) rfl ?_
  have C2 : ∀ (d : Nat) (i : Nat) (hs1 : Nat → Bool) (hi : i ≤ 1024) (hh : hs1 = sF hs s0 (mv) i) (hd : 1024 - i < d), ZZ p l e rm_X7_becomes s m args below meth c 0 0 Q (zz_A (RAd K) s.heap.size) (RP D C K F hs1 mv G) 3 [(0, .ref (K 0)), (1, .int (nI s0)), (2, .int (nI i))] [] 2 := by
    intro d
    induction d with
    | zero => intro i hs1 hi hh hd; exact absurd hd (Nat.not_lt_zero _)
    | succ d ih2 =>
      intro i hs1 hi hh hd
      refine zz_iload_n 2 X.1 2 dX7_becomes_2 rfl ?_
      refine zz_sipush 3 X.1 (v := nI 1024) dX7_becomes_3 rfl ?_
      refine zz_icmp_ge 6 33 X.1 (nI_toInt (by omega)) (nI_toInt (by omega)) dX7_becomes_6 (by decide) (fun h6 => ?_) (fun h6 => ?_)
      · skip
        refine rr_hs (hs' := sS hs s0 mv) (hh.trans (by rw [show i = 1024 by omega]; rfl)) ?_
        refine zz_aload_n 33 X.1 0 dX7_becomes_33 rfl ?_
        refine zz_iload_n 34 X.1 1 dX7_becomes_34 rfl ?_
        refine rr_callVi 35 X hml (As := [.int (nI s0)]) (kt_X7_many l D C K hAp F (sS hs s0 mv) mv G s0 (by first | rfl | assumption | omega)) gX7_becomes_X7_many rfl ⟨rfl, rfl⟩ yd_X7_many ⟨Nat.le_of_ble_eq_true rfl, Nat.le_of_ble_eq_true rfl⟩ rfl rfl (Nat.le_of_ble_eq_true rfl) dX7_becomes_35 ?_
        rintro r1 ⟨F1, hs1, mv1, G1⟩ hu1
        obtain ⟨rfl, hv1⟩ := hu1
        cases hv1
        refine zz_world (P' := (RP D C K F (sS hs s0 mv) mv G)) (fun _ h => h) ?_
        rw [← hQ]
        refine zz_iret 38 X.1 hr rfl hlk (F, sS hs s0 mv, mv, G) ?_ (fun _ h _ => h) dX7_becomes_38
        exact ⟨by rw [ct_sS], rfl⟩
      · skip
        refine zz_aload_n 9 X.1 0 dX7_becomes_9 rfl ?_
        refine rr_get 10 X 1 (by decide) (v := .ref (K 1)) rfl (by decide +kernel) rfl dX7_becomes_10 ?_
        refine zz_sipush 13 X.1 (v := nI 1024) dX7_becomes_13 rfl ?_
        refine zz_iload_n 16 X.1 1 dX7_becomes_16 rfl ?_
        refine zz_imul 17 X.1 (v := (nI (1024 * s0))) dX7_becomes_17 (pk_mul _ _) ?_
        refine zz_iload_n 18 X.1 2 dX7_becomes_18 rfl ?_
        refine zz_iadd 19 X.1 (v := (nI ((1024 * s0) + i))) dX7_becomes_19 (nI_add _ _) ?_
        refine zz_aload_n 20 X.1 0 dX7_becomes_20 rfl ?_
        refine rr_get 21 X 18 (by decide) (v := .ref (K 18)) rfl (by decide +kernel) rfl dX7_becomes_21 ?_
        refine zz_iload_n 24 X.1 2 dX7_becomes_24 rfl ?_
        refine rr_mld 25 X (by omega) dX7_becomes_25 ?_
        refine rr_hst 26 hAp X (by omega) dX7_becomes_26 ?_
        refine zz_iinc 27 X.1 2 (v := (nI (i + 1))) (lv' := [(2, .int (nI (i + 1))), (0, .ref (K 0)), (1, .int (nI s0))]) dX7_becomes_27 rfl (nI_add i 1) (by decide) rfl ?_
        refine zz_goto 30 2 X.1 dX7_becomes_30 (by decide) ?_
        refine zz_lvs [1, 2, 0] rfl ?_
        exact ih2 (i + 1) (va_up hs1 ((1024 * s0) + i) (mv i)) (by omega) (sF_up2 hh rfl) (by omega)
  refine zz_lvs [1, 2, 0] rfl ?_
  exact C2 (1024 - 0 + 1) 0 hs (by omega) (sF_0.symm) (Nat.lt_succ_self _)
