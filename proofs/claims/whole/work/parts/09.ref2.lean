abbrev rm_X7_isIn : Room := { frames := 0, cells := 0, slots := 0, locals := 0 }
theorem yd_X7_isIn : yX7_isIn.cls = RX7 ∧ yX7_isIn.cls ≠ "java/lang/invoke/MethodHandle" ∧ yX7_isIn.cls ≠ "java/lang/invoke/VarHandle" ∧ (parseMethodDescriptor yX7_isIn.desc).map (fun d => d.parameters.length) = some 2 := by decide +kernel
set_option maxHeartbeats 4000000 in
set_option maxRecDepth 100000 in
theorem kt_X7_isIn (l : Launch) (D : va_G) (C : Nat → ClassId) (K : Nat → Nat) (hAp : RAp K) (F : Nat → Int32) (hs mv : Nat → Bool) (G : Nat → Nat → Int32) (s0 : Nat) (i0 : Nat) (hs0 : s0 < 8) (hi0 : i0 < 2 ^ 31) : RMi l yX7_isIn wsX7_isIn rm_X7_isIn D C K [.int (nI s0), .int (nI i0)] F hs mv G (fun (r : Int32) (u : MSt) => r = (bI (decide (i0 < 1024) && hs (1024 * s0 + i0))) ∧ u = (F, hs, mv, G)) := by
  refine RMi_of (lv := [(0, .ref (K 0)), (1, .int (nI s0)), (2, .int (nI i0))]) (cc := cX7_isIn) (maxL := 3) (ret := (some .boolean)) rfl rfl (by decide +kernel) (Nat.le_of_ble_eq_true rfl) rfl ?_
  intro p e s m args below meth c X hml hr hlk
  generalize hQ : MQ below _ args s 0 0 _ = Q
  refine zz_iload_n 0 X.1 2 dX7_isIn_0 rfl ?_
  refine zz_sipush 1 X.1 (v := nI 1024) dX7_isIn_1 rfl ?_
  refine zz_icmp_ge 4 26 X.1 (nI_toInt (by omega)) (nI_toInt (by omega)) dX7_isIn_4 (by decide) (fun h4 => ?_) (fun h4 => ?_)
  · skip
    refine zz_iconst 26 X.1 (v := nI 0) dX7_isIn_26 rfl ?_
    refine zz_topi (bI false) rfl ?_
    rw [← hQ]
    refine zz_iret 27 X.1 hr (bI_nar _) hlk (F, hs, mv, G) ?_ (fun _ h _ => h) dX7_isIn_27
    refine ⟨congrArg bI ?_, rfl⟩
    first | (simp [hM, *]; done) | (simp [hM, show ¬ i0 < 1024 by omega]; done) | (simp [hM, show i0 < 1024 by omega, *]; done)
  · skip
    refine zz_aload_n 7 X.1 0 dX7_isIn_7 rfl ?_
    refine rr_get 8 X 1 (by decide) (v := .ref (K 1)) rfl (by decide +kernel) rfl dX7_isIn_8 ?_
    refine zz_sipush 11 X.1 (v := nI 1024) dX7_isIn_11 rfl ?_
    refine zz_iload_n 14 X.1 1 dX7_isIn_14 rfl ?_
    refine zz_imul 15 X.1 (v := (nI (1024 * s0))) dX7_isIn_15 (pk_mul _ _) ?_
    refine zz_iload_n 16 X.1 2 dX7_isIn_16 rfl ?_
    refine zz_iadd 17 X.1 (v := (nI ((1024 * s0) + i0))) dX7_isIn_17 (nI_add _ _) ?_
    refine rr_hld 18 X (by omega) dX7_isIn_18 ?_
    refine zz_ifB_eq 19 26 X.1 dX7_isIn_19 (by decide) (fun h19 => ?_) (fun h19 => ?_)
    · skip
      refine zz_iconst 26 X.1 (v := nI 0) dX7_isIn_26 rfl ?_
      refine zz_topi (bI false) rfl ?_
      rw [← hQ]
      refine zz_iret 27 X.1 hr (bI_nar _) hlk (F, hs, mv, G) ?_ (fun _ h _ => h) dX7_isIn_27
      refine ⟨congrArg bI ?_, rfl⟩
      first | (simp [hM, *]; done) | (simp [hM, show ¬ i0 < 1024 by omega]; done) | (simp [hM, show i0 < 1024 by omega, *]; done)
    · skip
      refine zz_iconst 22 X.1 (v := nI 1) dX7_isIn_22 rfl ?_
      refine zz_goto 23 27 X.1 dX7_isIn_23 (by decide) ?_
      refine zz_topi (bI true) rfl ?_
      rw [← hQ]
      refine zz_iret 27 X.1 hr (bI_nar _) hlk (F, hs, mv, G) ?_ (fun _ h _ => h) dX7_isIn_27
      refine ⟨congrArg bI ?_, rfl⟩
      first | (simp [hM, *]; done) | (simp [hM, show ¬ i0 < 1024 by omega]; done) | (simp [hM, show i0 < 1024 by omega, *]; done)

abbrev rm_X7_empties : Room := { frames := 0, cells := 0, slots := 0, locals := 0 }
theorem yd_X7_empties : yX7_empties.cls = RX7 ∧ yX7_empties.cls ≠ "java/lang/invoke/MethodHandle" ∧ yX7_empties.cls ≠ "java/lang/invoke/VarHandle" ∧ (parseMethodDescriptor yX7_empties.desc).map (fun d => d.parameters.length) = some 1 := by decide +kernel
set_option maxHeartbeats 4000000 in
set_option maxRecDepth 100000 in
theorem kt_X7_empties (l : Launch) (D : va_G) (C : Nat → ClassId) (K : Nat → Nat) (hAp : RAp K) (F : Nat → Int32) (hs mv : Nat → Bool) (G : Nat → Nat → Int32) (s0 : Nat) (hs0 : s0 < 8) : RMv l yX7_empties wsX7_empties rm_X7_empties D C K [.int (nI s0)] F hs mv G (fun (u : MSt) => u = (F, sS hs s0 (fun _ => false), mv, G)) := by
  refine RMv_of (lv := [(0, .ref (K 0)), (1, .int (nI s0))]) (cc := cX7_empties) (maxL := 3) (ret := none) rfl rfl (by decide +kernel) (Nat.le_of_ble_eq_true rfl) rfl ?_
  intro p e s m args below meth c X hml hr hlk
  generalize hQ : MQ below _ args s 0 0 _ = Q
  refine zz_iconst 0 X.1 (v := nI 0) dX7_empties_0 rfl ?_
  refine zz_istore_n 1 X.1 (lv' := [(2, .int (nI 0)), (0, .ref (K 0)), (1, .int (nI s0))]) dX7_empties_1 (by decide) rfl ?_
  have C2 : ∀ (d : Nat) (i : Nat) (hs1 : Nat → Bool) (hi : i ≤ 1024) (hh : hs1 = sF hs s0 (fun _ => false) i) (hd : 1024 - i < d), ZZ p l e rm_X7_empties s m args below meth c 0 0 Q (zz_A (RAd K) s.heap.size) (RP D C K F hs1 mv G) 3 [(0, .ref (K 0)), (1, .int (nI s0)), (2, .int (nI i))] [] 2 := by
    intro d
    induction d with
    | zero => intro i hs1 hi hh hd; exact absurd hd (Nat.not_lt_zero _)
    | succ d ih2 =>
      intro i hs1 hi hh hd
      refine zz_iload_n 2 X.1 2 dX7_empties_2 rfl ?_
      refine zz_sipush 3 X.1 (v := nI 1024) dX7_empties_3 rfl ?_
      refine zz_icmp_ge 6 28 X.1 (nI_toInt (by omega)) (nI_toInt (by omega)) dX7_empties_6 (by decide) (fun h6 => ?_) (fun h6 => ?_)
      · skip
        have : i = 1024 := by omega
        subst this; subst hh
        rw [sF_all]
        rw [← hQ]
        refine zz_vret 28 X.1 hr hlk (F, sS hs s0 (fun _ => false), mv, G) ?_ (fun _ h _ => h) dX7_empties_28
        exact rfl
      · skip
        refine zz_aload_n 9 X.1 0 dX7_empties_9 rfl ?_
        refine rr_get 10 X 1 (by decide) (v := .ref (K 1)) rfl (by decide +kernel) rfl dX7_empties_10 ?_
        refine zz_sipush 13 X.1 (v := nI 1024) dX7_empties_13 rfl ?_
        refine zz_iload_n 16 X.1 1 dX7_empties_16 rfl ?_
        refine zz_imul 17 X.1 (v := (nI (1024 * s0))) dX7_empties_17 (pk_mul _ _) ?_
        refine zz_iload_n 18 X.1 2 dX7_empties_18 rfl ?_
        refine zz_iadd 19 X.1 (v := (nI ((1024 * s0) + i))) dX7_empties_19 (nI_add _ _) ?_
        refine zz_iconst 20 X.1 (v := nI 0) dX7_empties_20 rfl ?_
        refine zz_topi (bI false) rfl ?_
        refine rr_hst 21 hAp X (by omega) dX7_empties_21 ?_
        refine zz_iinc 22 X.1 2 (v := (nI (i + 1))) (lv' := [(2, .int (nI (i + 1))), (0, .ref (K 0)), (1, .int (nI s0))]) dX7_empties_22 rfl (nI_add i 1) (by decide) rfl ?_
        refine zz_goto 25 2 X.1 dX7_empties_25 (by decide) ?_
        refine zz_lvs [1, 2, 0] rfl ?_
        exact ih2 (i + 1) (va_up hs1 ((1024 * s0) + i) false) (by omega) (sF_up2 hh rfl) (by omega)
  refine zz_lvs [1, 2, 0] rfl ?_
  exact C2 (1024 - 0 + 1) 0 hs (by omega) (sF_0.symm) (Nat.lt_succ_self _)

abbrev rm_X7_add : Room := { frames := 3, cells := 0, slots := 0, locals := 65 }
theorem yd_X7_add : yX7_add.cls = RX7 ∧ yX7_add.cls ≠ "java/lang/invoke/MethodHandle" ∧ yX7_add.cls ≠ "java/lang/invoke/VarHandle" ∧ (parseMethodDescriptor yX7_add.desc).map (fun d => d.parameters.length) = some 2 := by decide +kernel
set_option maxHeartbeats 4000000 in
set_option maxRecDepth 100000 in
theorem kt_X7_add_no (l : Launch) (D : va_G) (C : Nat → ClassId) (K : Nat → Nat) (hAp : RAp K) (F : Nat → Int32) (hs mv : Nat → Bool) (G : Nat → Nat → Int32) (x0 : Int32) (x1 : Int32) (a : Int) (b : Int) (h_a : x0.toInt = a) (h_b : x1.toInt = b) (hno : ¬ ((0 ≤ a ∧ a < 8) ∧ 0 ≤ b ∧ b < 1024)) : RMi l yX7_add wsX7_add rm_X7_add D C K [.int x0, .int x1] F hs mv G (fun (r : Int32) (u : MSt) => (¬ (0 ≤ a ∧ a < 8) ∨ 1024 ≤ b → r = (bI false) ∧ u = (upd F 0 (nI 1), hs, mv, G)) ∧ ((0 ≤ a ∧ a < 8) ∧ b < 0 → r = (bI false) ∧ u = (upd (upd F 0 (nI 2)) 2 (F 2 + 1), hs, mv, G))) := by
  refine RMi_of (lv := [(0, .ref (K 0)), (1, .int x0), (2, .int x1)]) (cc := cX7_add) (maxL := 4) (ret := (some .boolean)) rfl rfl (by decide +kernel) (Nat.le_of_ble_eq_true rfl) rfl ?_
  intro p e s m args below meth c X hml hr hlk
  generalize hQ : MQ below _ args s 0 0 _ = Q
  refine zz_aload_n 0 X.1 0 dX7_add_0 rfl ?_
  refine zz_iconst 1 X.1 (v := nI 0) dX7_add_1 rfl ?_
  refine rr_put 2 hAp X 0 (by decide) (F' := upd F 0 (nI 0)) rfl (by decide +kernel) ⟨rfl, rfl⟩ (by decide +kernel) dX7_add_2 ?_
  refine zz_aload_n 5 X.1 0 dX7_add_5 rfl ?_
  refine zz_iload_n 6 X.1 1 dX7_add_6 rfl ?_
  refine zz_iload_n 7 X.1 2 dX7_add_7 rfl ?_
  refine rr_callVi 8 X hml (As := [.int x0, .int x1]) (kt_X7_noMember l D C K hAp (upd F 0 (nI 0)) hs mv G x0 x1 a b (h_a) (h_b) (by first | rfl | assumption | omega)) gX7_add_X7_noMember rfl ⟨rfl, rfl⟩ yd_X7_noMember ⟨Nat.le_of_ble_eq_true rfl, Nat.le_of_ble_eq_true rfl⟩ rfl rfl (Nat.le_of_ble_eq_true rfl) dX7_add_8 ?_
  rintro r1 ⟨F1, hs1, mv1, G1⟩ hu1
  rcases (show ((0 ≤ a ∧ a < 8) ∧ 0 ≤ b ∧ b < 1024) ∨ (¬ (0 ≤ a ∧ a < 8) ∨ 1024 ≤ b) ∨ ((0 ≤ a ∧ a < 8) ∧ b < 0) by omega) with hc1 | hc1 | hc1
  · exfalso; omega
  · skip
    obtain ⟨rfl, hv1⟩ := (hu1.2.1 hc1)
    cases hv1
    refine zz_world (P' := (RP D C K (upd F 0 (nI 1)) hs mv G)) (fun _ h => h) ?_
    refine zz_ifB_eq 11 16 X.1 dX7_add_11 (by decide) (fun h11 => ?_) (fun h11 => ?_)
    · exact absurd h11 (by decide)
    · skip
      refine zz_iconst 14 X.1 (v := nI 0) dX7_add_14 rfl ?_
      refine zz_topi (bI false) rfl ?_
      rw [← hQ]
      refine zz_iret 15 X.1 hr (bI_nar _) hlk (upd F 0 (nI 1), hs, mv, G) ?_ (fun _ h _ => h) dX7_add_15
      refine ⟨fun hc => ?_, fun hc => ?_⟩ <;> first | (exact ⟨rfl, rfl⟩) | (exact rfl) | (exfalso; omega)
  · skip
    obtain ⟨rfl, hv1⟩ := (hu1.2.2 hc1)
    cases hv1
    refine zz_world (P' := (RP D C K (upd (upd F 0 (nI 2)) 2 ((F 2) + 1)) hs mv G)) (fun _ h => h) ?_
    refine zz_ifB_eq 11 16 X.1 dX7_add_11 (by decide) (fun h11 => ?_) (fun h11 => ?_)
    · exact absurd h11 (by decide)
    · skip
      refine zz_iconst 14 X.1 (v := nI 0) dX7_add_14 rfl ?_
      refine zz_topi (bI false) rfl ?_
      rw [← hQ]
      refine zz_iret 15 X.1 hr (bI_nar _) hlk (upd (upd F 0 (nI 2)) 2 ((F 2) + 1), hs, mv, G) ?_ (fun _ h _ => h) dX7_add_15
      refine ⟨fun hc => ?_, fun hc => ?_⟩ <;> first | (exact ⟨rfl, rfl⟩) | (exact rfl) | (exfalso; omega)

abbrev rm_X7_put : Room := { frames := 3, cells := 0, slots := 0, locals := 65 }
theorem yd_X7_put : yX7_put.cls = RX7 ∧ yX7_put.cls ≠ "java/lang/invoke/MethodHandle" ∧ yX7_put.cls ≠ "java/lang/invoke/VarHandle" ∧ (parseMethodDescriptor yX7_put.desc).map (fun d => d.parameters.length) = some 3 := by decide +kernel
set_option maxHeartbeats 4000000 in
set_option maxRecDepth 100000 in
theorem kt_X7_put_no (l : Launch) (D : va_G) (C : Nat → ClassId) (K : Nat → Nat) (hAp : RAp K) (F : Nat → Int32) (hs mv : Nat → Bool) (G : Nat → Nat → Int32) (x0 : Int32) (x1 : Int32) (bb : Bool) (a : Int) (b : Int) (h_a : x0.toInt = a) (h_b : x1.toInt = b) (hno : ¬ ((0 ≤ a ∧ a < 8) ∧ 0 ≤ b ∧ b < 1024)) : RMi l yX7_put wsX7_put rm_X7_put D C K [.int x0, .int x1, .int (bI bb)] F hs mv G (fun (r : Int32) (u : MSt) => (¬ (0 ≤ a ∧ a < 8) ∨ 1024 ≤ b → r = (bI false) ∧ u = (upd F 0 (nI 1), hs, mv, G)) ∧ ((0 ≤ a ∧ a < 8) ∧ b < 0 → r = (bI false) ∧ u = (upd (upd F 0 (nI 2)) 2 (F 2 + 1), hs, mv, G))) := by
  refine RMi_of (lv := [(0, .ref (K 0)), (1, .int x0), (2, .int x1), (3, .int (bI bb))]) (cc := cX7_put) (maxL := 5) (ret := (some .boolean)) rfl rfl (by decide +kernel) (Nat.le_of_ble_eq_true rfl) rfl ?_
  intro p e s m args below meth c X hml hr hlk
  generalize hQ : MQ below _ args s 0 0 _ = Q
  refine zz_aload_n 0 X.1 0 dX7_put_0 rfl ?_
  refine zz_iconst 1 X.1 (v := nI 0) dX7_put_1 rfl ?_
  refine rr_put 2 hAp X 0 (by decide) (F' := upd F 0 (nI 0)) rfl (by decide +kernel) ⟨rfl, rfl⟩ (by decide +kernel) dX7_put_2 ?_
  refine zz_aload_n 5 X.1 0 dX7_put_5 rfl ?_
  refine zz_iload_n 6 X.1 1 dX7_put_6 rfl ?_
  refine zz_iload_n 7 X.1 2 dX7_put_7 rfl ?_
  refine rr_callVi 8 X hml (As := [.int x0, .int x1]) (kt_X7_noMember l D C K hAp (upd F 0 (nI 0)) hs mv G x0 x1 a b (h_a) (h_b) (by first | rfl | assumption | omega)) gX7_put_X7_noMember rfl ⟨rfl, rfl⟩ yd_X7_noMember ⟨Nat.le_of_ble_eq_true rfl, Nat.le_of_ble_eq_true rfl⟩ rfl rfl (Nat.le_of_ble_eq_true rfl) dX7_put_8 ?_
  rintro r1 ⟨F1, hs1, mv1, G1⟩ hu1
  rcases (show ((0 ≤ a ∧ a < 8) ∧ 0 ≤ b ∧ b < 1024) ∨ (¬ (0 ≤ a ∧ a < 8) ∨ 1024 ≤ b) ∨ ((0 ≤ a ∧ a < 8) ∧ b < 0) by omega) with hc1 | hc1 | hc1
  · exfalso; omega
  · skip
    obtain ⟨rfl, hv1⟩ := (hu1.2.1 hc1)
    cases hv1
    refine zz_world (P' := (RP D C K (upd F 0 (nI 1)) hs mv G)) (fun _ h => h) ?_
    refine zz_ifB_eq 11 16 X.1 dX7_put_11 (by decide) (fun h11 => ?_) (fun h11 => ?_)
    · exact absurd h11 (by decide)
    · skip
      refine zz_iconst 14 X.1 (v := nI 0) dX7_put_14 rfl ?_
      refine zz_topi (bI false) rfl ?_
      rw [← hQ]
      refine zz_iret 15 X.1 hr (bI_nar _) hlk (upd F 0 (nI 1), hs, mv, G) ?_ (fun _ h _ => h) dX7_put_15
      refine ⟨fun hc => ?_, fun hc => ?_⟩ <;> first | (exact ⟨rfl, rfl⟩) | (exact rfl) | (exfalso; omega)
  · skip
    obtain ⟨rfl, hv1⟩ := (hu1.2.2 hc1)
    cases hv1
    refine zz_world (P' := (RP D C K (upd (upd F 0 (nI 2)) 2 ((F 2) + 1)) hs mv G)) (fun _ h => h) ?_
    refine zz_ifB_eq 11 16 X.1 dX7_put_11 (by decide) (fun h11 => ?_) (fun h11 => ?_)
    · exact absurd h11 (by decide)
    · skip
      refine zz_iconst 14 X.1 (v := nI 0) dX7_put_14 rfl ?_
      refine zz_topi (bI false) rfl ?_
      rw [← hQ]
      refine zz_iret 15 X.1 hr (bI_nar _) hlk (upd (upd F 0 (nI 2)) 2 ((F 2) + 1), hs, mv, G) ?_ (fun _ h _ => h) dX7_put_15
      refine ⟨fun hc => ?_, fun hc => ?_⟩ <;> first | (exact ⟨rfl, rfl⟩) | (exact rfl) | (exfalso; omega)

abbrev rm_X7_flip : Room := { frames := 3, cells := 0, slots := 0, locals := 65 }
theorem yd_X7_flip : yX7_flip.cls = RX7 ∧ yX7_flip.cls ≠ "java/lang/invoke/MethodHandle" ∧ yX7_flip.cls ≠ "java/lang/invoke/VarHandle" ∧ (parseMethodDescriptor yX7_flip.desc).map (fun d => d.parameters.length) = some 2 := by decide +kernel
set_option maxHeartbeats 4000000 in
set_option maxRecDepth 100000 in
theorem kt_X7_flip_no (l : Launch) (D : va_G) (C : Nat → ClassId) (K : Nat → Nat) (hAp : RAp K) (F : Nat → Int32) (hs mv : Nat → Bool) (G : Nat → Nat → Int32) (x0 : Int32) (x1 : Int32) (a : Int) (b : Int) (h_a : x0.toInt = a) (h_b : x1.toInt = b) (hno : ¬ ((0 ≤ a ∧ a < 8) ∧ 0 ≤ b ∧ b < 1024)) : RMi l yX7_flip wsX7_flip rm_X7_flip D C K [.int x0, .int x1] F hs mv G (fun (r : Int32) (u : MSt) => (¬ (0 ≤ a ∧ a < 8) ∨ 1024 ≤ b → r = (bI false) ∧ u = (upd F 0 (nI 1), hs, mv, G)) ∧ ((0 ≤ a ∧ a < 8) ∧ b < 0 → r = (bI false) ∧ u = (upd (upd F 0 (nI 2)) 2 (F 2 + 1), hs, mv, G))) := by
  refine RMi_of (lv := [(0, .ref (K 0)), (1, .int x0), (2, .int x1)]) (cc := cX7_flip) (maxL := 3) (ret := (some .boolean)) rfl rfl (by decide +kernel) (Nat.le_of_ble_eq_true rfl) rfl ?_
  intro p e s m args below meth c X hml hr hlk
  generalize hQ : MQ below _ args s 0 0 _ = Q
  refine zz_aload_n 0 X.1 0 dX7_flip_0 rfl ?_
  refine zz_iconst 1 X.1 (v := nI 0) dX7_flip_1 rfl ?_
  refine rr_put 2 hAp X 0 (by decide) (F' := upd F 0 (nI 0)) rfl (by decide +kernel) ⟨rfl, rfl⟩ (by decide +kernel) dX7_flip_2 ?_
  refine zz_aload_n 5 X.1 0 dX7_flip_5 rfl ?_
  refine zz_iload_n 6 X.1 1 dX7_flip_6 rfl ?_
  refine zz_iload_n 7 X.1 2 dX7_flip_7 rfl ?_
  refine rr_callVi 8 X hml (As := [.int x0, .int x1]) (kt_X7_noMember l D C K hAp (upd F 0 (nI 0)) hs mv G x0 x1 a b (h_a) (h_b) (by first | rfl | assumption | omega)) gX7_flip_X7_noMember rfl ⟨rfl, rfl⟩ yd_X7_noMember ⟨Nat.le_of_ble_eq_true rfl, Nat.le_of_ble_eq_true rfl⟩ rfl rfl (Nat.le_of_ble_eq_true rfl) dX7_flip_8 ?_
  rintro r1 ⟨F1, hs1, mv1, G1⟩ hu1
  rcases (show ((0 ≤ a ∧ a < 8) ∧ 0 ≤ b ∧ b < 1024) ∨ (¬ (0 ≤ a ∧ a < 8) ∨ 1024 ≤ b) ∨ ((0 ≤ a ∧ a < 8) ∧ b < 0) by omega) with hc1 | hc1 | hc1
  · exfalso; omega
  · skip
    obtain ⟨rfl, hv1⟩ := (hu1.2.1 hc1)
    cases hv1
    refine zz_world (P' := (RP D C K (upd F 0 (nI 1)) hs mv G)) (fun _ h => h) ?_
    refine zz_ifB_eq 11 16 X.1 dX7_flip_11 (by decide) (fun h11 => ?_) (fun h11 => ?_)
    · exact absurd h11 (by decide)
    · skip
      refine zz_iconst 14 X.1 (v := nI 0) dX7_flip_14 rfl ?_
      refine zz_topi (bI false) rfl ?_
      rw [← hQ]
      refine zz_iret 15 X.1 hr (bI_nar _) hlk (upd F 0 (nI 1), hs, mv, G) ?_ (fun _ h _ => h) dX7_flip_15
      refine ⟨fun hc => ?_, fun hc => ?_⟩ <;> first | (exact ⟨rfl, rfl⟩) | (exact rfl) | (exfalso; omega)
  · skip
    obtain ⟨rfl, hv1⟩ := (hu1.2.2 hc1)
    cases hv1
    refine zz_world (P' := (RP D C K (upd (upd F 0 (nI 2)) 2 ((F 2) + 1)) hs mv G)) (fun _ h => h) ?_
    refine zz_ifB_eq 11 16 X.1 dX7_flip_11 (by decide) (fun h11 => ?_) (fun h11 => ?_)
    · exact absurd h11 (by decide)
    · skip
      refine zz_iconst 14 X.1 (v := nI 0) dX7_flip_14 rfl ?_
      refine zz_topi (bI false) rfl ?_
      rw [← hQ]
      refine zz_iret 15 X.1 hr (bI_nar _) hlk (upd (upd F 0 (nI 2)) 2 ((F 2) + 1), hs, mv, G) ?_ (fun _ h _ => h) dX7_flip_15
      refine ⟨fun hc => ?_, fun hc => ?_⟩ <;> first | (exact ⟨rfl, rfl⟩) | (exact rfl) | (exfalso; omega)

set_option maxHeartbeats 4000000 in
set_option maxRecDepth 100000 in
theorem kt_X7_add_ok (l : Launch) (D : va_G) (C : Nat → ClassId) (K : Nat → Nat) (hAp : RAp K) (F : Nat → Int32) (hs mv : Nat → Bool) (G : Nat → Nat → Int32) (s0 : Nat) (i0 : Nat) (hs0 : s0 < 8) (hi0 : i0 < 1024) : RMi l yX7_add wsX7_add rm_X7_add D C K [.int (nI s0), .int (nI i0)] F hs mv G (fun (r : Int32) (u : MSt) => r = (bI (!hM hs s0 i0)) ∧ u = (upd F 0 (nI 0), sS hs s0 (p1 (hM hs s0) i0 true), mv, G)) := by
  refine RMi_of (lv := [(0, .ref (K 0)), (1, .int (nI s0)), (2, .int (nI i0))]) (cc := cX7_add) (maxL := 4) (ret := (some .boolean)) rfl rfl (by decide +kernel) (Nat.le_of_ble_eq_true rfl) rfl ?_
  intro p e s m args below meth c X hml hr hlk
  generalize hQ : MQ below _ args s 0 0 _ = Q
  refine zz_aload_n 0 X.1 0 dX7_add_0 rfl ?_
  refine zz_iconst 1 X.1 (v := nI 0) dX7_add_1 rfl ?_
  refine rr_put 2 hAp X 0 (by decide) (F' := upd F 0 (nI 0)) rfl (by decide +kernel) ⟨rfl, rfl⟩ (by decide +kernel) dX7_add_2 ?_
  refine zz_aload_n 5 X.1 0 dX7_add_5 rfl ?_
  refine zz_iload_n 6 X.1 1 dX7_add_6 rfl ?_
  refine zz_iload_n 7 X.1 2 dX7_add_7 rfl ?_
  refine rr_callVi 8 X hml (As := [.int (nI s0), .int (nI i0)]) (kt_X7_noMember l D C K hAp (upd F 0 (nI 0)) hs mv G (nI s0) (nI i0) ((s0 : Nat) : Int) ((i0 : Nat) : Int) (nI_toInt (by omega)) (nI_toInt (by omega)) (by first | rfl | assumption | omega)) gX7_add_X7_noMember rfl ⟨rfl, rfl⟩ yd_X7_noMember ⟨Nat.le_of_ble_eq_true rfl, Nat.le_of_ble_eq_true rfl⟩ rfl rfl (Nat.le_of_ble_eq_true rfl) dX7_add_8 ?_
  rintro r1 ⟨F1, hs1, mv1, G1⟩ hu1
  obtain ⟨rfl, hv1⟩ := (hu1.1 (by omega))
  cases hv1
  refine zz_world (P' := (RP D C K (upd F 0 (nI 0)) hs mv G)) (fun _ h => h) ?_
  refine zz_ifB_eq 11 16 X.1 dX7_add_11 (by decide) (fun h11 => ?_) (fun h11 => ?_)
  · skip
    refine zz_aload_n 16 X.1 0 dX7_add_16 rfl ?_
    refine rr_get 17 X 1 (by decide) (v := .ref (K 1)) rfl (by decide +kernel) rfl dX7_add_17 ?_
    refine zz_sipush 20 X.1 (v := nI 1024) dX7_add_20 rfl ?_
    refine zz_iload_n 23 X.1 1 dX7_add_23 rfl ?_
    refine zz_imul 24 X.1 (v := (nI (1024 * s0))) dX7_add_24 (pk_mul _ _) ?_
    refine zz_iload_n 25 X.1 2 dX7_add_25 rfl ?_
    refine zz_iadd 26 X.1 (v := (nI ((1024 * s0) + i0))) dX7_add_26 (nI_add _ _) ?_
    refine rr_hld 27 X (by omega) dX7_add_27 ?_
    refine zz_istore_n 28 X.1 (lv' := [(3, .int (bI (hs ((1024 * s0) + i0)))), (0, .ref (K 0)), (1, .int (nI s0)), (2, .int (nI i0))]) dX7_add_28 (by decide) rfl ?_
    refine zz_aload_n 29 X.1 1 dX7_add_29 rfl ?_
    refine rr_get 30 X 1 (by decide) (v := .ref (K 1)) rfl (by decide +kernel) rfl dX7_add_30 ?_
    refine zz_sipush 33 X.1 (v := nI 1024) dX7_add_33 rfl ?_
    refine zz_iload_n 36 X.1 2 dX7_add_36 rfl ?_
    refine zz_imul 37 X.1 (v := (nI (1024 * s0))) dX7_add_37 (pk_mul _ _) ?_
    refine zz_iload_n 38 X.1 3 dX7_add_38 rfl ?_
    refine zz_iadd 39 X.1 (v := (nI ((1024 * s0) + i0))) dX7_add_39 (nI_add _ _) ?_
    refine zz_iconst 40 X.1 (v := nI 1) dX7_add_40 rfl ?_
    refine zz_topi (bI true) rfl ?_
    refine rr_hst 41 hAp X (by omega) dX7_add_41 ?_
    refine zz_iload_n 42 X.1 0 dX7_add_42 rfl ?_
    refine zz_ifB_ne 43 50 X.1 dX7_add_43 (by decide) (fun h43 => ?_) (fun h43 => ?_)
    · skip
      refine zz_iconst 50 X.1 (v := nI 0) dX7_add_50 rfl ?_
      refine rr_hs (hs' := sS hs s0 (p1 (hM hs s0) i0 true)) (p1_up (by omega)) ?_
      refine zz_topi (bI false) rfl ?_
      rw [← hQ]
      refine zz_iret 51 X.1 hr (bI_nar _) hlk (upd F 0 (nI 0), sS hs s0 (p1 (hM hs s0) i0 true), mv, G) ?_ (fun _ h _ => h) dX7_add_51
      refine ⟨congrArg bI ?_, rfl⟩
      simp [hM, *]
    · skip
      refine zz_iconst 46 X.1 (v := nI 1) dX7_add_46 rfl ?_
      refine zz_goto 47 51 X.1 dX7_add_47 (by decide) ?_
      refine rr_hs (hs' := sS hs s0 (p1 (hM hs s0) i0 true)) (p1_up (by omega)) ?_
      refine zz_topi (bI true) rfl ?_
      rw [← hQ]
      refine zz_iret 51 X.1 hr (bI_nar _) hlk (upd F 0 (nI 0), sS hs s0 (p1 (hM hs s0) i0 true), mv, G) ?_ (fun _ h _ => h) dX7_add_51
      refine ⟨congrArg bI ?_, rfl⟩
      simp [hM, *]
  · exact absurd h11 (by decide)

set_option maxHeartbeats 4000000 in
set_option maxRecDepth 100000 in
theorem kt_X7_put_ok (l : Launch) (D : va_G) (C : Nat → ClassId) (K : Nat → Nat) (hAp : RAp K) (F : Nat → Int32) (hs mv : Nat → Bool) (G : Nat → Nat → Int32) (s0 : Nat) (i0 : Nat) (bb : Bool) (hs0 : s0 < 8) (hi0 : i0 < 1024) : RMi l yX7_put wsX7_put rm_X7_put D C K [.int (nI s0), .int (nI i0), .int (bI bb)] F hs mv G (fun (r : Int32) (u : MSt) => r = (bI (hM hs s0 i0)) ∧ u = (upd F 0 (nI 0), sS hs s0 (p1 (hM hs s0) i0 bb), mv, G)) := by
  refine RMi_of (lv := [(0, .ref (K 0)), (1, .int (nI s0)), (2, .int (nI i0)), (3, .int (bI bb))]) (cc := cX7_put) (maxL := 5) (ret := (some .boolean)) rfl rfl (by decide +kernel) (Nat.le_of_ble_eq_true rfl) rfl ?_
  intro p e s m args below meth c X hml hr hlk
  generalize hQ : MQ below _ args s 0 0 _ = Q
  refine zz_aload_n 0 X.1 0 dX7_put_0 rfl ?_
  refine zz_iconst 1 X.1 (v := nI 0) dX7_put_1 rfl ?_
  refine rr_put 2 hAp X 0 (by decide) (F' := upd F 0 (nI 0)) rfl (by decide +kernel) ⟨rfl, rfl⟩ (by decide +kernel) dX7_put_2 ?_
  refine zz_aload_n 5 X.1 0 dX7_put_5 rfl ?_
  refine zz_iload_n 6 X.1 1 dX7_put_6 rfl ?_
  refine zz_iload_n 7 X.1 2 dX7_put_7 rfl ?_
  refine rr_callVi 8 X hml (As := [.int (nI s0), .int (nI i0)]) (kt_X7_noMember l D C K hAp (upd F 0 (nI 0)) hs mv G (nI s0) (nI i0) ((s0 : Nat) : Int) ((i0 : Nat) : Int) (nI_toInt (by omega)) (nI_toInt (by omega)) (by first | rfl | assumption | omega)) gX7_put_X7_noMember rfl ⟨rfl, rfl⟩ yd_X7_noMember ⟨Nat.le_of_ble_eq_true rfl, Nat.le_of_ble_eq_true rfl⟩ rfl rfl (Nat.le_of_ble_eq_true rfl) dX7_put_8 ?_
  rintro r1 ⟨F1, hs1, mv1, G1⟩ hu1
  obtain ⟨rfl, hv1⟩ := (hu1.1 (by omega))
  cases hv1
  refine zz_world (P' := (RP D C K (upd F 0 (nI 0)) hs mv G)) (fun _ h => h) ?_
  refine zz_ifB_eq 11 16 X.1 dX7_put_11 (by decide) (fun h11 => ?_) (fun h11 => ?_)
  · skip
    refine zz_aload_n 16 X.1 0 dX7_put_16 rfl ?_
    refine rr_get 17 X 1 (by decide) (v := .ref (K 1)) rfl (by decide +kernel) rfl dX7_put_17 ?_
    refine zz_sipush 20 X.1 (v := nI 1024) dX7_put_20 rfl ?_
    refine zz_iload_n 23 X.1 1 dX7_put_23 rfl ?_
    refine zz_imul 24 X.1 (v := (nI (1024 * s0))) dX7_put_24 (pk_mul _ _) ?_
    refine zz_iload_n 25 X.1 2 dX7_put_25 rfl ?_
    refine zz_iadd 26 X.1 (v := (nI ((1024 * s0) + i0))) dX7_put_26 (nI_add _ _) ?_
    refine rr_hld 27 X (by omega) dX7_put_27 ?_
    refine zz_istore 28 X.1 (lv' := [(4, .int (bI (hs ((1024 * s0) + i0)))), (0, .ref (K 0)), (1, .int (nI s0)), (2, .int (nI i0)), (3, .int (bI bb))]) dX7_put_28 (by decide) rfl ?_
    refine zz_aload_n 30 X.1 1 dX7_put_30 rfl ?_
    refine rr_get 31 X 1 (by decide) (v := .ref (K 1)) rfl (by decide +kernel) rfl dX7_put_31 ?_
    refine zz_sipush 34 X.1 (v := nI 1024) dX7_put_34 rfl ?_
    refine zz_iload_n 37 X.1 2 dX7_put_37 rfl ?_
    refine zz_imul 38 X.1 (v := (nI (1024 * s0))) dX7_put_38 (pk_mul _ _) ?_
    refine zz_iload_n 39 X.1 3 dX7_put_39 rfl ?_
    refine zz_iadd 40 X.1 (v := (nI ((1024 * s0) + i0))) dX7_put_40 (nI_add _ _) ?_
    refine zz_iload_n 41 X.1 4 dX7_put_41 rfl ?_
    refine rr_hst 42 hAp X (by omega) dX7_put_42 ?_
    refine zz_iload 43 X.1 0 dX7_put_43 rfl ?_
    refine rr_hs (hs' := sS hs s0 (p1 (hM hs s0) i0 bb)) (p1_up (by omega)) ?_
    rw [← hQ]
    refine zz_iret 45 X.1 hr (bI_nar _) hlk (upd F 0 (nI 0), sS hs s0 (p1 (hM hs s0) i0 bb), mv, G) ?_ (fun _ h _ => h) dX7_put_45
    exact ⟨rfl, rfl⟩
  · exact absurd h11 (by decide)

set_option maxHeartbeats 4000000 in
set_option maxRecDepth 100000 in
theorem kt_X7_flip_ok (l : Launch) (D : va_G) (C : Nat → ClassId) (K : Nat → Nat) (hAp : RAp K) (F : Nat → Int32) (hs mv : Nat → Bool) (G : Nat → Nat → Int32) (s0 : Nat) (i0 : Nat) (hs0 : s0 < 8) (hi0 : i0 < 1024) : RMi l yX7_flip wsX7_flip rm_X7_flip D C K [.int (nI s0), .int (nI i0)] F hs mv G (fun (r : Int32) (u : MSt) => r = (bI (!hM hs s0 i0)) ∧ u = (upd F 0 (nI 0), sS hs s0 (p1 (hM hs s0) i0 (!hM hs s0 i0)), mv, G)) := by
  refine RMi_of (lv := [(0, .ref (K 0)), (1, .int (nI s0)), (2, .int (nI i0))]) (cc := cX7_flip) (maxL := 3) (ret := (some .boolean)) rfl rfl (by decide +kernel) (Nat.le_of_ble_eq_true rfl) rfl ?_
  intro p e s m args below meth c X hml hr hlk
  generalize hQ : MQ below _ args s 0 0 _ = Q
  refine zz_aload_n 0 X.1 0 dX7_flip_0 rfl ?_
  refine zz_iconst 1 X.1 (v := nI 0) dX7_flip_1 rfl ?_
  refine rr_put 2 hAp X 0 (by decide) (F' := upd F 0 (nI 0)) rfl (by decide +kernel) ⟨rfl, rfl⟩ (by decide +kernel) dX7_flip_2 ?_
  refine zz_aload_n 5 X.1 0 dX7_flip_5 rfl ?_
  refine zz_iload_n 6 X.1 1 dX7_flip_6 rfl ?_
  refine zz_iload_n 7 X.1 2 dX7_flip_7 rfl ?_
  refine rr_callVi 8 X hml (As := [.int (nI s0), .int (nI i0)]) (kt_X7_noMember l D C K hAp (upd F 0 (nI 0)) hs mv G (nI s0) (nI i0) ((s0 : Nat) : Int) ((i0 : Nat) : Int) (nI_toInt (by omega)) (nI_toInt (by omega)) (by first | rfl | assumption | omega)) gX7_flip_X7_noMember rfl ⟨rfl, rfl⟩ yd_X7_noMember ⟨Nat.le_of_ble_eq_true rfl, Nat.le_of_ble_eq_true rfl⟩ rfl rfl (Nat.le_of_ble_eq_true rfl) dX7_flip_8 ?_
  rintro r1 ⟨F1, hs1, mv1, G1⟩ hu1
  obtain ⟨rfl, hv1⟩ := (hu1.1 (by omega))
  cases hv1
  refine zz_world (P' := (RP D C K (upd F 0 (nI 0)) hs mv G)) (fun _ h => h) ?_
  refine zz_ifB_eq 11 16 X.1 dX7_flip_11 (by decide) (fun h11 => ?_) (fun h11 => ?_)
  · skip
    refine zz_aload_n 16 X.1 0 dX7_flip_16 rfl ?_
    refine rr_get 17 X 1 (by decide) (v := .ref (K 1)) rfl (by decide +kernel) rfl dX7_flip_17 ?_
    refine zz_sipush 20 X.1 (v := nI 1024) dX7_flip_20 rfl ?_
    refine zz_iload_n 23 X.1 1 dX7_flip_23 rfl ?_
    refine zz_imul 24 X.1 (v := (nI (1024 * s0))) dX7_flip_24 (pk_mul _ _) ?_
    refine zz_iload_n 25 X.1 2 dX7_flip_25 rfl ?_
    refine zz_iadd 26 X.1 (v := (nI ((1024 * s0) + i0))) dX7_flip_26 (nI_add _ _) ?_
    refine zz_aload_n 27 X.1 0 dX7_flip_27 rfl ?_
    refine rr_get 28 X 1 (by decide) (v := .ref (K 1)) rfl (by decide +kernel) rfl dX7_flip_28 ?_
    refine zz_sipush 31 X.1 (v := nI 1024) dX7_flip_31 rfl ?_
    refine zz_iload_n 34 X.1 1 dX7_flip_34 rfl ?_
    refine zz_imul 35 X.1 (v := (nI (1024 * s0))) dX7_flip_35 (pk_mul _ _) ?_
    refine zz_iload_n 36 X.1 2 dX7_flip_36 rfl ?_
    refine zz_iadd 37 X.1 (v := (nI ((1024 * s0) + i0))) dX7_flip_37 (nI_add _ _) ?_
    refine rr_hld 38 X (by omega) dX7_flip_38 ?_
    refine zz_ifB_ne 39 46 X.1 dX7_flip_39 (by decide) (fun h39 => ?_) (fun h39 => ?_)
    · skip
      refine zz_iconst 46 X.1 (v := nI 0) dX7_flip_46 rfl ?_
      refine zz_topi (bI false) rfl ?_
      refine rr_hst 47 hAp X (by omega) dX7_flip_47 ?_
      refine zz_aload_n 48 X.1 0 dX7_flip_48 rfl ?_
      refine rr_get 49 X 1 (by decide) (v := .ref (K 1)) rfl (by decide +kernel) rfl dX7_flip_49 ?_
      refine zz_sipush 52 X.1 (v := nI 1024) dX7_flip_52 rfl ?_
      refine zz_iload_n 55 X.1 1 dX7_flip_55 rfl ?_
      refine zz_imul 56 X.1 (v := (nI (1024 * s0))) dX7_flip_56 (pk_mul _ _) ?_
      refine zz_iload_n 57 X.1 2 dX7_flip_57 rfl ?_
      refine zz_iadd 58 X.1 (v := (nI ((1024 * s0) + i0))) dX7_flip_58 (nI_add _ _) ?_
      refine rr_hld 59 X (by omega) dX7_flip_59 ?_
      refine rr_hs (hs' := sS hs s0 (p1 (hM hs s0) i0 (!hM hs s0 i0))) ((p1_up (by omega)).trans (by simp [hM, *])) ?_
      rw [← hQ]
      refine zz_iret 60 X.1 hr (bI_nar _) hlk (upd F 0 (nI 0), sS hs s0 (p1 (hM hs s0) i0 (!hM hs s0 i0)), mv, G) ?_ (fun _ h _ => h) dX7_flip_60
      refine ⟨congrArg bI ?_, rfl⟩
      simp [va_up, hM, *]
    · skip
      refine zz_iconst 42 X.1 (v := nI 1) dX7_flip_42 rfl ?_
      refine zz_goto 43 47 X.1 dX7_flip_43 (by decide) ?_
      refine zz_topi (bI true) rfl ?_
      refine rr_hst 47 hAp X (by omega) dX7_flip_47 ?_
      refine zz_aload_n 48 X.1 0 dX7_flip_48 rfl ?_
      refine rr_get 49 X 1 (by decide) (v := .ref (K 1)) rfl (by decide +kernel) rfl dX7_flip_49 ?_
      refine zz_sipush 52 X.1 (v := nI 1024) dX7_flip_52 rfl ?_
      refine zz_iload_n 55 X.1 1 dX7_flip_55 rfl ?_
      refine zz_imul 56 X.1 (v := (nI (1024 * s0))) dX7_flip_56 (pk_mul _ _) ?_
      refine zz_iload_n 57 X.1 2 dX7_flip_57 rfl ?_
      refine zz_iadd 58 X.1 (v := (nI ((1024 * s0) + i0))) dX7_flip_58 (nI_add _ _) ?_
      refine rr_hld 59 X (by omega) dX7_flip_59 ?_
      refine rr_hs (hs' := sS hs s0 (p1 (hM hs s0) i0 (!hM hs s0 i0))) ((p1_up (by omega)).trans (by simp [hM, *])) ?_
      rw [← hQ]
      refine zz_iret 60 X.1 hr (bI_nar _) hlk (upd F 0 (nI 0), sS hs s0 (p1 (hM hs s0) i0 (!hM hs s0 i0)), mv, G) ?_ (fun _ h _ => h) dX7_flip_60
      refine ⟨congrArg bI ?_, rfl⟩
      simp [va_up, hM, *]
  · exact absurd h11 (by decide)

abbrev rm_X7_remove : Room := { frames := 2, cells := 0, slots := 0, locals := 43 }
theorem yd_X7_remove : yX7_remove.cls = RX7 ∧ yX7_remove.cls ≠ "java/lang/invoke/MethodHandle" ∧ yX7_remove.cls ≠ "java/lang/invoke/VarHandle" ∧ (parseMethodDescriptor yX7_remove.desc).map (fun d => d.parameters.length) = some 2 := by decide +kernel
set_option maxHeartbeats 4000000 in
set_option maxRecDepth 100000 in
theorem kt_X7_remove_no (l : Launch) (D : va_G) (C : Nat → ClassId) (K : Nat → Nat) (hAp : RAp K) (F : Nat → Int32) (hs mv : Nat → Bool) (G : Nat → Nat → Int32) (x0 : Int32) (x1 : Int32) (a : Int) (b : Int) (h_a : x0.toInt = a) (h_b : x1.toInt = b) (hno : ¬ ((0 ≤ a ∧ a < 8) ∧ 0 ≤ b)) : RMi l yX7_remove wsX7_remove rm_X7_remove D C K [.int x0, .int x1] F hs mv G (fun (r : Int32) (u : MSt) => (¬ (0 ≤ a ∧ a < 8) → r = (bI false) ∧ u = (upd F 0 (nI 1), hs, mv, G)) ∧ ((0 ≤ a ∧ a < 8) ∧ b < 0 → r = (bI false) ∧ u = (upd (upd F 0 (nI 2)) 2 (F 2 + 1), hs, mv, G))) := by
  refine RMi_of (lv := [(0, .ref (K 0)), (1, .int x0), (2, .int x1)]) (cc := cX7_remove) (maxL := 3) (ret := (some .boolean)) rfl rfl (by decide +kernel) (Nat.le_of_ble_eq_true rfl) rfl ?_
  intro p e s m args below meth c X hml hr hlk
  generalize hQ : MQ below _ args s 0 0 _ = Q
  refine zz_aload_n 0 X.1 0 dX7_remove_0 rfl ?_
  refine zz_iconst 1 X.1 (v := nI 0) dX7_remove_1 rfl ?_
  refine rr_put 2 hAp X 0 (by decide) (F' := upd F 0 (nI 0)) rfl (by decide +kernel) ⟨rfl, rfl⟩ (by decide +kernel) dX7_remove_2 ?_
  refine zz_aload_n 5 X.1 0 dX7_remove_5 rfl ?_
  refine zz_iload_n 6 X.1 1 dX7_remove_6 rfl ?_
  refine rr_callVi 7 X hml (As := [.int x0]) (kt_X7_noSet l D C K hAp (upd F 0 (nI 0)) hs mv G x0 a (h_a) (by first | rfl | assumption | omega)) gX7_remove_X7_noSet rfl ⟨rfl, rfl⟩ yd_X7_noSet ⟨Nat.le_of_ble_eq_true rfl, Nat.le_of_ble_eq_true rfl⟩ rfl rfl (Nat.le_of_ble_eq_true rfl) dX7_remove_7 ?_
  rintro r1 ⟨F1, hs1, mv1, G1⟩ hu1
  rcases (show (0 ≤ a ∧ a < 8) ∨ (¬ (0 ≤ a ∧ a < 8)) by omega) with hc1 | hc1
  · skip
    obtain ⟨rfl, hv1⟩ := (hu1.1 hc1)
    cases hv1
    refine zz_world (P' := (RP D C K (upd F 0 (nI 0)) hs mv G)) (fun _ h => h) ?_
    refine zz_ifB_ne 10 31 X.1 dX7_remove_10 (by decide) (fun h10 => ?_) (fun h10 => ?_)
    · exact absurd h10 (by decide)
    · skip
      refine zz_aload_n 13 X.1 0 dX7_remove_13 rfl ?_
      refine zz_iload_n 14 X.1 2 dX7_remove_14 rfl ?_
      refine zz_iconst 15 X.1 (v := nI 0) dX7_remove_15 rfl ?_
      refine rr_callVi 16 X hml (As := [.int x1, .int (nI 0)]) (kt_X7_isBelow l D C K hAp (upd F 0 (nI 0)) hs mv G x1 (nI 0) b ((0 : Nat) : Int) (h_b) (nI_toInt (by omega)) (by first | rfl | assumption | omega)) gX7_remove_X7_isBelow rfl ⟨rfl, rfl⟩ yd_X7_isBelow ⟨Nat.le_of_ble_eq_true rfl, Nat.le_of_ble_eq_true rfl⟩ rfl rfl (Nat.le_of_ble_eq_true rfl) dX7_remove_16 ?_
      rintro r2 ⟨F2, hs2, mv2, G2⟩ hu2
      rcases (show (((0 : Nat) : Int) ≤ b) ∨ (b < ((0 : Nat) : Int)) by omega) with hc2 | hc2
      · exfalso; omega
      · skip
        obtain ⟨rfl, hv2⟩ := (hu2.2 hc2)
        cases hv2
        refine zz_world (P' := (RP D C K (upd (upd F 0 (nI 2)) 2 ((F 2) + 1)) hs mv G)) (fun _ h => h) ?_
        refine zz_ifB_ne 19 31 X.1 dX7_remove_19 (by decide) (fun h19 => ?_) (fun h19 => ?_)
        · skip
          refine zz_iconst 31 X.1 (v := nI 0) dX7_remove_31 rfl ?_
          refine zz_topi (bI false) rfl ?_
          rw [← hQ]
          refine zz_iret 32 X.1 hr (bI_nar _) hlk (upd (upd F 0 (nI 2)) 2 ((F 2) + 1), hs, mv, G) ?_ (fun _ h _ => h) dX7_remove_32
          refine ⟨fun hc => ?_, fun hc => ?_⟩ <;> first | (exact ⟨rfl, rfl⟩) | (exact rfl) | (exfalso; omega)
        · exact absurd h19 (by decide)
  · skip
    obtain ⟨rfl, hv1⟩ := (hu1.2 hc1)
    cases hv1
    refine zz_world (P' := (RP D C K (upd F 0 (nI 1)) hs mv G)) (fun _ h => h) ?_
    refine zz_ifB_ne 10 31 X.1 dX7_remove_10 (by decide) (fun h10 => ?_) (fun h10 => ?_)
    · skip
      refine zz_iconst 31 X.1 (v := nI 0) dX7_remove_31 rfl ?_
      refine zz_topi (bI false) rfl ?_
      rw [← hQ]
      refine zz_iret 32 X.1 hr (bI_nar _) hlk (upd F 0 (nI 1), hs, mv, G) ?_ (fun _ h _ => h) dX7_remove_32
      refine ⟨fun hc => ?_, fun hc => ?_⟩ <;> first | (exact ⟨rfl, rfl⟩) | (exact rfl) | (exfalso; omega)
    · exact absurd h10 (by decide)

set_option maxHeartbeats 4000000 in
set_option maxRecDepth 100000 in
theorem kt_X7_remove_ok (l : Launch) (D : va_G) (C : Nat → ClassId) (K : Nat → Nat) (hAp : RAp K) (F : Nat → Int32) (hs mv : Nat → Bool) (G : Nat → Nat → Int32) (s0 : Nat) (i0 : Nat) (hs0 : s0 < 8) (hi0 : i0 < 2 ^ 31) : RMi l yX7_remove wsX7_remove rm_X7_remove D C K [.int (nI s0), .int (nI i0)] F hs mv G (fun (r : Int32) (u : MSt) => r = (bI (decide (i0 < 1024) && hM hs s0 i0)) ∧ u = (upd F 0 (nI 0), sS hs s0 (p1 (hM hs s0) i0 false), mv, G)) := by
  refine RMi_of (lv := [(0, .ref (K 0)), (1, .int (nI s0)), (2, .int (nI i0))]) (cc := cX7_remove) (maxL := 3) (ret := (some .boolean)) rfl rfl (by decide +kernel) (Nat.le_of_ble_eq_true rfl) rfl ?_
  intro p e s m args below meth c X hml hr hlk
  generalize hQ : MQ below _ args s 0 0 _ = Q
  refine zz_aload_n 0 X.1 0 dX7_remove_0 rfl ?_
  refine zz_iconst 1 X.1 (v := nI 0) dX7_remove_1 rfl ?_
  refine rr_put 2 hAp X 0 (by decide) (F' := upd F 0 (nI 0)) rfl (by decide +kernel) ⟨rfl, rfl⟩ (by decide +kernel) dX7_remove_2 ?_
  refine zz_aload_n 5 X.1 0 dX7_remove_5 rfl ?_
  refine zz_iload_n 6 X.1 1 dX7_remove_6 rfl ?_
  refine rr_callVi 7 X hml (As := [.int (nI s0)]) (kt_X7_noSet l D C K hAp (upd F 0 (nI 0)) hs mv G (nI s0) ((s0 : Nat) : Int) (nI_toInt (by omega)) (by first | rfl | assumption | omega)) gX7_remove_X7_noSet rfl ⟨rfl, rfl⟩ yd_X7_noSet ⟨Nat.le_of_ble_eq_true rfl, Nat.le_of_ble_eq_true rfl⟩ rfl rfl (Nat.le_of_ble_eq_true rfl) dX7_remove_7 ?_
  rintro r1 ⟨F1, hs1, mv1, G1⟩ hu1
  obtain ⟨rfl, hv1⟩ := (hu1.1 (by omega))
  cases hv1
  refine zz_world (P' := (RP D C K (upd F 0 (nI 0)) hs mv G)) (fun _ h => h) ?_
  refine zz_ifB_ne 10 31 X.1 dX7_remove_10 (by decide) (fun h10 => ?_) (fun h10 => ?_)
  · exact absurd h10 (by decide)
  · skip
    refine zz_aload_n 13 X.1 0 dX7_remove_13 rfl ?_
    refine zz_iload_n 14 X.1 2 dX7_remove_14 rfl ?_
    refine zz_iconst 15 X.1 (v := nI 0) dX7_remove_15 rfl ?_
    refine rr_callVi 16 X hml (As := [.int (nI i0), .int (nI 0)]) (kt_X7_isBelow l D C K hAp (upd F 0 (nI 0)) hs mv G (nI i0) (nI 0) ((i0 : Nat) : Int) ((0 : Nat) : Int) (nI_toInt (by omega)) (nI_toInt (by omega)) (by first | rfl | assumption | omega)) gX7_remove_X7_isBelow rfl ⟨rfl, rfl⟩ yd_X7_isBelow ⟨Nat.le_of_ble_eq_true rfl, Nat.le_of_ble_eq_true rfl⟩ rfl rfl (Nat.le_of_ble_eq_true rfl) dX7_remove_16 ?_
    rintro r2 ⟨F2, hs2, mv2, G2⟩ hu2
    obtain ⟨rfl, hv2⟩ := (hu2.1 (by omega))
    cases hv2
    refine zz_world (P' := (RP D C K (upd F 0 (nI 0)) hs mv G)) (fun _ h => h) ?_
    refine zz_ifB_ne 19 31 X.1 dX7_remove_19 (by decide) (fun h19 => ?_) (fun h19 => ?_)
    · exact absurd h19 (by decide)
    · skip
      refine zz_aload_n 22 X.1 0 dX7_remove_22 rfl ?_
      refine zz_iload_n 23 X.1 1 dX7_remove_23 rfl ?_
      refine zz_iload_n 24 X.1 2 dX7_remove_24 rfl ?_
      refine rr_callVi 25 X hml (As := [.int (nI s0), .int (nI i0)]) (kt_X7_isIn l D C K hAp (upd F 0 (nI 0)) hs mv G s0 i0 (by first | rfl | assumption | omega) (by first | rfl | assumption | omega)) gX7_remove_X7_isIn rfl ⟨rfl, rfl⟩ yd_X7_isIn ⟨Nat.le_of_ble_eq_true rfl, Nat.le_of_ble_eq_true rfl⟩ rfl rfl (Nat.le_of_ble_eq_true rfl) dX7_remove_25 ?_
      rintro r3 ⟨F3, hs3, mv3, G3⟩ hu3
      obtain ⟨rfl, hv3⟩ := hu3
      cases hv3
      refine zz_world (P' := (RP D C K (upd F 0 (nI 0)) hs mv G)) (fun _ h => h) ?_
      refine zz_ifB_ne 28 33 X.1 dX7_remove_28 (by decide) (fun h28 => ?_) (fun h28 => ?_)
      · skip
        refine zz_aload_n 33 X.1 0 dX7_remove_33 rfl ?_
        refine rr_get 34 X 1 (by decide) (v := .ref (K 1)) rfl (by decide +kernel) rfl dX7_remove_34 ?_
        refine zz_sipush 37 X.1 (v := nI 1024) dX7_remove_37 rfl ?_
        refine zz_iload_n 40 X.1 1 dX7_remove_40 rfl ?_
        have hx : decide (i0 < 1024) = true ∧ hs (1024 * s0 + i0) = true := by simpa using h28
        have hi1 : i0 < 1024 := by simpa using hx.1
        refine zz_imul 41 X.1 (v := (nI (1024 * s0))) dX7_remove_41 (pk_mul _ _) ?_
        refine zz_iload_n 42 X.1 2 dX7_remove_42 rfl ?_
        refine zz_iadd 43 X.1 (v := (nI ((1024 * s0) + i0))) dX7_remove_43 (nI_add _ _) ?_
        refine zz_iconst 44 X.1 (v := nI 0) dX7_remove_44 rfl ?_
        refine zz_topi (bI false) rfl ?_
        refine rr_hst 45 hAp X (by omega) dX7_remove_45 ?_
        refine zz_iconst 46 X.1 (v := nI 1) dX7_remove_46 rfl ?_
        first | refine rr_hs (hs' := sS hs s0 (p1 (hM hs s0) i0 false)) (p1_up hi1) ?_ | refine rr_hs (hs' := sS hs s0 (p1 (hM hs s0) i0 false)) (p1_same (fun hz => by simpa [hz] using h28)).symm ?_
        refine zz_topi (bI true) rfl ?_
        rw [← hQ]
        refine zz_iret 47 X.1 hr (bI_nar _) hlk (upd F 0 (nI 0), sS hs s0 (p1 (hM hs s0) i0 false), mv, G) ?_ (fun _ h _ => h) dX7_remove_47
        refine ⟨congrArg bI ?_, rfl⟩
        first | (simp [hM, hx.2, hi1]; done) | (simp [hM, *]; done)
      · skip
        refine zz_iconst 31 X.1 (v := nI 0) dX7_remove_31 rfl ?_
        first | refine rr_hs (hs' := sS hs s0 (p1 (hM hs s0) i0 false)) (p1_up hi1) ?_ | refine rr_hs (hs' := sS hs s0 (p1 (hM hs s0) i0 false)) (p1_same (fun hz => by simpa [hz] using h28)).symm ?_
        refine zz_topi (bI false) rfl ?_
        rw [← hQ]
        refine zz_iret 32 X.1 hr (bI_nar _) hlk (upd F 0 (nI 0), sS hs s0 (p1 (hM hs s0) i0 false), mv, G) ?_ (fun _ h _ => h) dX7_remove_32
        refine ⟨congrArg bI ?_, rfl⟩
        first | (simp [hM, hx.2, hi1]; done) | (simp [hM, *]; done)
