abbrev rm_X7_manyAs : Room := { frames := 0, cells := 0, slots := 0, locals := 0 }
theorem yd_X7_manyAs : yX7_manyAs.cls = RX7 ∧ yX7_manyAs.cls ≠ "java/lang/invoke/MethodHandle" ∧ yX7_manyAs.cls ≠ "java/lang/invoke/VarHandle" ∧ (parseMethodDescriptor yX7_manyAs.desc).map (fun d => d.parameters.length) = some 4 := by decide +kernel
set_option maxHeartbeats 4000000 in
set_option maxRecDepth 100000 in
theorem kt_X7_manyAs (l : Launch) (D : va_G) (C : Nat → ClassId) (K : Nat → Nat) (hAp : RAp K) (F : Nat → Int32) (hs mv : Nat → Bool) (G : Nat → Nat → Int32) (s0 : Nat) (o0 : Nat) (c1 : Bool) (c2 : Bool) (hs0 : s0 < 8) (ho0 : o0 < 8) : RMi l yX7_manyAs wsX7_manyAs rm_X7_manyAs D C K [.int (nI s0), .int (nI o0), .int (bI c1), .int (bI c2)] F hs mv G (fun (r : Int32) (u : MSt) => r = (nI (ct (pA (hM hs s0) (hM hs o0) c1 c2) 1024)) ∧ u = (F, hs, mv, G)) := by
  refine RMi_of (lv := [(0, .ref (K 0)), (1, .int (nI s0)), (2, .int (nI o0)), (3, .int (bI c1)), (4, .int (bI c2))]) (cc := cX7_manyAs) (maxL := 7) (ret := (some .int)) rfl rfl (by decide +kernel) (Nat.le_of_ble_eq_true rfl) rfl ?_
  intro p e s m args below meth c X hml hr hlk
  generalize hQ : MQ below _ args s 0 0 _ = Q
  refine zz_iconst 0 X.1 (v := nI 0) dX7_manyAs_0 rfl ?_
  refine zz_istore 1 X.1 (lv' := [(5, .int (nI 0)), (0, .ref (K 0)), (1, .int (nI s0)), (2, .int (nI o0)), (3, .int (bI c1)), (4, .int (bI c2))]) dX7_manyAs_1 (by decide) rfl ?_
  refine zz_iconst 3 X.1 (v := nI 0) dX7_manyAs_3 rfl ?_
  refine zz_istore 4 X.1 (lv' := [(6, .int (nI 0)), (5, .int (nI 0)), (0, .ref (K 0)), (1, .int (nI s0)), (2, .int (nI o0)), (3, .int (bI c1)), (4, .int (bI c2))]) dX7_manyAs_4 (by decide) rfl ?_
  have C6 : ∀ (d : Nat) (i : Nat) (n2 : Nat) (hi : i ≤ 1024) (hn : n2 = ct (pA (hM hs s0) (hM hs o0) c1 c2) i) (hd : 1024 - i < d), ZZ p l e rm_X7_manyAs s m args below meth c 0 0 Q (zz_A (RAd K) s.heap.size) (RP D C K F hs mv G) 7 [(0, .ref (K 0)), (1, .int (nI s0)), (2, .int (nI o0)), (3, .int (bI c1)), (4, .int (bI c2)), (5, .int (nI n2)), (6, .int (nI i))] [] 6 := by
    intro d
    induction d with
    | zero => intro i n2 hi hn hd; exact absurd hd (Nat.not_lt_zero _)
    | succ d ih6 =>
      intro i n2 hi hn hd
      refine zz_iload 6 X.1 6 dX7_manyAs_6 rfl ?_
      refine zz_sipush 8 X.1 (v := nI 1024) dX7_manyAs_8 rfl ?_
      refine zz_icmp_ge 11 65 X.1 (nI_toInt (by omega)) (nI_toInt (by omega)) dX7_manyAs_11 (by decide) (fun h11 => ?_) (fun h11 => ?_)
      · skip
        refine zz_iload 65 X.1 5 dX7_manyAs_65 rfl ?_
        rw [← hQ]
        refine zz_iret 67 X.1 hr rfl hlk (F, hs, mv, G) ?_ (fun _ h _ => h) dX7_manyAs_67
        exact ⟨by rw [hn, show i = 1024 by omega], rfl⟩
      · skip
        refine zz_iload 14 X.1 5 dX7_manyAs_14 rfl ?_
        refine zz_aload_n 16 X.1 0 dX7_manyAs_16 rfl ?_
        refine rr_get 17 X 1 (by decide) (v := .ref (K 1)) rfl (by decide +kernel) rfl dX7_manyAs_17 ?_
        refine zz_sipush 20 X.1 (v := nI 1024) dX7_manyAs_20 rfl ?_
        refine zz_iload_n 23 X.1 1 dX7_manyAs_23 rfl ?_
        refine zz_imul 24 X.1 (v := (nI (1024 * s0))) dX7_manyAs_24 (pk_mul _ _) ?_
        refine zz_iload 25 X.1 6 dX7_manyAs_25 rfl ?_
        refine zz_iadd 27 X.1 (v := (nI ((1024 * s0) + i))) dX7_manyAs_27 (nI_add _ _) ?_
        refine rr_hld 28 X (by omega) dX7_manyAs_28 ?_
        refine zz_iload_n 29 X.1 3 dX7_manyAs_29 rfl ?_
        refine zz_icmpB_ne 30 55 X.1 dX7_manyAs_30 (by decide) (fun h30 => ?_) (fun h30 => ?_)
        · skip
          refine zz_iconst 55 X.1 (v := nI 0) dX7_manyAs_55 rfl ?_
          refine zz_iadd 56 X.1 (v := (nI (n2 + 0))) dX7_manyAs_56 (nI_add _ _) ?_
          refine zz_istore 57 X.1 (lv' := [(5, .int (nI (n2 + 0))), (0, .ref (K 0)), (1, .int (nI s0)), (2, .int (nI o0)), (3, .int (bI c1)), (4, .int (bI c2)), (6, .int (nI i))]) dX7_manyAs_57 (by decide) rfl ?_
          refine zz_iinc 59 X.1 6 (v := (nI (i + 1))) (lv' := [(6, .int (nI (i + 1))), (5, .int (nI (n2 + 0))), (0, .ref (K 0)), (1, .int (nI s0)), (2, .int (nI o0)), (3, .int (bI c1)), (4, .int (bI c2))]) dX7_manyAs_59 rfl (nI_add i 1) (by decide) rfl ?_
          refine zz_goto 62 6 X.1 dX7_manyAs_62 (by decide) ?_
          refine zz_lvs [2, 3, 4, 5, 6, 1, 0] rfl ?_
          exact ih6 (i + 1) (n2 + 0) (by omega) (by rw [hn]; first | (exact ct_t (by simp [pA, hM, *])) | (exact ct_f (by simp [pA, hM, *]))) (by omega)
        · skip
          refine zz_aload_n 33 X.1 0 dX7_manyAs_33 rfl ?_
          refine rr_get 34 X 1 (by decide) (v := .ref (K 1)) rfl (by decide +kernel) rfl dX7_manyAs_34 ?_
          refine zz_sipush 37 X.1 (v := nI 1024) dX7_manyAs_37 rfl ?_
          refine zz_iload_n 40 X.1 2 dX7_manyAs_40 rfl ?_
          refine zz_imul 41 X.1 (v := (nI (1024 * o0))) dX7_manyAs_41 (pk_mul _ _) ?_
          refine zz_iload 42 X.1 6 dX7_manyAs_42 rfl ?_
          refine zz_iadd 44 X.1 (v := (nI ((1024 * o0) + i))) dX7_manyAs_44 (nI_add _ _) ?_
          refine rr_hld 45 X (by omega) dX7_manyAs_45 ?_
          refine zz_iload 46 X.1 4 dX7_manyAs_46 rfl ?_
          refine zz_icmpB_ne 48 55 X.1 dX7_manyAs_48 (by decide) (fun h48 => ?_) (fun h48 => ?_)
          · skip
            refine zz_iconst 55 X.1 (v := nI 0) dX7_manyAs_55 rfl ?_
            refine zz_iadd 56 X.1 (v := (nI (n2 + 0))) dX7_manyAs_56 (nI_add _ _) ?_
            refine zz_istore 57 X.1 (lv' := [(5, .int (nI (n2 + 0))), (0, .ref (K 0)), (1, .int (nI s0)), (2, .int (nI o0)), (3, .int (bI c1)), (4, .int (bI c2)), (6, .int (nI i))]) dX7_manyAs_57 (by decide) rfl ?_
            refine zz_iinc 59 X.1 6 (v := (nI (i + 1))) (lv' := [(6, .int (nI (i + 1))), (5, .int (nI (n2 + 0))), (0, .ref (K 0)), (1, .int (nI s0)), (2, .int (nI o0)), (3, .int (bI c1)), (4, .int (bI c2))]) dX7_manyAs_59 rfl (nI_add i 1) (by decide) rfl ?_
            refine zz_goto 62 6 X.1 dX7_manyAs_62 (by decide) ?_
            refine zz_lvs [2, 3, 4, 5, 6, 1, 0] rfl ?_
            exact ih6 (i + 1) (n2 + 0) (by omega) (by rw [hn]; first | (exact ct_t (by simp [pA, hM, *])) | (exact ct_f (by simp [pA, hM, *]))) (by omega)
          · skip
            refine zz_iconst 51 X.1 (v := nI 1) dX7_manyAs_51 rfl ?_
            refine zz_goto 52 56 X.1 dX7_manyAs_52 (by decide) ?_
            refine zz_iadd 56 X.1 (v := (nI (n2 + 1))) dX7_manyAs_56 (nI_add _ _) ?_
            refine zz_istore 57 X.1 (lv' := [(5, .int (nI (n2 + 1))), (0, .ref (K 0)), (1, .int (nI s0)), (2, .int (nI o0)), (3, .int (bI c1)), (4, .int (bI c2)), (6, .int (nI i))]) dX7_manyAs_57 (by decide) rfl ?_
            refine zz_iinc 59 X.1 6 (v := (nI (i + 1))) (lv' := [(6, .int (nI (i + 1))), (5, .int (nI (n2 + 1))), (0, .ref (K 0)), (1, .int (nI s0)), (2, .int (nI o0)), (3, .int (bI c1)), (4, .int (bI c2))]) dX7_manyAs_59 rfl (nI_add i 1) (by decide) rfl ?_
            refine zz_goto 62 6 X.1 dX7_manyAs_62 (by decide) ?_
            refine zz_lvs [2, 3, 4, 5, 6, 1, 0] rfl ?_
            exact ih6 (i + 1) (n2 + 1) (by omega) (by rw [hn]; first | (exact ct_t (by simp [pA, hM, *])) | (exact ct_f (by simp [pA, hM, *]))) (by omega)
  refine zz_lvs [2, 3, 4, 5, 6, 1, 0] rfl ?_
  exact C6 (1024 - 0 + 1) 0 0 (by omega) (rfl) (Nat.lt_succ_self _)

abbrev rm_X7_areEqual : Room := { frames := 3, cells := 0, slots := 0, locals := 65 }
theorem yd_X7_areEqual : yX7_areEqual.cls = RX7 ∧ yX7_areEqual.cls ≠ "java/lang/invoke/MethodHandle" ∧ yX7_areEqual.cls ≠ "java/lang/invoke/VarHandle" ∧ (parseMethodDescriptor yX7_areEqual.desc).map (fun d => d.parameters.length) = some 2 := by decide +kernel
set_option maxHeartbeats 4000000 in
set_option maxRecDepth 100000 in
theorem kt_X7_areEqual_no (l : Launch) (D : va_G) (C : Nat → ClassId) (K : Nat → Nat) (hAp : RAp K) (F : Nat → Int32) (hs mv : Nat → Bool) (G : Nat → Nat → Int32) (x0 : Int32) (x1 : Int32) (a : Int) (b : Int) (h_a : x0.toInt = a) (h_b : x1.toInt = b) (hno : ¬ ((0 ≤ a ∧ a < 8) ∧ 0 ≤ b ∧ b < 8)) : RMi l yX7_areEqual wsX7_areEqual rm_X7_areEqual D C K [.int x0, .int x1] F hs mv G (fun (r : Int32) (u : MSt) => r = (bI false) ∧ u = (upd F 0 (nI 1), hs, mv, G)) := by
  refine RMi_of (lv := [(0, .ref (K 0)), (1, .int x0), (2, .int x1)]) (cc := cX7_areEqual) (maxL := 3) (ret := (some .boolean)) rfl rfl (by decide +kernel) (Nat.le_of_ble_eq_true rfl) rfl ?_
  intro p e s m args below meth c X hml hr hlk
  generalize hQ : MQ below _ args s 0 0 _ = Q
  refine zz_aload_n 0 X.1 0 dX7_areEqual_0 rfl ?_
  refine zz_iconst 1 X.1 (v := nI 0) dX7_areEqual_1 rfl ?_
  refine rr_put 2 hAp X 0 (by decide) (F' := upd F 0 (nI 0)) rfl (by decide +kernel) ⟨rfl, rfl⟩ (by decide +kernel) dX7_areEqual_2 ?_
  refine zz_aload_n 5 X.1 0 dX7_areEqual_5 rfl ?_
  refine zz_iload_n 6 X.1 1 dX7_areEqual_6 rfl ?_
  refine zz_iload_n 7 X.1 2 dX7_areEqual_7 rfl ?_
  refine rr_callVi 8 X hml (As := [.int x0, .int x1]) (kt_X7_noSets l D C K hAp (upd F 0 (nI 0)) hs mv G x0 x1 a b (h_a) (h_b) (by first | rfl | assumption | omega)) gX7_areEqual_X7_noSets rfl ⟨rfl, rfl⟩ yd_X7_noSets ⟨Nat.le_of_ble_eq_true rfl, Nat.le_of_ble_eq_true rfl⟩ rfl rfl (Nat.le_of_ble_eq_true rfl) dX7_areEqual_8 ?_
  rintro r1 ⟨F1, hs1, mv1, G1⟩ hu1
  rcases (show ((0 ≤ a ∧ a < 8) ∧ 0 ≤ b ∧ b < 8) ∨ (¬ ((0 ≤ a ∧ a < 8) ∧ 0 ≤ b ∧ b < 8)) by omega) with hc1 | hc1
  · exfalso; omega
  · skip
    obtain ⟨rfl, hv1⟩ := (hu1.2 hc1)
    cases hv1
    refine zz_world (P' := (RP D C K (upd F 0 (nI 1)) hs mv G)) (fun _ h => h) ?_
    refine zz_ifB_ne 11 38 X.1 dX7_areEqual_11 (by decide) (fun h11 => ?_) (fun h11 => ?_)
    · skip
      refine zz_iconst 38 X.1 (v := nI 0) dX7_areEqual_38 rfl ?_
      refine zz_topi (bI false) rfl ?_
      rw [← hQ]
      refine zz_iret 39 X.1 hr (bI_nar _) hlk (upd F 0 (nI 1), hs, mv, G) ?_ (fun _ h _ => h) dX7_areEqual_39
      exact ⟨rfl, rfl⟩
    · exact absurd h11 (by decide)

abbrev rm_X7_meet : Room := { frames := 3, cells := 0, slots := 0, locals := 65 }
theorem yd_X7_meet : yX7_meet.cls = RX7 ∧ yX7_meet.cls ≠ "java/lang/invoke/MethodHandle" ∧ yX7_meet.cls ≠ "java/lang/invoke/VarHandle" ∧ (parseMethodDescriptor yX7_meet.desc).map (fun d => d.parameters.length) = some 2 := by decide +kernel
set_option maxHeartbeats 4000000 in
set_option maxRecDepth 100000 in
theorem kt_X7_meet_no (l : Launch) (D : va_G) (C : Nat → ClassId) (K : Nat → Nat) (hAp : RAp K) (F : Nat → Int32) (hs mv : Nat → Bool) (G : Nat → Nat → Int32) (x0 : Int32) (x1 : Int32) (a : Int) (b : Int) (h_a : x0.toInt = a) (h_b : x1.toInt = b) (hno : ¬ ((0 ≤ a ∧ a < 8) ∧ 0 ≤ b ∧ b < 8)) : RMi l yX7_meet wsX7_meet rm_X7_meet D C K [.int x0, .int x1] F hs mv G (fun (r : Int32) (u : MSt) => r = (bI false) ∧ u = (upd F 0 (nI 1), hs, mv, G)) := by
  refine RMi_of (lv := [(0, .ref (K 0)), (1, .int x0), (2, .int x1)]) (cc := cX7_meet) (maxL := 3) (ret := (some .boolean)) rfl rfl (by decide +kernel) (Nat.le_of_ble_eq_true rfl) rfl ?_
  intro p e s m args below meth c X hml hr hlk
  generalize hQ : MQ below _ args s 0 0 _ = Q
  refine zz_aload_n 0 X.1 0 dX7_meet_0 rfl ?_
  refine zz_iconst 1 X.1 (v := nI 0) dX7_meet_1 rfl ?_
  refine rr_put 2 hAp X 0 (by decide) (F' := upd F 0 (nI 0)) rfl (by decide +kernel) ⟨rfl, rfl⟩ (by decide +kernel) dX7_meet_2 ?_
  refine zz_aload_n 5 X.1 0 dX7_meet_5 rfl ?_
  refine zz_iload_n 6 X.1 1 dX7_meet_6 rfl ?_
  refine zz_iload_n 7 X.1 2 dX7_meet_7 rfl ?_
  refine rr_callVi 8 X hml (As := [.int x0, .int x1]) (kt_X7_noSets l D C K hAp (upd F 0 (nI 0)) hs mv G x0 x1 a b (h_a) (h_b) (by first | rfl | assumption | omega)) gX7_meet_X7_noSets rfl ⟨rfl, rfl⟩ yd_X7_noSets ⟨Nat.le_of_ble_eq_true rfl, Nat.le_of_ble_eq_true rfl⟩ rfl rfl (Nat.le_of_ble_eq_true rfl) dX7_meet_8 ?_
  rintro r1 ⟨F1, hs1, mv1, G1⟩ hu1
  rcases (show ((0 ≤ a ∧ a < 8) ∧ 0 ≤ b ∧ b < 8) ∨ (¬ ((0 ≤ a ∧ a < 8) ∧ 0 ≤ b ∧ b < 8)) by omega) with hc1 | hc1
  · exfalso; omega
  · skip
    obtain ⟨rfl, hv1⟩ := (hu1.2 hc1)
    cases hv1
    refine zz_world (P' := (RP D C K (upd F 0 (nI 1)) hs mv G)) (fun _ h => h) ?_
    refine zz_ifB_ne 11 29 X.1 dX7_meet_11 (by decide) (fun h11 => ?_) (fun h11 => ?_)
    · skip
      refine zz_iconst 29 X.1 (v := nI 0) dX7_meet_29 rfl ?_
      refine zz_topi (bI false) rfl ?_
      rw [← hQ]
      refine zz_iret 30 X.1 hr (bI_nar _) hlk (upd F 0 (nI 1), hs, mv, G) ?_ (fun _ h _ => h) dX7_meet_30
      exact ⟨rfl, rfl⟩
    · exact absurd h11 (by decide)

abbrev rm_X7_isWithin : Room := { frames := 3, cells := 0, slots := 0, locals := 65 }
theorem yd_X7_isWithin : yX7_isWithin.cls = RX7 ∧ yX7_isWithin.cls ≠ "java/lang/invoke/MethodHandle" ∧ yX7_isWithin.cls ≠ "java/lang/invoke/VarHandle" ∧ (parseMethodDescriptor yX7_isWithin.desc).map (fun d => d.parameters.length) = some 2 := by decide +kernel
set_option maxHeartbeats 4000000 in
set_option maxRecDepth 100000 in
theorem kt_X7_isWithin_no (l : Launch) (D : va_G) (C : Nat → ClassId) (K : Nat → Nat) (hAp : RAp K) (F : Nat → Int32) (hs mv : Nat → Bool) (G : Nat → Nat → Int32) (x0 : Int32) (x1 : Int32) (a : Int) (b : Int) (h_a : x0.toInt = a) (h_b : x1.toInt = b) (hno : ¬ ((0 ≤ a ∧ a < 8) ∧ 0 ≤ b ∧ b < 8)) : RMi l yX7_isWithin wsX7_isWithin rm_X7_isWithin D C K [.int x0, .int x1] F hs mv G (fun (r : Int32) (u : MSt) => r = (bI false) ∧ u = (upd F 0 (nI 1), hs, mv, G)) := by
  refine RMi_of (lv := [(0, .ref (K 0)), (1, .int x0), (2, .int x1)]) (cc := cX7_isWithin) (maxL := 3) (ret := (some .boolean)) rfl rfl (by decide +kernel) (Nat.le_of_ble_eq_true rfl) rfl ?_
  intro p e s m args below meth c X hml hr hlk
  generalize hQ : MQ below _ args s 0 0 _ = Q
  refine zz_aload_n 0 X.1 0 dX7_isWithin_0 rfl ?_
  refine zz_iconst 1 X.1 (v := nI 0) dX7_isWithin_1 rfl ?_
  refine rr_put 2 hAp X 0 (by decide) (F' := upd F 0 (nI 0)) rfl (by decide +kernel) ⟨rfl, rfl⟩ (by decide +kernel) dX7_isWithin_2 ?_
  refine zz_aload_n 5 X.1 0 dX7_isWithin_5 rfl ?_
  refine zz_iload_n 6 X.1 1 dX7_isWithin_6 rfl ?_
  refine zz_iload_n 7 X.1 2 dX7_isWithin_7 rfl ?_
  refine rr_callVi 8 X hml (As := [.int x0, .int x1]) (kt_X7_noSets l D C K hAp (upd F 0 (nI 0)) hs mv G x0 x1 a b (h_a) (h_b) (by first | rfl | assumption | omega)) gX7_isWithin_X7_noSets rfl ⟨rfl, rfl⟩ yd_X7_noSets ⟨Nat.le_of_ble_eq_true rfl, Nat.le_of_ble_eq_true rfl⟩ rfl rfl (Nat.le_of_ble_eq_true rfl) dX7_isWithin_8 ?_
  rintro r1 ⟨F1, hs1, mv1, G1⟩ hu1
  rcases (show ((0 ≤ a ∧ a < 8) ∧ 0 ≤ b ∧ b < 8) ∨ (¬ ((0 ≤ a ∧ a < 8) ∧ 0 ≤ b ∧ b < 8)) by omega) with hc1 | hc1
  · exfalso; omega
  · skip
    obtain ⟨rfl, hv1⟩ := (hu1.2 hc1)
    cases hv1
    refine zz_world (P' := (RP D C K (upd F 0 (nI 1)) hs mv G)) (fun _ h => h) ?_
    refine zz_ifB_ne 11 29 X.1 dX7_isWithin_11 (by decide) (fun h11 => ?_) (fun h11 => ?_)
    · skip
      refine zz_iconst 29 X.1 (v := nI 0) dX7_isWithin_29 rfl ?_
      refine zz_topi (bI false) rfl ?_
      rw [← hQ]
      refine zz_iret 30 X.1 hr (bI_nar _) hlk (upd F 0 (nI 1), hs, mv, G) ?_ (fun _ h _ => h) dX7_isWithin_30
      exact ⟨rfl, rfl⟩
    · exact absurd h11 (by decide)

abbrev rm_X7_unionCount : Room := { frames := 3, cells := 0, slots := 0, locals := 65 }
theorem yd_X7_unionCount : yX7_unionCount.cls = RX7 ∧ yX7_unionCount.cls ≠ "java/lang/invoke/MethodHandle" ∧ yX7_unionCount.cls ≠ "java/lang/invoke/VarHandle" ∧ (parseMethodDescriptor yX7_unionCount.desc).map (fun d => d.parameters.length) = some 2 := by decide +kernel
set_option maxHeartbeats 4000000 in
set_option maxRecDepth 100000 in
theorem kt_X7_unionCount_no (l : Launch) (D : va_G) (C : Nat → ClassId) (K : Nat → Nat) (hAp : RAp K) (F : Nat → Int32) (hs mv : Nat → Bool) (G : Nat → Nat → Int32) (x0 : Int32) (x1 : Int32) (a : Int) (b : Int) (h_a : x0.toInt = a) (h_b : x1.toInt = b) (hno : ¬ ((0 ≤ a ∧ a < 8) ∧ 0 ≤ b ∧ b < 8)) : RMi l yX7_unionCount wsX7_unionCount rm_X7_unionCount D C K [.int x0, .int x1] F hs mv G (fun (r : Int32) (u : MSt) => r = (nI 0) ∧ u = (upd F 0 (nI 1), hs, mv, G)) := by
  refine RMi_of (lv := [(0, .ref (K 0)), (1, .int x0), (2, .int x1)]) (cc := cX7_unionCount) (maxL := 3) (ret := (some .int)) rfl rfl (by decide +kernel) (Nat.le_of_ble_eq_true rfl) rfl ?_
  intro p e s m args below meth c X hml hr hlk
  generalize hQ : MQ below _ args s 0 0 _ = Q
  refine zz_aload_n 0 X.1 0 dX7_unionCount_0 rfl ?_
  refine zz_iconst 1 X.1 (v := nI 0) dX7_unionCount_1 rfl ?_
  refine rr_put 2 hAp X 0 (by decide) (F' := upd F 0 (nI 0)) rfl (by decide +kernel) ⟨rfl, rfl⟩ (by decide +kernel) dX7_unionCount_2 ?_
  refine zz_aload_n 5 X.1 0 dX7_unionCount_5 rfl ?_
  refine zz_iload_n 6 X.1 1 dX7_unionCount_6 rfl ?_
  refine zz_iload_n 7 X.1 2 dX7_unionCount_7 rfl ?_
  refine rr_callVi 8 X hml (As := [.int x0, .int x1]) (kt_X7_noSets l D C K hAp (upd F 0 (nI 0)) hs mv G x0 x1 a b (h_a) (h_b) (by first | rfl | assumption | omega)) gX7_unionCount_X7_noSets rfl ⟨rfl, rfl⟩ yd_X7_noSets ⟨Nat.le_of_ble_eq_true rfl, Nat.le_of_ble_eq_true rfl⟩ rfl rfl (Nat.le_of_ble_eq_true rfl) dX7_unionCount_8 ?_
  rintro r1 ⟨F1, hs1, mv1, G1⟩ hu1
  rcases (show ((0 ≤ a ∧ a < 8) ∧ 0 ≤ b ∧ b < 8) ∨ (¬ ((0 ≤ a ∧ a < 8) ∧ 0 ≤ b ∧ b < 8)) by omega) with hc1 | hc1
  · exfalso; omega
  · skip
    obtain ⟨rfl, hv1⟩ := (hu1.2 hc1)
    cases hv1
    refine zz_world (P' := (RP D C K (upd F 0 (nI 1)) hs mv G)) (fun _ h => h) ?_
    refine zz_ifB_eq 11 18 X.1 dX7_unionCount_11 (by decide) (fun h11 => ?_) (fun h11 => ?_)
    · exact absurd h11 (by decide)
    · skip
      refine zz_iconst 14 X.1 (v := nI 0) dX7_unionCount_14 rfl ?_
      refine zz_goto 15 30 X.1 dX7_unionCount_15 (by decide) ?_
      rw [← hQ]
      refine zz_iret 30 X.1 hr rfl hlk (upd F 0 (nI 1), hs, mv, G) ?_ (fun _ h _ => h) dX7_unionCount_30
      exact ⟨rfl, rfl⟩

abbrev rm_X7_distance : Room := { frames := 3, cells := 0, slots := 0, locals := 65 }
theorem yd_X7_distance : yX7_distance.cls = RX7 ∧ yX7_distance.cls ≠ "java/lang/invoke/MethodHandle" ∧ yX7_distance.cls ≠ "java/lang/invoke/VarHandle" ∧ (parseMethodDescriptor yX7_distance.desc).map (fun d => d.parameters.length) = some 2 := by decide +kernel
set_option maxHeartbeats 4000000 in
set_option maxRecDepth 100000 in
theorem kt_X7_distance_no (l : Launch) (D : va_G) (C : Nat → ClassId) (K : Nat → Nat) (hAp : RAp K) (F : Nat → Int32) (hs mv : Nat → Bool) (G : Nat → Nat → Int32) (x0 : Int32) (x1 : Int32) (a : Int) (b : Int) (h_a : x0.toInt = a) (h_b : x1.toInt = b) (hno : ¬ ((0 ≤ a ∧ a < 8) ∧ 0 ≤ b ∧ b < 8)) : RMi l yX7_distance wsX7_distance rm_X7_distance D C K [.int x0, .int x1] F hs mv G (fun (r : Int32) (u : MSt) => r = (nI 0) ∧ u = (upd F 0 (nI 1), hs, mv, G)) := by
  refine RMi_of (lv := [(0, .ref (K 0)), (1, .int x0), (2, .int x1)]) (cc := cX7_distance) (maxL := 3) (ret := (some .int)) rfl rfl (by decide +kernel) (Nat.le_of_ble_eq_true rfl) rfl ?_
  intro p e s m args below meth c X hml hr hlk
  generalize hQ : MQ below _ args s 0 0 _ = Q
  refine zz_aload_n 0 X.1 0 dX7_distance_0 rfl ?_
  refine zz_iconst 1 X.1 (v := nI 0) dX7_distance_1 rfl ?_
  refine rr_put 2 hAp X 0 (by decide) (F' := upd F 0 (nI 0)) rfl (by decide +kernel) ⟨rfl, rfl⟩ (by decide +kernel) dX7_distance_2 ?_
  refine zz_aload_n 5 X.1 0 dX7_distance_5 rfl ?_
  refine zz_iload_n 6 X.1 1 dX7_distance_6 rfl ?_
  refine zz_iload_n 7 X.1 2 dX7_distance_7 rfl ?_
  refine rr_callVi 8 X hml (As := [.int x0, .int x1]) (kt_X7_noSets l D C K hAp (upd F 0 (nI 0)) hs mv G x0 x1 a b (h_a) (h_b) (by first | rfl | assumption | omega)) gX7_distance_X7_noSets rfl ⟨rfl, rfl⟩ yd_X7_noSets ⟨Nat.le_of_ble_eq_true rfl, Nat.le_of_ble_eq_true rfl⟩ rfl rfl (Nat.le_of_ble_eq_true rfl) dX7_distance_8 ?_
  rintro r1 ⟨F1, hs1, mv1, G1⟩ hu1
  rcases (show ((0 ≤ a ∧ a < 8) ∧ 0 ≤ b ∧ b < 8) ∨ (¬ ((0 ≤ a ∧ a < 8) ∧ 0 ≤ b ∧ b < 8)) by omega) with hc1 | hc1
  · exfalso; omega
  · skip
    obtain ⟨rfl, hv1⟩ := (hu1.2 hc1)
    cases hv1
    refine zz_world (P' := (RP D C K (upd F 0 (nI 1)) hs mv G)) (fun _ h => h) ?_
    refine zz_ifB_eq 11 18 X.1 dX7_distance_11 (by decide) (fun h11 => ?_) (fun h11 => ?_)
    · exact absurd h11 (by decide)
    · skip
      refine zz_iconst 14 X.1 (v := nI 0) dX7_distance_14 rfl ?_
      refine zz_goto 15 35 X.1 dX7_distance_15 (by decide) ?_
      rw [← hQ]
      refine zz_iret 35 X.1 hr rfl hlk (upd F 0 (nI 1), hs, mv, G) ?_ (fun _ h _ => h) dX7_distance_35
      exact ⟨rfl, rfl⟩

abbrev rm_X7_firstCommon : Room := { frames := 3, cells := 0, slots := 0, locals := 65 }
theorem yd_X7_firstCommon : yX7_firstCommon.cls = RX7 ∧ yX7_firstCommon.cls ≠ "java/lang/invoke/MethodHandle" ∧ yX7_firstCommon.cls ≠ "java/lang/invoke/VarHandle" ∧ (parseMethodDescriptor yX7_firstCommon.desc).map (fun d => d.parameters.length) = some 2 := by decide +kernel
set_option maxHeartbeats 4000000 in
set_option maxRecDepth 100000 in
theorem kt_X7_firstCommon_no (l : Launch) (D : va_G) (C : Nat → ClassId) (K : Nat → Nat) (hAp : RAp K) (F : Nat → Int32) (hs mv : Nat → Bool) (G : Nat → Nat → Int32) (x0 : Int32) (x1 : Int32) (a : Int) (b : Int) (h_a : x0.toInt = a) (h_b : x1.toInt = b) (hno : ¬ ((0 ≤ a ∧ a < 8) ∧ 0 ≤ b ∧ b < 8)) : RMi l yX7_firstCommon wsX7_firstCommon rm_X7_firstCommon D C K [.int x0, .int x1] F hs mv G (fun (r : Int32) (u : MSt) => r = (nI 0) ∧ u = (upd F 0 (nI 1), hs, mv, G)) := by
  refine RMi_of (lv := [(0, .ref (K 0)), (1, .int x0), (2, .int x1)]) (cc := cX7_firstCommon) (maxL := 4) (ret := (some .int)) rfl rfl (by decide +kernel) (Nat.le_of_ble_eq_true rfl) rfl ?_
  intro p e s m args below meth c X hml hr hlk
  generalize hQ : MQ below _ args s 0 0 _ = Q
  refine zz_aload_n 0 X.1 0 dX7_firstCommon_0 rfl ?_
  refine zz_iconst 1 X.1 (v := nI 0) dX7_firstCommon_1 rfl ?_
  refine rr_put 2 hAp X 0 (by decide) (F' := upd F 0 (nI 0)) rfl (by decide +kernel) ⟨rfl, rfl⟩ (by decide +kernel) dX7_firstCommon_2 ?_
  refine zz_aload_n 5 X.1 0 dX7_firstCommon_5 rfl ?_
  refine zz_iload_n 6 X.1 1 dX7_firstCommon_6 rfl ?_
  refine zz_iload_n 7 X.1 2 dX7_firstCommon_7 rfl ?_
  refine rr_callVi 8 X hml (As := [.int x0, .int x1]) (kt_X7_noSets l D C K hAp (upd F 0 (nI 0)) hs mv G x0 x1 a b (h_a) (h_b) (by first | rfl | assumption | omega)) gX7_firstCommon_X7_noSets rfl ⟨rfl, rfl⟩ yd_X7_noSets ⟨Nat.le_of_ble_eq_true rfl, Nat.le_of_ble_eq_true rfl⟩ rfl rfl (Nat.le_of_ble_eq_true rfl) dX7_firstCommon_8 ?_
  rintro r1 ⟨F1, hs1, mv1, G1⟩ hu1
  rcases (show ((0 ≤ a ∧ a < 8) ∧ 0 ≤ b ∧ b < 8) ∨ (¬ ((0 ≤ a ∧ a < 8) ∧ 0 ≤ b ∧ b < 8)) by omega) with hc1 | hc1
  · exfalso; omega
  · skip
    obtain ⟨rfl, hv1⟩ := (hu1.2 hc1)
    cases hv1
    refine zz_world (P' := (RP D C K (upd F 0 (nI 1)) hs mv G)) (fun _ h => h) ?_
    refine zz_ifB_eq 11 16 X.1 dX7_firstCommon_11 (by decide) (fun h11 => ?_) (fun h11 => ?_)
    · exact absurd h11 (by decide)
    · skip
      refine zz_iconst 14 X.1 (v := nI 0) dX7_firstCommon_14 rfl ?_
      rw [← hQ]
      refine zz_iret 15 X.1 hr rfl hlk (upd F 0 (nI 1), hs, mv, G) ?_ (fun _ h _ => h) dX7_firstCommon_15
      exact ⟨rfl, rfl⟩

set_option maxHeartbeats 4000000 in
set_option maxRecDepth 100000 in
theorem kt_X7_areEqual_ok (l : Launch) (D : va_G) (C : Nat → ClassId) (K : Nat → Nat) (hAp : RAp K) (F : Nat → Int32) (hs mv : Nat → Bool) (G : Nat → Nat → Int32) (s0 : Nat) (o0 : Nat) (hs0 : s0 < 8) (ho0 : o0 < 8) : RMi l yX7_areEqual wsX7_areEqual rm_X7_areEqual D C K [.int (nI s0), .int (nI o0)] F hs mv G (fun (r : Int32) (u : MSt) => r = (bI (decide (ct (pA (hM hs s0) (hM hs o0) true false) 1024 + ct (pA (hM hs s0) (hM hs o0) false true) 1024 = 0))) ∧ u = (upd F 0 (nI 0), hs, mv, G)) := by
  refine RMi_of (lv := [(0, .ref (K 0)), (1, .int (nI s0)), (2, .int (nI o0))]) (cc := cX7_areEqual) (maxL := 3) (ret := (some .boolean)) rfl rfl (by decide +kernel) (Nat.le_of_ble_eq_true rfl) rfl ?_
  intro p e s m args below meth c X hml hr hlk
  generalize hQ : MQ below _ args s 0 0 _ = Q
  refine zz_aload_n 0 X.1 0 dX7_areEqual_0 rfl ?_
  refine zz_iconst 1 X.1 (v := nI 0) dX7_areEqual_1 rfl ?_
  refine rr_put 2 hAp X 0 (by decide) (F' := upd F 0 (nI 0)) rfl (by decide +kernel) ⟨rfl, rfl⟩ (by decide +kernel) dX7_areEqual_2 ?_
  refine zz_aload_n 5 X.1 0 dX7_areEqual_5 rfl ?_
  refine zz_iload_n 6 X.1 1 dX7_areEqual_6 rfl ?_
  refine zz_iload_n 7 X.1 2 dX7_areEqual_7 rfl ?_
  refine rr_callVi 8 X hml (As := [.int (nI s0), .int (nI o0)]) (kt_X7_noSets l D C K hAp (upd F 0 (nI 0)) hs mv G (nI s0) (nI o0) ((s0 : Nat) : Int) ((o0 : Nat) : Int) (nI_toInt (by omega)) (nI_toInt (by omega)) (by first | rfl | assumption | omega)) gX7_areEqual_X7_noSets rfl ⟨rfl, rfl⟩ yd_X7_noSets ⟨Nat.le_of_ble_eq_true rfl, Nat.le_of_ble_eq_true rfl⟩ rfl rfl (Nat.le_of_ble_eq_true rfl) dX7_areEqual_8 ?_
  rintro r1 ⟨F1, hs1, mv1, G1⟩ hu1
  obtain ⟨rfl, hv1⟩ := (hu1.1 (by omega))
  cases hv1
  refine zz_world (P' := (RP D C K (upd F 0 (nI 0)) hs mv G)) (fun _ h => h) ?_
  refine zz_ifB_ne 11 38 X.1 dX7_areEqual_11 (by decide) (fun h11 => ?_) (fun h11 => ?_)
  · exact absurd h11 (by decide)
  · skip
    have hc1 := ct_le (pA (hM hs s0) (hM hs o0) true false) 1024
    have hc2 := ct_le (pA (hM hs s0) (hM hs o0) false true) 1024
    refine zz_aload_n 14 X.1 0 dX7_areEqual_14 rfl ?_
    refine zz_iload_n 15 X.1 1 dX7_areEqual_15 rfl ?_
    refine zz_iload_n 16 X.1 2 dX7_areEqual_16 rfl ?_
    refine zz_iconst 17 X.1 (v := nI 1) dX7_areEqual_17 rfl ?_
    refine zz_iconst 18 X.1 (v := nI 0) dX7_areEqual_18 rfl ?_
    refine rr_callVi 19 X hml (As := [.int (nI s0), .int (nI o0), .int (bI true), .int (bI false)]) (kt_X7_manyAs l D C K hAp (upd F 0 (nI 0)) hs mv G s0 o0 true false (by first | rfl | assumption | omega) (by first | rfl | assumption | omega)) gX7_areEqual_X7_manyAs rfl ⟨rfl, rfl⟩ yd_X7_manyAs ⟨Nat.le_of_ble_eq_true rfl, Nat.le_of_ble_eq_true rfl⟩ rfl rfl (Nat.le_of_ble_eq_true rfl) dX7_areEqual_19 ?_
    rintro r2 ⟨F2, hs2, mv2, G2⟩ hu2
    obtain ⟨rfl, hv2⟩ := hu2
    cases hv2
    refine zz_world (P' := (RP D C K (upd F 0 (nI 0)) hs mv G)) (fun _ h => h) ?_
    refine zz_aload_n 22 X.1 0 dX7_areEqual_22 rfl ?_
    refine zz_iload_n 23 X.1 1 dX7_areEqual_23 rfl ?_
    refine zz_iload_n 24 X.1 2 dX7_areEqual_24 rfl ?_
    refine zz_iconst 25 X.1 (v := nI 0) dX7_areEqual_25 rfl ?_
    refine zz_iconst 26 X.1 (v := nI 1) dX7_areEqual_26 rfl ?_
    refine rr_callVi 27 X hml (As := [.int (nI s0), .int (nI o0), .int (bI false), .int (bI true)]) (kt_X7_manyAs l D C K hAp (upd F 0 (nI 0)) hs mv G s0 o0 false true (by first | rfl | assumption | omega) (by first | rfl | assumption | omega)) gX7_areEqual_X7_manyAs rfl ⟨rfl, rfl⟩ yd_X7_manyAs ⟨Nat.le_of_ble_eq_true rfl, Nat.le_of_ble_eq_true rfl⟩ rfl rfl (Nat.le_of_ble_eq_true rfl) dX7_areEqual_27 ?_
    rintro r3 ⟨F3, hs3, mv3, G3⟩ hu3
    obtain ⟨rfl, hv3⟩ := hu3
    cases hv3
    refine zz_world (P' := (RP D C K (upd F 0 (nI 0)) hs mv G)) (fun _ h => h) ?_
    refine zz_iadd 30 X.1 (v := (nI ((ct (pA (hM hs s0) (hM hs o0) true false) 1024) + (ct (pA (hM hs s0) (hM hs o0) false true) 1024)))) dX7_areEqual_30 (nI_add _ _) ?_
    refine zz_if_ne 31 38 X.1 (nI_toInt (by omega)) dX7_areEqual_31 (by decide) (fun h31 => ?_) (fun h31 => ?_)
    · skip
      refine zz_iconst 38 X.1 (v := nI 0) dX7_areEqual_38 rfl ?_
      refine zz_topi (bI false) rfl ?_
      rw [← hQ]
      refine zz_iret 39 X.1 hr (bI_nar _) hlk (upd F 0 (nI 0), hs, mv, G) ?_ (fun _ h _ => h) dX7_areEqual_39
      refine ⟨congrArg bI ?_, rfl⟩
      first | (exact (decide_eq_true (by omega)).symm) | (exact (decide_eq_false (by omega)).symm)
    · skip
      refine zz_iconst 34 X.1 (v := nI 1) dX7_areEqual_34 rfl ?_
      refine zz_goto 35 39 X.1 dX7_areEqual_35 (by decide) ?_
      refine zz_topi (bI true) rfl ?_
      rw [← hQ]
      refine zz_iret 39 X.1 hr (bI_nar _) hlk (upd F 0 (nI 0), hs, mv, G) ?_ (fun _ h _ => h) dX7_areEqual_39
      refine ⟨congrArg bI ?_, rfl⟩
      first | (exact (decide_eq_true (by omega)).symm) | (exact (decide_eq_false (by omega)).symm)

set_option maxHeartbeats 4000000 in
set_option maxRecDepth 100000 in
theorem kt_X7_meet_ok (l : Launch) (D : va_G) (C : Nat → ClassId) (K : Nat → Nat) (hAp : RAp K) (F : Nat → Int32) (hs mv : Nat → Bool) (G : Nat → Nat → Int32) (s0 : Nat) (o0 : Nat) (hs0 : s0 < 8) (ho0 : o0 < 8) : RMi l yX7_meet wsX7_meet rm_X7_meet D C K [.int (nI s0), .int (nI o0)] F hs mv G (fun (r : Int32) (u : MSt) => r = (bI (decide (0 < ct (pA (hM hs s0) (hM hs o0) true true) 1024))) ∧ u = (upd F 0 (nI 0), hs, mv, G)) := by
  refine RMi_of (lv := [(0, .ref (K 0)), (1, .int (nI s0)), (2, .int (nI o0))]) (cc := cX7_meet) (maxL := 3) (ret := (some .boolean)) rfl rfl (by decide +kernel) (Nat.le_of_ble_eq_true rfl) rfl ?_
  intro p e s m args below meth c X hml hr hlk
  generalize hQ : MQ below _ args s 0 0 _ = Q
  refine zz_aload_n 0 X.1 0 dX7_meet_0 rfl ?_
  refine zz_iconst 1 X.1 (v := nI 0) dX7_meet_1 rfl ?_
  refine rr_put 2 hAp X 0 (by decide) (F' := upd F 0 (nI 0)) rfl (by decide +kernel) ⟨rfl, rfl⟩ (by decide +kernel) dX7_meet_2 ?_
  refine zz_aload_n 5 X.1 0 dX7_meet_5 rfl ?_
  refine zz_iload_n 6 X.1 1 dX7_meet_6 rfl ?_
  refine zz_iload_n 7 X.1 2 dX7_meet_7 rfl ?_
  refine rr_callVi 8 X hml (As := [.int (nI s0), .int (nI o0)]) (kt_X7_noSets l D C K hAp (upd F 0 (nI 0)) hs mv G (nI s0) (nI o0) ((s0 : Nat) : Int) ((o0 : Nat) : Int) (nI_toInt (by omega)) (nI_toInt (by omega)) (by first | rfl | assumption | omega)) gX7_meet_X7_noSets rfl ⟨rfl, rfl⟩ yd_X7_noSets ⟨Nat.le_of_ble_eq_true rfl, Nat.le_of_ble_eq_true rfl⟩ rfl rfl (Nat.le_of_ble_eq_true rfl) dX7_meet_8 ?_
  rintro r1 ⟨F1, hs1, mv1, G1⟩ hu1
  obtain ⟨rfl, hv1⟩ := (hu1.1 (by omega))
  cases hv1
  refine zz_world (P' := (RP D C K (upd F 0 (nI 0)) hs mv G)) (fun _ h => h) ?_
  refine zz_ifB_ne 11 29 X.1 dX7_meet_11 (by decide) (fun h11 => ?_) (fun h11 => ?_)
  · exact absurd h11 (by decide)
  · skip
    have hc1 := ct_le (pA (hM hs s0) (hM hs o0) true true) 1024
    refine zz_aload_n 14 X.1 0 dX7_meet_14 rfl ?_
    refine zz_iload_n 15 X.1 1 dX7_meet_15 rfl ?_
    refine zz_iload_n 16 X.1 2 dX7_meet_16 rfl ?_
    refine zz_iconst 17 X.1 (v := nI 1) dX7_meet_17 rfl ?_
    refine zz_iconst 18 X.1 (v := nI 1) dX7_meet_18 rfl ?_
    refine rr_callVi 19 X hml (As := [.int (nI s0), .int (nI o0), .int (bI true), .int (bI true)]) (kt_X7_manyAs l D C K hAp (upd F 0 (nI 0)) hs mv G s0 o0 true true (by first | rfl | assumption | omega) (by first | rfl | assumption | omega)) gX7_meet_X7_manyAs rfl ⟨rfl, rfl⟩ yd_X7_manyAs ⟨Nat.le_of_ble_eq_true rfl, Nat.le_of_ble_eq_true rfl⟩ rfl rfl (Nat.le_of_ble_eq_true rfl) dX7_meet_19 ?_
    rintro r2 ⟨F2, hs2, mv2, G2⟩ hu2
    obtain ⟨rfl, hv2⟩ := hu2
    cases hv2
    refine zz_world (P' := (RP D C K (upd F 0 (nI 0)) hs mv G)) (fun _ h => h) ?_
    refine zz_if_le 22 29 X.1 (nI_toInt (by omega)) dX7_meet_22 (by decide) (fun h22 => ?_) (fun h22 => ?_)
    · skip
      refine zz_iconst 29 X.1 (v := nI 0) dX7_meet_29 rfl ?_
      refine zz_topi (bI false) rfl ?_
      rw [← hQ]
      refine zz_iret 30 X.1 hr (bI_nar _) hlk (upd F 0 (nI 0), hs, mv, G) ?_ (fun _ h _ => h) dX7_meet_30
      refine ⟨congrArg bI ?_, rfl⟩
      first | (exact (decide_eq_true (by omega)).symm) | (exact (decide_eq_false (by omega)).symm)
    · skip
      refine zz_iconst 25 X.1 (v := nI 1) dX7_meet_25 rfl ?_
      refine zz_goto 26 30 X.1 dX7_meet_26 (by decide) ?_
      refine zz_topi (bI true) rfl ?_
      rw [← hQ]
      refine zz_iret 30 X.1 hr (bI_nar _) hlk (upd F 0 (nI 0), hs, mv, G) ?_ (fun _ h _ => h) dX7_meet_30
      refine ⟨congrArg bI ?_, rfl⟩
      first | (exact (decide_eq_true (by omega)).symm) | (exact (decide_eq_false (by omega)).symm)

set_option maxHeartbeats 4000000 in
set_option maxRecDepth 100000 in
theorem kt_X7_isWithin_ok (l : Launch) (D : va_G) (C : Nat → ClassId) (K : Nat → Nat) (hAp : RAp K) (F : Nat → Int32) (hs mv : Nat → Bool) (G : Nat → Nat → Int32) (s0 : Nat) (o0 : Nat) (hs0 : s0 < 8) (ho0 : o0 < 8) : RMi l yX7_isWithin wsX7_isWithin rm_X7_isWithin D C K [.int (nI s0), .int (nI o0)] F hs mv G (fun (r : Int32) (u : MSt) => r = (bI (decide (ct (pA (hM hs s0) (hM hs o0) true false) 1024 = 0))) ∧ u = (upd F 0 (nI 0), hs, mv, G)) := by
  refine RMi_of (lv := [(0, .ref (K 0)), (1, .int (nI s0)), (2, .int (nI o0))]) (cc := cX7_isWithin) (maxL := 3) (ret := (some .boolean)) rfl rfl (by decide +kernel) (Nat.le_of_ble_eq_true rfl) rfl ?_
  intro p e s m args below meth c X hml hr hlk
  generalize hQ : MQ below _ args s 0 0 _ = Q
  refine zz_aload_n 0 X.1 0 dX7_isWithin_0 rfl ?_
  refine zz_iconst 1 X.1 (v := nI 0) dX7_isWithin_1 rfl ?_
  refine rr_put 2 hAp X 0 (by decide) (F' := upd F 0 (nI 0)) rfl (by decide +kernel) ⟨rfl, rfl⟩ (by decide +kernel) dX7_isWithin_2 ?_
  refine zz_aload_n 5 X.1 0 dX7_isWithin_5 rfl ?_
  refine zz_iload_n 6 X.1 1 dX7_isWithin_6 rfl ?_
  refine zz_iload_n 7 X.1 2 dX7_isWithin_7 rfl ?_
  refine rr_callVi 8 X hml (As := [.int (nI s0), .int (nI o0)]) (kt_X7_noSets l D C K hAp (upd F 0 (nI 0)) hs mv G (nI s0) (nI o0) ((s0 : Nat) : Int) ((o0 : Nat) : Int) (nI_toInt (by omega)) (nI_toInt (by omega)) (by first | rfl | assumption | omega)) gX7_isWithin_X7_noSets rfl ⟨rfl, rfl⟩ yd_X7_noSets ⟨Nat.le_of_ble_eq_true rfl, Nat.le_of_ble_eq_true rfl⟩ rfl rfl (Nat.le_of_ble_eq_true rfl) dX7_isWithin_8 ?_
  rintro r1 ⟨F1, hs1, mv1, G1⟩ hu1
  obtain ⟨rfl, hv1⟩ := (hu1.1 (by omega))
  cases hv1
  refine zz_world (P' := (RP D C K (upd F 0 (nI 0)) hs mv G)) (fun _ h => h) ?_
  refine zz_ifB_ne 11 29 X.1 dX7_isWithin_11 (by decide) (fun h11 => ?_) (fun h11 => ?_)
  · exact absurd h11 (by decide)
  · skip
    have hc1 := ct_le (pA (hM hs s0) (hM hs o0) true false) 1024
    refine zz_aload_n 14 X.1 0 dX7_isWithin_14 rfl ?_
    refine zz_iload_n 15 X.1 1 dX7_isWithin_15 rfl ?_
    refine zz_iload_n 16 X.1 2 dX7_isWithin_16 rfl ?_
    refine zz_iconst 17 X.1 (v := nI 1) dX7_isWithin_17 rfl ?_
    refine zz_iconst 18 X.1 (v := nI 0) dX7_isWithin_18 rfl ?_
    refine rr_callVi 19 X hml (As := [.int (nI s0), .int (nI o0), .int (bI true), .int (bI false)]) (kt_X7_manyAs l D C K hAp (upd F 0 (nI 0)) hs mv G s0 o0 true false (by first | rfl | assumption | omega) (by first | rfl | assumption | omega)) gX7_isWithin_X7_manyAs rfl ⟨rfl, rfl⟩ yd_X7_manyAs ⟨Nat.le_of_ble_eq_true rfl, Nat.le_of_ble_eq_true rfl⟩ rfl rfl (Nat.le_of_ble_eq_true rfl) dX7_isWithin_19 ?_
    rintro r2 ⟨F2, hs2, mv2, G2⟩ hu2
    obtain ⟨rfl, hv2⟩ := hu2
    cases hv2
    refine zz_world (P' := (RP D C K (upd F 0 (nI 0)) hs mv G)) (fun _ h => h) ?_
    refine zz_if_ne 22 29 X.1 (nI_toInt (by omega)) dX7_isWithin_22 (by decide) (fun h22 => ?_) (fun h22 => ?_)
    · skip
      refine zz_iconst 29 X.1 (v := nI 0) dX7_isWithin_29 rfl ?_
      refine zz_topi (bI false) rfl ?_
      rw [← hQ]
      refine zz_iret 30 X.1 hr (bI_nar _) hlk (upd F 0 (nI 0), hs, mv, G) ?_ (fun _ h _ => h) dX7_isWithin_30
      refine ⟨congrArg bI ?_, rfl⟩
      first | (exact (decide_eq_true (by omega)).symm) | (exact (decide_eq_false (by omega)).symm)
    · skip
      refine zz_iconst 25 X.1 (v := nI 1) dX7_isWithin_25 rfl ?_
      refine zz_goto 26 30 X.1 dX7_isWithin_26 (by decide) ?_
      refine zz_topi (bI true) rfl ?_
      rw [← hQ]
      refine zz_iret 30 X.1 hr (bI_nar _) hlk (upd F 0 (nI 0), hs, mv, G) ?_ (fun _ h _ => h) dX7_isWithin_30
      refine ⟨congrArg bI ?_, rfl⟩
      first | (exact (decide_eq_true (by omega)).symm) | (exact (decide_eq_false (by omega)).symm)

set_option maxHeartbeats 4000000 in
set_option maxRecDepth 100000 in
theorem kt_X7_unionCount_ok (l : Launch) (D : va_G) (C : Nat → ClassId) (K : Nat → Nat) (hAp : RAp K) (F : Nat → Int32) (hs mv : Nat → Bool) (G : Nat → Nat → Int32) (s0 : Nat) (o0 : Nat) (hs0 : s0 < 8) (ho0 : o0 < 8) : RMi l yX7_unionCount wsX7_unionCount rm_X7_unionCount D C K [.int (nI s0), .int (nI o0)] F hs mv G (fun (r : Int32) (u : MSt) => r = (nI (1024 - ct (pA (hM hs s0) (hM hs o0) false false) 1024)) ∧ u = (upd F 0 (nI 0), hs, mv, G)) := by
  refine RMi_of (lv := [(0, .ref (K 0)), (1, .int (nI s0)), (2, .int (nI o0))]) (cc := cX7_unionCount) (maxL := 3) (ret := (some .int)) rfl rfl (by decide +kernel) (Nat.le_of_ble_eq_true rfl) rfl ?_
  intro p e s m args below meth c X hml hr hlk
  generalize hQ : MQ below _ args s 0 0 _ = Q
  refine zz_aload_n 0 X.1 0 dX7_unionCount_0 rfl ?_
  refine zz_iconst 1 X.1 (v := nI 0) dX7_unionCount_1 rfl ?_
  refine rr_put 2 hAp X 0 (by decide) (F' := upd F 0 (nI 0)) rfl (by decide +kernel) ⟨rfl, rfl⟩ (by decide +kernel) dX7_unionCount_2 ?_
  refine zz_aload_n 5 X.1 0 dX7_unionCount_5 rfl ?_
  refine zz_iload_n 6 X.1 1 dX7_unionCount_6 rfl ?_
  refine zz_iload_n 7 X.1 2 dX7_unionCount_7 rfl ?_
  refine rr_callVi 8 X hml (As := [.int (nI s0), .int (nI o0)]) (kt_X7_noSets l D C K hAp (upd F 0 (nI 0)) hs mv G (nI s0) (nI o0) ((s0 : Nat) : Int) ((o0 : Nat) : Int) (nI_toInt (by omega)) (nI_toInt (by omega)) (by first | rfl | assumption | omega)) gX7_unionCount_X7_noSets rfl ⟨rfl, rfl⟩ yd_X7_noSets ⟨Nat.le_of_ble_eq_true rfl, Nat.le_of_ble_eq_true rfl⟩ rfl rfl (Nat.le_of_ble_eq_true rfl) dX7_unionCount_8 ?_
  rintro r1 ⟨F1, hs1, mv1, G1⟩ hu1
  obtain ⟨rfl, hv1⟩ := (hu1.1 (by omega))
  cases hv1
  refine zz_world (P' := (RP D C K (upd F 0 (nI 0)) hs mv G)) (fun _ h => h) ?_
  refine zz_ifB_eq 11 18 X.1 dX7_unionCount_11 (by decide) (fun h11 => ?_) (fun h11 => ?_)
  · skip
    have hc1 := ct_le (pA (hM hs s0) (hM hs o0) false false) 1024
    refine zz_sipush 18 X.1 (v := nI 1024) dX7_unionCount_18 rfl ?_
    refine zz_aload_n 21 X.1 0 dX7_unionCount_21 rfl ?_
    refine zz_iload_n 22 X.1 1 dX7_unionCount_22 rfl ?_
    refine zz_iload_n 23 X.1 2 dX7_unionCount_23 rfl ?_
    refine zz_iconst 24 X.1 (v := nI 0) dX7_unionCount_24 rfl ?_
    refine zz_iconst 25 X.1 (v := nI 0) dX7_unionCount_25 rfl ?_
    refine rr_callVi 26 X hml (As := [.int (nI s0), .int (nI o0), .int (bI false), .int (bI false)]) (kt_X7_manyAs l D C K hAp (upd F 0 (nI 0)) hs mv G s0 o0 false false (by first | rfl | assumption | omega) (by first | rfl | assumption | omega)) gX7_unionCount_X7_manyAs rfl ⟨rfl, rfl⟩ yd_X7_manyAs ⟨Nat.le_of_ble_eq_true rfl, Nat.le_of_ble_eq_true rfl⟩ rfl rfl (Nat.le_of_ble_eq_true rfl) dX7_unionCount_26 ?_
    rintro r2 ⟨F2, hs2, mv2, G2⟩ hu2
    obtain ⟨rfl, hv2⟩ := hu2
    cases hv2
    refine zz_world (P' := (RP D C K (upd F 0 (nI 0)) hs mv G)) (fun _ h => h) ?_
    refine zz_isub 29 X.1 (v := (nI (1024 - (ct (pA (hM hs s0) (hM hs o0) false false) 1024)))) dX7_unionCount_29 (pk_sub (by omega)) ?_
    rw [← hQ]
    refine zz_iret 30 X.1 hr rfl hlk (upd F 0 (nI 0), hs, mv, G) ?_ (fun _ h _ => h) dX7_unionCount_30
    exact ⟨rfl, rfl⟩
  · exact absurd h11 (by decide)

set_option maxHeartbeats 4000000 in
set_option maxRecDepth 100000 in
theorem kt_X7_distance_ok (l : Launch) (D : va_G) (C : Nat → ClassId) (K : Nat → Nat) (hAp : RAp K) (F : Nat → Int32) (hs mv : Nat → Bool) (G : Nat → Nat → Int32) (s0 : Nat) (o0 : Nat) (hs0 : s0 < 8) (ho0 : o0 < 8) : RMi l yX7_distance wsX7_distance rm_X7_distance D C K [.int (nI s0), .int (nI o0)] F hs mv G (fun (r : Int32) (u : MSt) => r = (nI (ct (pA (hM hs s0) (hM hs o0) true false) 1024 + ct (pA (hM hs s0) (hM hs o0) false true) 1024)) ∧ u = (upd F 0 (nI 0), hs, mv, G)) := by
  refine RMi_of (lv := [(0, .ref (K 0)), (1, .int (nI s0)), (2, .int (nI o0))]) (cc := cX7_distance) (maxL := 3) (ret := (some .int)) rfl rfl (by decide +kernel) (Nat.le_of_ble_eq_true rfl) rfl ?_
  intro p e s m args below meth c X hml hr hlk
  generalize hQ : MQ below _ args s 0 0 _ = Q
  refine zz_aload_n 0 X.1 0 dX7_distance_0 rfl ?_
  refine zz_iconst 1 X.1 (v := nI 0) dX7_distance_1 rfl ?_
  refine rr_put 2 hAp X 0 (by decide) (F' := upd F 0 (nI 0)) rfl (by decide +kernel) ⟨rfl, rfl⟩ (by decide +kernel) dX7_distance_2 ?_
  refine zz_aload_n 5 X.1 0 dX7_distance_5 rfl ?_
  refine zz_iload_n 6 X.1 1 dX7_distance_6 rfl ?_
  refine zz_iload_n 7 X.1 2 dX7_distance_7 rfl ?_
  refine rr_callVi 8 X hml (As := [.int (nI s0), .int (nI o0)]) (kt_X7_noSets l D C K hAp (upd F 0 (nI 0)) hs mv G (nI s0) (nI o0) ((s0 : Nat) : Int) ((o0 : Nat) : Int) (nI_toInt (by omega)) (nI_toInt (by omega)) (by first | rfl | assumption | omega)) gX7_distance_X7_noSets rfl ⟨rfl, rfl⟩ yd_X7_noSets ⟨Nat.le_of_ble_eq_true rfl, Nat.le_of_ble_eq_true rfl⟩ rfl rfl (Nat.le_of_ble_eq_true rfl) dX7_distance_8 ?_
  rintro r1 ⟨F1, hs1, mv1, G1⟩ hu1
  obtain ⟨rfl, hv1⟩ := (hu1.1 (by omega))
  cases hv1
  refine zz_world (P' := (RP D C K (upd F 0 (nI 0)) hs mv G)) (fun _ h => h) ?_
  refine zz_ifB_eq 11 18 X.1 dX7_distance_11 (by decide) (fun h11 => ?_) (fun h11 => ?_)
  · skip
    refine zz_aload_n 18 X.1 0 dX7_distance_18 rfl ?_
    refine zz_iload_n 19 X.1 1 dX7_distance_19 rfl ?_
    refine zz_iload_n 20 X.1 2 dX7_distance_20 rfl ?_
    refine zz_iconst 21 X.1 (v := nI 1) dX7_distance_21 rfl ?_
    refine zz_iconst 22 X.1 (v := nI 0) dX7_distance_22 rfl ?_
    refine rr_callVi 23 X hml (As := [.int (nI s0), .int (nI o0), .int (bI true), .int (bI false)]) (kt_X7_manyAs l D C K hAp (upd F 0 (nI 0)) hs mv G s0 o0 true false (by first | rfl | assumption | omega) (by first | rfl | assumption | omega)) gX7_distance_X7_manyAs rfl ⟨rfl, rfl⟩ yd_X7_manyAs ⟨Nat.le_of_ble_eq_true rfl, Nat.le_of_ble_eq_true rfl⟩ rfl rfl (Nat.le_of_ble_eq_true rfl) dX7_distance_23 ?_
    rintro r2 ⟨F2, hs2, mv2, G2⟩ hu2
    obtain ⟨rfl, hv2⟩ := hu2
    cases hv2
    refine zz_world (P' := (RP D C K (upd F 0 (nI 0)) hs mv G)) (fun _ h => h) ?_
    refine zz_aload_n 26 X.1 0 dX7_distance_26 rfl ?_
    refine zz_iload_n 27 X.1 1 dX7_distance_27 rfl ?_
    refine zz_iload_n 28 X.1 2 dX7_distance_28 rfl ?_
    refine zz_iconst 29 X.1 (v := nI 0) dX7_distance_29 rfl ?_
    refine zz_iconst 30 X.1 (v := nI 1) dX7_distance_30 rfl ?_
    refine rr_callVi 31 X hml (As := [.int (nI s0), .int (nI o0), .int (bI false), .int (bI true)]) (kt_X7_manyAs l D C K hAp (upd F 0 (nI 0)) hs mv G s0 o0 false true (by first | rfl | assumption | omega) (by first | rfl | assumption | omega)) gX7_distance_X7_manyAs rfl ⟨rfl, rfl⟩ yd_X7_manyAs ⟨Nat.le_of_ble_eq_true rfl, Nat.le_of_ble_eq_true rfl⟩ rfl rfl (Nat.le_of_ble_eq_true rfl) dX7_distance_31 ?_
    rintro r3 ⟨F3, hs3, mv3, G3⟩ hu3
    obtain ⟨rfl, hv3⟩ := hu3
    cases hv3
    refine zz_world (P' := (RP D C K (upd F 0 (nI 0)) hs mv G)) (fun _ h => h) ?_
    refine zz_iadd 34 X.1 (v := (nI ((ct (pA (hM hs s0) (hM hs o0) true false) 1024) + (ct (pA (hM hs s0) (hM hs o0) false true) 1024)))) dX7_distance_34 (nI_add _ _) ?_
    rw [← hQ]
    refine zz_iret 35 X.1 hr rfl hlk (upd F 0 (nI 0), hs, mv, G) ?_ (fun _ h _ => h) dX7_distance_35
    exact ⟨rfl, rfl⟩
  · exact absurd h11 (by decide)

set_option maxHeartbeats 4000000 in
set_option maxRecDepth 100000 in
theorem kt_X7_firstCommon_ok (l : Launch) (D : va_G) (C : Nat → ClassId) (K : Nat → Nat) (hAp : RAp K) (F : Nat → Int32) (hs mv : Nat → Bool) (G : Nat → Nat → Int32) (s0 : Nat) (o0 : Nat) (hs0 : s0 < 8) (ho0 : o0 < 8) : RMi l yX7_firstCommon wsX7_firstCommon rm_X7_firstCommon D C K [.int (nI s0), .int (nI o0)] F hs mv G (fun (r : Int32) (u : MSt) => r = (nx (fun i => hM hs s0 i && hM hs o0 i) 0) ∧ u = (upd F 0 (nI 0), hs, mv, G)) := by
  refine RMi_of (lv := [(0, .ref (K 0)), (1, .int (nI s0)), (2, .int (nI o0))]) (cc := cX7_firstCommon) (maxL := 4) (ret := (some .int)) rfl rfl (by decide +kernel) (Nat.le_of_ble_eq_true rfl) rfl ?_
  intro p e s m args below meth c X hml hr hlk
  generalize hQ : MQ below _ args s 0 0 _ = Q
  refine zz_aload_n 0 X.1 0 dX7_firstCommon_0 rfl ?_
  refine zz_iconst 1 X.1 (v := nI 0) dX7_firstCommon_1 rfl ?_
  refine rr_put 2 hAp X 0 (by decide) (F' := upd F 0 (nI 0)) rfl (by decide +kernel) ⟨rfl, rfl⟩ (by decide +kernel) dX7_firstCommon_2 ?_
  refine zz_aload_n 5 X.1 0 dX7_firstCommon_5 rfl ?_
  refine zz_iload_n 6 X.1 1 dX7_firstCommon_6 rfl ?_
  refine zz_iload_n 7 X.1 2 dX7_firstCommon_7 rfl ?_
  refine rr_callVi 8 X hml (As := [.int (nI s0), .int (nI o0)]) (kt_X7_noSets l D C K hAp (upd F 0 (nI 0)) hs mv G (nI s0) (nI o0) ((s0 : Nat) : Int) ((o0 : Nat) : Int) (nI_toInt (by omega)) (nI_toInt (by omega)) (by first | rfl | assumption | omega)) gX7_firstCommon_X7_noSets rfl ⟨rfl, rfl⟩ yd_X7_noSets ⟨Nat.le_of_ble_eq_true rfl, Nat.le_of_ble_eq_true rfl⟩ rfl rfl (Nat.le_of_ble_eq_true rfl) dX7_firstCommon_8 ?_
  rintro r1 ⟨F1, hs1, mv1, G1⟩ hu1
  obtain ⟨rfl, hv1⟩ := (hu1.1 (by omega))
  cases hv1
  refine zz_world (P' := (RP D C K (upd F 0 (nI 0)) hs mv G)) (fun _ h => h) ?_
  refine zz_ifB_eq 11 16 X.1 dX7_firstCommon_11 (by decide) (fun h11 => ?_) (fun h11 => ?_)
  · skip
    refine zz_iconst 16 X.1 (v := nI 0) dX7_firstCommon_16 rfl ?_
    refine zz_istore_n 17 X.1 (lv' := [(3, .int (nI 0)), (0, .ref (K 0)), (1, .int (nI s0)), (2, .int (nI o0))]) dX7_firstCommon_17 (by decide) rfl ?_
    have C18 : ∀ (d : Nat) (i : Nat) (hi : i ≤ 1024) (hz : ∀ k, k < i → (hM hs s0 k && hM hs o0 k) = false) (hd : 1024 - i < d), ZZ p l e rm_X7_firstCommon s m args below meth c 0 0 Q (zz_A (RAd K) s.heap.size) (RP D C K (upd F 0 (nI 0)) hs mv G) 4 [(0, .ref (K 0)), (1, .int (nI s0)), (2, .int (nI o0)), (3, .int (nI i))] [] 18 := by
      intro d
      induction d with
      | zero => intro i hi hz hd; exact absurd hd (Nat.not_lt_zero _)
      | succ d ih18 =>
        intro i hi hz hd
        refine zz_iload_n 18 X.1 3 dX7_firstCommon_18 rfl ?_
        refine zz_sipush 19 X.1 (v := nI 1024) dX7_firstCommon_19 rfl ?_
        refine zz_icmp_ge 22 63 X.1 (nI_toInt (by omega)) (nI_toInt (by omega)) dX7_firstCommon_22 (by decide) (fun h22 => ?_) (fun h22 => ?_)
        · skip
          refine zz_iconst 63 X.1 (v := (-1)) dX7_firstCommon_63 (by decide) ?_
          rw [← hQ]
          refine zz_iret 64 X.1 hr rfl hlk (upd F 0 (nI 0), hs, mv, G) ?_ (fun _ h _ => h) dX7_firstCommon_64
          exact ⟨(nx_no (fun k _ h => hz k (by omega))).symm, rfl⟩
        · skip
          refine zz_aload_n 25 X.1 0 dX7_firstCommon_25 rfl ?_
          refine rr_get 26 X 1 (by decide) (v := .ref (K 1)) rfl (by decide +kernel) rfl dX7_firstCommon_26 ?_
          refine zz_sipush 29 X.1 (v := nI 1024) dX7_firstCommon_29 rfl ?_
          refine zz_iload_n 32 X.1 1 dX7_firstCommon_32 rfl ?_
          refine zz_imul 33 X.1 (v := (nI (1024 * s0))) dX7_firstCommon_33 (pk_mul _ _) ?_
          refine zz_iload_n 34 X.1 3 dX7_firstCommon_34 rfl ?_
          refine zz_iadd 35 X.1 (v := (nI ((1024 * s0) + i))) dX7_firstCommon_35 (nI_add _ _) ?_
          refine rr_hld 36 X (by omega) dX7_firstCommon_36 ?_
          refine zz_ifB_eq 37 57 X.1 dX7_firstCommon_37 (by decide) (fun h37 => ?_) (fun h37 => ?_)
          · skip
            refine zz_iinc 57 X.1 3 (v := (nI (i + 1))) (lv' := [(3, .int (nI (i + 1))), (0, .ref (K 0)), (1, .int (nI s0)), (2, .int (nI o0))]) dX7_firstCommon_57 rfl (nI_add i 1) (by decide) rfl ?_
            refine zz_goto 60 18 X.1 dX7_firstCommon_60 (by decide) ?_
            refine zz_lvs [1, 2, 3, 0] rfl ?_
            exact ih18 (i + 1) (by omega) (fun k h => by rcases Nat.lt_or_ge k i with z | z; exact hz k z; rw [show k = i by omega]; unfold hM; first | (rw [h37]; rfl) | (rw [h52]; simp)) (by omega)
          · skip
            refine zz_aload_n 40 X.1 0 dX7_firstCommon_40 rfl ?_
            refine rr_get 41 X 1 (by decide) (v := .ref (K 1)) rfl (by decide +kernel) rfl dX7_firstCommon_41 ?_
            refine zz_sipush 44 X.1 (v := nI 1024) dX7_firstCommon_44 rfl ?_
            refine zz_iload_n 47 X.1 2 dX7_firstCommon_47 rfl ?_
            refine zz_imul 48 X.1 (v := (nI (1024 * o0))) dX7_firstCommon_48 (pk_mul _ _) ?_
            refine zz_iload_n 49 X.1 3 dX7_firstCommon_49 rfl ?_
            refine zz_iadd 50 X.1 (v := (nI ((1024 * o0) + i))) dX7_firstCommon_50 (nI_add _ _) ?_
            refine rr_hld 51 X (by omega) dX7_firstCommon_51 ?_
            refine zz_ifB_eq 52 57 X.1 dX7_firstCommon_52 (by decide) (fun h52 => ?_) (fun h52 => ?_)
            · skip
              refine zz_iinc 57 X.1 3 (v := (nI (i + 1))) (lv' := [(3, .int (nI (i + 1))), (0, .ref (K 0)), (1, .int (nI s0)), (2, .int (nI o0))]) dX7_firstCommon_57 rfl (nI_add i 1) (by decide) rfl ?_
              refine zz_goto 60 18 X.1 dX7_firstCommon_60 (by decide) ?_
              refine zz_lvs [1, 2, 3, 0] rfl ?_
              exact ih18 (i + 1) (by omega) (fun k h => by rcases Nat.lt_or_ge k i with z | z; exact hz k z; rw [show k = i by omega]; unfold hM; first | (rw [h37]; rfl) | (rw [h52]; simp)) (by omega)
            · skip
              refine zz_iload_n 55 X.1 3 dX7_firstCommon_55 rfl ?_
              rw [← hQ]
              refine zz_iret 56 X.1 hr rfl hlk (upd F 0 (nI 0), hs, mv, G) ?_ (fun _ h _ => h) dX7_firstCommon_56
              exact ⟨(nx_at (q := fun i => hM hs s0 i && hM hs o0 i) (j := i) (by unfold hM; rw [h37, h52]; rfl) (Nat.zero_le _) (by omega) (fun k _ h => hz k h)).symm, rfl⟩
    refine zz_lvs [1, 2, 3, 0] rfl ?_
    exact C18 (1024 - 0 + 1) 0 (by omega) (fun k h => by omega) (Nat.lt_succ_self _)
  · exact absurd h11 (by decide)

abbrev rm_X7_refusals : Room := { frames := 0, cells := 0, slots := 0, locals := 0 }
theorem yd_X7_refusals : yX7_refusals.cls = RX7 ∧ yX7_refusals.cls ≠ "java/lang/invoke/MethodHandle" ∧ yX7_refusals.cls ≠ "java/lang/invoke/VarHandle" ∧ (parseMethodDescriptor yX7_refusals.desc).map (fun d => d.parameters.length) = some 0 := by decide +kernel
set_option maxHeartbeats 4000000 in
set_option maxRecDepth 100000 in
theorem kt_X7_refusals (l : Launch) (D : va_G) (C : Nat → ClassId) (K : Nat → Nat) (hAp : RAp K) (F : Nat → Int32) (hs mv : Nat → Bool) (G : Nat → Nat → Int32)   : RMi l yX7_refusals wsX7_refusals rm_X7_refusals D C K [] F hs mv G (fun (r : Int32) (u : MSt) => r = (F 2) ∧ u = (upd F 0 (nI 0), hs, mv, G)) := by
  refine RMi_of (lv := [(0, .ref (K 0))]) (cc := cX7_refusals) (maxL := 1) (ret := (some .int)) rfl rfl (by decide +kernel) (Nat.le_of_ble_eq_true rfl) rfl ?_
  intro p e s m args below meth c X hml hr hlk
  generalize hQ : MQ below _ args s 0 0 _ = Q
  refine zz_aload_n 0 X.1 0 dX7_refusals_0 rfl ?_
  refine zz_iconst 1 X.1 (v := nI 0) dX7_refusals_1 rfl ?_
  refine rr_put 2 hAp X 0 (by decide) (F' := upd F 0 (nI 0)) rfl (by decide +kernel) ⟨rfl, rfl⟩ (by decide +kernel) dX7_refusals_2 ?_
  refine zz_aload_n 5 X.1 0 dX7_refusals_5 rfl ?_
  refine rr_get 6 X 2 (by decide) (v := .int (F 2)) rfl (by decide +kernel) rfl dX7_refusals_6 ?_
  rw [← hQ]
  refine zz_iret 9 X.1 hr rfl hlk (upd F 0 (nI 0), hs, mv, G) ?_ (fun _ h _ => h) dX7_refusals_9
  exact ⟨rfl, rfl⟩

abbrev rm_X7_errorPosition : Room := { frames := 0, cells := 0, slots := 0, locals := 0 }
theorem yd_X7_errorPosition : yX7_errorPosition.cls = RX7 ∧ yX7_errorPosition.cls ≠ "java/lang/invoke/MethodHandle" ∧ yX7_errorPosition.cls ≠ "java/lang/invoke/VarHandle" ∧ (parseMethodDescriptor yX7_errorPosition.desc).map (fun d => d.parameters.length) = some 0 := by decide +kernel
set_option maxHeartbeats 4000000 in
set_option maxRecDepth 100000 in
theorem kt_X7_errorPosition (l : Launch) (D : va_G) (C : Nat → ClassId) (K : Nat → Nat) (hAp : RAp K) (F : Nat → Int32) (hs mv : Nat → Bool) (G : Nat → Nat → Int32)   : RMi l yX7_errorPosition wsX7_errorPosition rm_X7_errorPosition D C K [] F hs mv G (fun (r : Int32) (u : MSt) => r = (F 16) ∧ u = (upd F 0 (nI 0), hs, mv, G)) := by
  refine RMi_of (lv := [(0, .ref (K 0))]) (cc := cX7_errorPosition) (maxL := 1) (ret := (some .int)) rfl rfl (by decide +kernel) (Nat.le_of_ble_eq_true rfl) rfl ?_
  intro p e s m args below meth c X hml hr hlk
  generalize hQ : MQ below _ args s 0 0 _ = Q
  refine zz_aload_n 0 X.1 0 dX7_errorPosition_0 rfl ?_
  refine zz_iconst 1 X.1 (v := nI 0) dX7_errorPosition_1 rfl ?_
  refine rr_put 2 hAp X 0 (by decide) (F' := upd F 0 (nI 0)) rfl (by decide +kernel) ⟨rfl, rfl⟩ (by decide +kernel) dX7_errorPosition_2 ?_
  refine zz_aload_n 5 X.1 0 dX7_errorPosition_5 rfl ?_
  refine rr_get 6 X 16 (by decide) (v := .int (F 16)) rfl (by decide +kernel) rfl dX7_errorPosition_6 ?_
  rw [← hQ]
  refine zz_iret 9 X.1 hr rfl hlk (upd F 0 (nI 0), hs, mv, G) ?_ (fun _ h _ => h) dX7_errorPosition_9
  exact ⟨rfl, rfl⟩

abbrev rm_X7_stoppedAt : Room := { frames := 0, cells := 0, slots := 0, locals := 0 }
theorem yd_X7_stoppedAt : yX7_stoppedAt.cls = RX7 ∧ yX7_stoppedAt.cls ≠ "java/lang/invoke/MethodHandle" ∧ yX7_stoppedAt.cls ≠ "java/lang/invoke/VarHandle" ∧ (parseMethodDescriptor yX7_stoppedAt.desc).map (fun d => d.parameters.length) = some 0 := by decide +kernel
set_option maxHeartbeats 4000000 in
set_option maxRecDepth 100000 in
theorem kt_X7_stoppedAt (l : Launch) (D : va_G) (C : Nat → ClassId) (K : Nat → Nat) (hAp : RAp K) (F : Nat → Int32) (hs mv : Nat → Bool) (G : Nat → Nat → Int32)   : RMi l yX7_stoppedAt wsX7_stoppedAt rm_X7_stoppedAt D C K [] F hs mv G (fun (r : Int32) (u : MSt) => r = (F 17) ∧ u = (upd F 0 (nI 0), hs, mv, G)) := by
  refine RMi_of (lv := [(0, .ref (K 0))]) (cc := cX7_stoppedAt) (maxL := 1) (ret := (some .int)) rfl rfl (by decide +kernel) (Nat.le_of_ble_eq_true rfl) rfl ?_
  intro p e s m args below meth c X hml hr hlk
  generalize hQ : MQ below _ args s 0 0 _ = Q
  refine zz_aload_n 0 X.1 0 dX7_stoppedAt_0 rfl ?_
  refine zz_iconst 1 X.1 (v := nI 0) dX7_stoppedAt_1 rfl ?_
  refine rr_put 2 hAp X 0 (by decide) (F' := upd F 0 (nI 0)) rfl (by decide +kernel) ⟨rfl, rfl⟩ (by decide +kernel) dX7_stoppedAt_2 ?_
  refine zz_aload_n 5 X.1 0 dX7_stoppedAt_5 rfl ?_
  refine rr_get 6 X 17 (by decide) (v := .int (F 17)) rfl (by decide +kernel) rfl dX7_stoppedAt_6 ?_
  rw [← hQ]
  refine zz_iret 9 X.1 hr rfl hlk (upd F 0 (nI 0), hs, mv, G) ?_ (fun _ h _ => h) dX7_stoppedAt_9
  exact ⟨rfl, rfl⟩

abbrev rm_X7_thrown : Room := { frames := 0, cells := 0, slots := 0, locals := 0 }
theorem yd_X7_thrown : yX7_thrown.cls = RX7 ∧ yX7_thrown.cls ≠ "java/lang/invoke/MethodHandle" ∧ yX7_thrown.cls ≠ "java/lang/invoke/VarHandle" ∧ (parseMethodDescriptor yX7_thrown.desc).map (fun d => d.parameters.length) = some 0 := by decide +kernel
set_option maxHeartbeats 4000000 in
set_option maxRecDepth 100000 in
theorem kt_X7_thrown (l : Launch) (D : va_G) (C : Nat → ClassId) (K : Nat → Nat) (hAp : RAp K) (F : Nat → Int32) (hs mv : Nat → Bool) (G : Nat → Nat → Int32) (k : Nat) (hk : F 0 = nI k) : RMi l yX7_thrown wsX7_thrown rm_X7_thrown D C K [] F hs mv G (fun (r : Int32) (u : MSt) => r = (nI k) ∧ u = (F, hs, mv, G)) := by
  refine RMi_of (lv := [(0, .ref (K 0))]) (cc := cX7_thrown) (maxL := 1) (ret := (some .int)) rfl rfl (by decide +kernel) (Nat.le_of_ble_eq_true rfl) rfl ?_
  intro p e s m args below meth c X hml hr hlk
  generalize hQ : MQ below _ args s 0 0 _ = Q
  refine zz_aload_n 0 X.1 0 dX7_thrown_0 rfl ?_
  refine rr_get 1 X 0 (by decide) (v := .int (F 0)) rfl (by decide +kernel) rfl dX7_thrown_1 ?_
  refine zz_topi (nI k) (hk) ?_
  rw [← hQ]
  refine zz_iret 4 X.1 hr rfl hlk (F, hs, mv, G) ?_ (fun _ h _ => h) dX7_thrown_4
  exact ⟨rfl, rfl⟩

abbrev rm_X7_clearTape : Room := { frames := 0, cells := 0, slots := 0, locals := 0 }
theorem yd_X7_clearTape : yX7_clearTape.cls = RX7 ∧ yX7_clearTape.cls ≠ "java/lang/invoke/MethodHandle" ∧ yX7_clearTape.cls ≠ "java/lang/invoke/VarHandle" ∧ (parseMethodDescriptor yX7_clearTape.desc).map (fun d => d.parameters.length) = some 0 := by decide +kernel
set_option maxHeartbeats 4000000 in
set_option maxRecDepth 100000 in
theorem kt_X7_clearTape (l : Launch) (D : va_G) (C : Nat → ClassId) (K : Nat → Nat) (hAp : RAp K) (F : Nat → Int32) (hs mv : Nat → Bool) (G : Nat → Nat → Int32) (tn : Nat) (hT : F 4 = nI tn) (htn : tn ≤ 400) : RMi l yX7_clearTape wsX7_clearTape rm_X7_clearTape D C K [] F hs mv G (fun (r : Int32) (u : MSt) => r = (nI tn) ∧ u = (upd (upd F 0 (nI 0)) 4 (nI 0), hs, mv, G)) := by
  refine RMi_of (lv := [(0, .ref (K 0))]) (cc := cX7_clearTape) (maxL := 2) (ret := (some .int)) rfl rfl (by decide +kernel) (Nat.le_of_ble_eq_true rfl) rfl ?_
  intro p e s m args below meth c X hml hr hlk
  generalize hQ : MQ below _ args s 0 0 _ = Q
  refine zz_aload_n 0 X.1 0 dX7_clearTape_0 rfl ?_
  refine zz_iconst 1 X.1 (v := nI 0) dX7_clearTape_1 rfl ?_
  refine rr_put 2 hAp X 0 (by decide) (F' := upd F 0 (nI 0)) rfl (by decide +kernel) ⟨rfl, rfl⟩ (by decide +kernel) dX7_clearTape_2 ?_
  refine zz_aload_n 5 X.1 0 dX7_clearTape_5 rfl ?_
  refine rr_get 6 X 4 (by decide) (v := .int (F 4)) rfl (by decide +kernel) rfl dX7_clearTape_6 ?_
  refine zz_topi (nI tn) (hT) ?_
  refine zz_istore_n 9 X.1 (lv' := [(1, .int (nI tn)), (0, .ref (K 0))]) dX7_clearTape_9 (by decide) rfl ?_
  refine zz_aload_n 10 X.1 1 dX7_clearTape_10 rfl ?_
  refine zz_iconst 11 X.1 (v := nI 0) dX7_clearTape_11 rfl ?_
  refine rr_put 12 hAp X 4 (by decide) (F' := upd (upd F 0 (nI 0)) 4 (nI 0)) rfl (by decide +kernel) ⟨rfl, rfl⟩ (by decide +kernel) dX7_clearTape_12 ?_
  refine zz_iload_n 15 X.1 0 dX7_clearTape_15 rfl ?_
  rw [← hQ]
  refine zz_iret 16 X.1 hr rfl hlk (upd (upd F 0 (nI 0)) 4 (nI 0), hs, mv, G) ?_ (fun _ h _ => h) dX7_clearTape_16
  exact ⟨rfl, rfl⟩

abbrev rm_X7_errors : Room := { frames := 1, cells := 0, slots := 0, locals := 26 }
theorem yd_X7_errors : yX7_errors.cls = RX7 ∧ yX7_errors.cls ≠ "java/lang/invoke/MethodHandle" ∧ yX7_errors.cls ≠ "java/lang/invoke/VarHandle" ∧ (parseMethodDescriptor yX7_errors.desc).map (fun d => d.parameters.length) = some 0 := by decide +kernel
set_option maxHeartbeats 4000000 in
set_option maxRecDepth 100000 in
theorem kt_X7_errors (l : Launch) (D : va_G) (C : Nat → ClassId) (K : Nat → Nat) (hAp : RAp K) (F : Nat → Int32) (hs mv : Nat → Bool) (G : Nat → Nat → Int32)   : RMi l yX7_errors wsX7_errors rm_X7_errors D C K [] F hs mv G (fun (r : Int32) (u : MSt) => r = (nI 0) ∧ u = (upd F 0 (nI 0), hs, mv, G)) := by
  refine RMi_of (lv := [(0, .ref (K 0))]) (cc := cX7_errors) (maxL := 5) (ret := (some .int)) rfl rfl (by decide +kernel) (Nat.le_of_ble_eq_true rfl) rfl ?_
  intro p e s m args below meth c X hml hr hlk
  generalize hQ : MQ below _ args s 0 0 _ = Q
  refine zz_aload_n 0 X.1 0 dX7_errors_0 rfl ?_
  refine zz_iconst 1 X.1 (v := nI 0) dX7_errors_1 rfl ?_
  refine rr_put 2 hAp X 0 (by decide) (F' := upd F 0 (nI 0)) rfl (by decide +kernel) ⟨rfl, rfl⟩ (by decide +kernel) dX7_errors_2 ?_
  refine zz_iconst 5 X.1 (v := nI 0) dX7_errors_5 rfl ?_
  refine zz_istore_n 6 X.1 (lv' := [(1, .int (nI 0)), (0, .ref (K 0))]) dX7_errors_6 (by decide) rfl ?_
  refine zz_iconst 7 X.1 (v := nI 0) dX7_errors_7 rfl ?_
  refine zz_istore_n 8 X.1 (lv' := [(2, .int (nI 0)), (1, .int (nI 0)), (0, .ref (K 0))]) dX7_errors_8 (by decide) rfl ?_
  have C9 : ∀ (d : Nat) (a0 : Nat) (ha : a0 ≤ 8) (hd : 8 - a0 < d), ZZ p l e rm_X7_errors s m args below meth c 0 0 Q (zz_A (RAd K) s.heap.size) (RP D C K (upd F 0 (nI 0)) hs mv G) 5 [(0, .ref (K 0)), (1, .int (nI 0)), (2, .int (nI a0))] [] 9 := by
    intro d
    induction d with
    | zero => intro a0 ha hd; exact absurd hd (Nat.not_lt_zero _)
    | succ d ih9 =>
      intro a0 ha hd
      refine zz_iload_n 9 X.1 2 dX7_errors_9 rfl ?_
      refine zz_bipush 10 X.1 (v := nI 8) dX7_errors_10 rfl ?_
      refine zz_icmp_ge 12 84 X.1 (nI_toInt (by omega)) (nI_toInt (by omega)) dX7_errors_12 (by decide) (fun h12 => ?_) (fun h12 => ?_)
      · skip
        refine zz_iload_n 84 X.1 1 dX7_errors_84 rfl ?_
        rw [← hQ]
        refine zz_iret 85 X.1 hr rfl hlk (upd F 0 (nI 0), hs, mv, G) ?_ (fun _ h _ => h) dX7_errors_85
        exact ⟨rfl, rfl⟩
      · skip
        refine zz_iload_n 15 X.1 2 dX7_errors_15 rfl ?_
        refine zz_iconst 16 X.1 (v := nI 1) dX7_errors_16 rfl ?_
        refine zz_iadd 17 X.1 (v := (nI (a0 + 1))) dX7_errors_17 (nI_add _ _) ?_
        refine zz_istore_n 18 X.1 (lv' := [(3, .int (nI (a0 + 1))), (0, .ref (K 0)), (1, .int (nI 0)), (2, .int (nI a0))]) dX7_errors_18 (by decide) rfl ?_
        have C19 : ∀ (d : Nat) (b0 : Nat) (hb : b0 ≤ 8) (hd : 8 - b0 < d), ZZ p l e rm_X7_errors s m args below meth c 0 0 Q (zz_A (RAd K) s.heap.size) (RP D C K (upd F 0 (nI 0)) hs mv G) 5 [(0, .ref (K 0)), (1, .int (nI 0)), (2, .int (nI a0)), (3, .int (nI b0))] [] 19 := by
          intro d
          induction d with
          | zero => intro b0 hb hd; exact absurd hd (Nat.not_lt_zero _)
          | succ d ih19 =>
            intro b0 hb hd
            refine zz_iload_n 19 X.1 3 dX7_errors_19 rfl ?_
            refine zz_bipush 20 X.1 (v := nI 8) dX7_errors_20 rfl ?_
            refine zz_icmp_ge 22 78 X.1 (nI_toInt (by omega)) (nI_toInt (by omega)) dX7_errors_22 (by decide) (fun h22 => ?_) (fun h22 => ?_)
            · skip
              refine zz_iinc 78 X.1 2 (v := (nI (a0 + 1))) (lv' := [(2, .int (nI (a0 + 1))), (0, .ref (K 0)), (1, .int (nI 0)), (3, .int (nI b0))]) dX7_errors_78 rfl (nI_add a0 1) (by decide) rfl ?_
              refine zz_goto 81 9 X.1 dX7_errors_81 (by decide) ?_
              refine zz_lvs [1, 2, 0] rfl ?_
              exact ih9 (a0 + 1) (by omega) (by omega)
            · skip
              have hlaw := pA_law (hM hs a0) (hM hs b0) 1024
              have hc3 := ct_le (hM hs a0) 1024
              have hc4 := ct_le (hM hs b0) 1024
              refine zz_sipush 25 X.1 (v := nI 1024) dX7_errors_25 rfl ?_
              refine zz_aload_n 28 X.1 0 dX7_errors_28 rfl ?_
              refine zz_iload_n 29 X.1 2 dX7_errors_29 rfl ?_
              refine zz_iload_n 30 X.1 3 dX7_errors_30 rfl ?_
              refine zz_iconst 31 X.1 (v := nI 0) dX7_errors_31 rfl ?_
              refine zz_iconst 32 X.1 (v := nI 0) dX7_errors_32 rfl ?_
              refine rr_callVi 33 X hml (As := [.int (nI a0), .int (nI b0), .int (bI false), .int (bI false)]) (kt_X7_manyAs l D C K hAp (upd F 0 (nI 0)) hs mv G a0 b0 false false (by first | rfl | assumption | omega) (by first | rfl | assumption | omega)) gX7_errors_X7_manyAs rfl ⟨rfl, rfl⟩ yd_X7_manyAs ⟨Nat.le_of_ble_eq_true rfl, Nat.le_of_ble_eq_true rfl⟩ rfl rfl (Nat.le_of_ble_eq_true rfl) dX7_errors_33 ?_
              rintro r1 ⟨F1, hs1, mv1, G1⟩ hu1
              obtain ⟨rfl, hv1⟩ := hu1
              cases hv1
              refine zz_world (P' := (RP D C K (upd F 0 (nI 0)) hs mv G)) (fun _ h => h) ?_
              refine zz_isub 36 X.1 (v := (nI (1024 - (ct (pA (hM hs a0) (hM hs b0) false false) 1024)))) dX7_errors_36 (pk_sub (by omega)) ?_
              refine zz_istore 37 X.1 (lv' := [(4, .int (nI (1024 - (ct (pA (hM hs a0) (hM hs b0) false false) 1024)))), (0, .ref (K 0)), (1, .int (nI 0)), (2, .int (nI a0)), (3, .int (nI b0))]) dX7_errors_37 (by decide) rfl ?_
              refine zz_iload_n 39 X.1 2 dX7_errors_39 rfl ?_
              refine zz_aload_n 40 X.1 1 dX7_errors_40 rfl ?_
              refine zz_iload_n 41 X.1 3 dX7_errors_41 rfl ?_
              refine rr_callVi 42 X hml (As := [.int (nI a0)]) (kt_X7_many l D C K hAp (upd F 0 (nI 0)) hs mv G a0 (by first | rfl | assumption | omega)) gX7_errors_X7_many rfl ⟨rfl, rfl⟩ yd_X7_many ⟨Nat.le_of_ble_eq_true rfl, Nat.le_of_ble_eq_true rfl⟩ rfl rfl (Nat.le_of_ble_eq_true rfl) dX7_errors_42 ?_
              rintro r2 ⟨F2, hs2, mv2, G2⟩ hu2
              obtain ⟨rfl, hv2⟩ := hu2
              cases hv2
              refine zz_world (P' := (RP D C K (upd F 0 (nI 0)) hs mv G)) (fun _ h => h) ?_
              refine zz_aload_n 45 X.1 1 dX7_errors_45 rfl ?_
              refine zz_iload_n 46 X.1 4 dX7_errors_46 rfl ?_
              refine rr_callVi 47 X hml (As := [.int (nI b0)]) (kt_X7_many l D C K hAp (upd F 0 (nI 0)) hs mv G b0 (by first | rfl | assumption | omega)) gX7_errors_X7_many rfl ⟨rfl, rfl⟩ yd_X7_many ⟨Nat.le_of_ble_eq_true rfl, Nat.le_of_ble_eq_true rfl⟩ rfl rfl (Nat.le_of_ble_eq_true rfl) dX7_errors_47 ?_
              rintro r3 ⟨F3, hs3, mv3, G3⟩ hu3
              obtain ⟨rfl, hv3⟩ := hu3
              cases hv3
              refine zz_world (P' := (RP D C K (upd F 0 (nI 0)) hs mv G)) (fun _ h => h) ?_
              refine zz_iadd 50 X.1 (v := (nI ((ct (hM hs a0) 1024) + (ct (hM hs b0) 1024)))) dX7_errors_50 (nI_add _ _) ?_
              refine zz_aload_n 51 X.1 1 dX7_errors_51 rfl ?_
              refine zz_iload_n 52 X.1 3 dX7_errors_52 rfl ?_
              refine zz_iload_n 53 X.1 4 dX7_errors_53 rfl ?_
              refine zz_iconst 54 X.1 (v := nI 1) dX7_errors_54 rfl ?_
              refine zz_iconst 55 X.1 (v := nI 1) dX7_errors_55 rfl ?_
              refine rr_callVi 56 X hml (As := [.int (nI a0), .int (nI b0), .int (bI true), .int (bI true)]) (kt_X7_manyAs l D C K hAp (upd F 0 (nI 0)) hs mv G a0 b0 true true (by first | rfl | assumption | omega) (by first | rfl | assumption | omega)) gX7_errors_X7_manyAs rfl ⟨rfl, rfl⟩ yd_X7_manyAs ⟨Nat.le_of_ble_eq_true rfl, Nat.le_of_ble_eq_true rfl⟩ rfl rfl (Nat.le_of_ble_eq_true rfl) dX7_errors_56 ?_
              rintro r4 ⟨F4, hs4, mv4, G4⟩ hu4
              obtain ⟨rfl, hv4⟩ := hu4
              cases hv4
              refine zz_world (P' := (RP D C K (upd F 0 (nI 0)) hs mv G)) (fun _ h => h) ?_
              refine zz_isub 59 X.1 (v := (nI (((ct (hM hs a0) 1024) + (ct (hM hs b0) 1024)) - (ct (pA (hM hs a0) (hM hs b0) true true) 1024)))) dX7_errors_59 (pk_sub (by omega)) ?_
              refine zz_iload 60 X.1 0 dX7_errors_60 rfl ?_
              refine zz_icmp_ne 62 69 X.1 (nI_toInt (by omega)) (nI_toInt (by omega)) dX7_errors_62 (by decide) (fun h62 => ?_) (fun h62 => ?_)
              · exfalso; omega
              · skip
                refine zz_iconst 65 X.1 (v := nI 0) dX7_errors_65 rfl ?_
                refine zz_goto 66 70 X.1 dX7_errors_66 (by decide) ?_
                refine zz_iadd 70 X.1 (v := (nI 0)) dX7_errors_70 (nI_add _ _) ?_
                refine zz_istore_n 71 X.1 (lv' := [(1, .int (nI 0)), (4, .int (nI (1024 - (ct (pA (hM hs a0) (hM hs b0) false false) 1024)))), (0, .ref (K 0)), (2, .int (nI a0)), (3, .int (nI b0))]) dX7_errors_71 (by decide) rfl ?_
                refine zz_iinc 72 X.1 4 (v := (nI (b0 + 1))) (lv' := [(3, .int (nI (b0 + 1))), (1, .int (nI 0)), (4, .int (nI (1024 - (ct (pA (hM hs a0) (hM hs b0) false false) 1024)))), (0, .ref (K 0)), (2, .int (nI a0))]) dX7_errors_72 rfl (nI_add b0 1) (by decide) rfl ?_
                refine zz_goto 75 19 X.1 dX7_errors_75 (by decide) ?_
                refine zz_lvs [3, 1, 4, 0] rfl ?_
                exact ih19 (b0 + 1) (by omega) (by omega)
        refine zz_lvs [1, 2, 3, 0] rfl ?_
        exact C19 (8 - (a0 + 1) + 1) (a0 + 1) (by omega) (Nat.lt_succ_self _)
  refine zz_lvs [2, 1, 0] rfl ?_
  exact C9 (8 - 0 + 1) 0 (by omega) (Nat.lt_succ_self _)

abbrev rm_X7_writes : Room := { frames := 0, cells := 0, slots := 0, locals := 0 }
theorem yd_X7_writes : yX7_writes.cls = RX7 ∧ yX7_writes.cls ≠ "java/lang/invoke/MethodHandle" ∧ yX7_writes.cls ≠ "java/lang/invoke/VarHandle" ∧ (parseMethodDescriptor yX7_writes.desc).map (fun d => d.parameters.length) = some 1 := by decide +kernel
set_option maxHeartbeats 4000000 in
set_option maxRecDepth 100000 in
theorem kt_X7_writes (l : Launch) (D : va_G) (C : Nat → ClassId) (K : Nat → Nat) (hAp : RAp K) (F : Nat → Int32) (hs mv : Nat → Bool) (G : Nat → Nat → Int32) (w : Nat) (sg : Nat) (hw : F 20 = nI w) (hw2 : w < 5100) : RMv l yX7_writes wsX7_writes rm_X7_writes D C K [.int (nI sg)] F hs mv G (fun (u : MSt) => u = (upd F 20 (nI (w + 1)), hs, mv, va_up G 19 (upd (G 19) w (nI sg)))) := by
  refine RMv_of (lv := [(0, .ref (K 0)), (1, .int (nI sg))]) (cc := cX7_writes) (maxL := 2) (ret := none) rfl rfl (by decide +kernel) (Nat.le_of_ble_eq_true rfl) rfl ?_
  intro p e s m args below meth c X hml hr hlk
  generalize hQ : MQ below _ args s 0 0 _ = Q
  refine zz_aload_n 0 X.1 0 dX7_writes_0 rfl ?_
  refine rr_get 1 X 19 (by decide) (v := .ref (K 19)) rfl (by decide +kernel) rfl dX7_writes_1 ?_
  refine zz_aload_n 4 X.1 0 dX7_writes_4 rfl ?_
  refine rr_get 5 X 20 (by decide) (v := .int (F 20)) rfl (by decide +kernel) rfl dX7_writes_5 ?_
  refine zz_topi (nI w) (hw) ?_
  refine zz_iload_n 8 X.1 1 dX7_writes_8 rfl ?_
  refine rr_iast 9 hAp X 9 19 (f := G 19) (G' := va_up G 19 (upd (G 19) w (nI sg))) rfl rfl (by omega) (by decide) dX7_writes_9 ?_
  refine zz_aload_n 10 X.1 0 dX7_writes_10 rfl ?_
  refine zz_dup 11 X.1 dX7_writes_11 rfl ?_
  refine rr_get 12 X 20 (by decide) (v := .int (F 20)) rfl (by decide +kernel) rfl dX7_writes_12 ?_
  refine zz_topi (nI w) (hw) ?_
  refine zz_iconst 15 X.1 (v := nI 1) dX7_writes_15 rfl ?_
  refine zz_iadd 16 X.1 (v := (nI (w + 1))) dX7_writes_16 (nI_add _ _) ?_
  refine rr_put 17 hAp X 20 (by decide) (F' := upd F 20 (nI (w + 1))) rfl (by decide +kernel) ⟨rfl, rfl⟩ (by decide +kernel) dX7_writes_17 ?_
  rw [← hQ]
  refine zz_vret 20 X.1 hr hlk (upd F 20 (nI (w + 1)), hs, mv, va_up G 19 (upd (G 19) w (nI sg))) ?_ (fun _ h _ => h) dX7_writes_20
  exact rfl

abbrev rm_X7_writesNumber : Room := { frames := 1, cells := 0, slots := 0, locals := 21 }
theorem yd_X7_writesNumber : yX7_writesNumber.cls = RX7 ∧ yX7_writesNumber.cls ≠ "java/lang/invoke/MethodHandle" ∧ yX7_writesNumber.cls ≠ "java/lang/invoke/VarHandle" ∧ (parseMethodDescriptor yX7_writesNumber.desc).map (fun d => d.parameters.length) = some 1 := by decide +kernel
set_option maxHeartbeats 4000000 in
set_option maxRecDepth 100000 in
theorem kt_X7_writesNumber (l : Launch) (D : va_G) (C : Nat → ClassId) (K : Nat → Nat) (hAp : RAp K) (F : Nat → Int32) (hs mv : Nat → Bool) (G : Nat → Nat → Int32) (w : Nat) (v0 : Nat) (hw : F 20 = nI w) (hw2 : w + 4 ≤ 5100) (hv0 : v0 < 1024) : RMv l yX7_writesNumber wsX7_writesNumber rm_X7_writesNumber D C K [.int (nI v0)] F hs mv G (fun (u : MSt) => u = (upd F 20 (nI ((wN v0 (G 19, w)).2)), hs, mv, va_up G 19 ((wN v0 (G 19, w)).1))) := by
  refine RMv_of (lv := [(0, .ref (K 0)), (1, .int (nI v0))]) (cc := cX7_writesNumber) (maxL := 4) (ret := none) rfl rfl (by decide +kernel) (Nat.le_of_ble_eq_true rfl) rfl ?_
  intro p e s m args below meth c X hml hr hlk
  generalize hQ : MQ below _ args s 0 0 _ = Q
  refine zz_iconst 0 X.1 (v := nI 1) dX7_writesNumber_0 rfl ?_
  refine zz_istore_n 1 X.1 (lv' := [(2, .int (nI 1)), (0, .ref (K 0)), (1, .int (nI v0))]) dX7_writesNumber_1 (by decide) rfl ?_
  refine zz_iload_n 2 X.1 2 dX7_writesNumber_2 rfl ?_
  refine zz_iload_n 3 X.1 0 dX7_writesNumber_3 rfl ?_
  refine zz_idiv 4 X.1 (v := (nI (v0 / 1))) dX7_writesNumber_4 (zn_ne0 (by omega) (by omega)) (pk_div (by omega) (by omega) (by omega)) ?_
  refine zz_bipush 5 X.1 (v := nI 9) dX7_writesNumber_5 rfl ?_
  refine zz_icmp_le 7 18 X.1 (nI_toInt (by omega)) (nI_toInt (by omega)) dX7_writesNumber_7 (by decide) (fun h7 => ?_) (fun h7 => ?_)
  · skip
    refine zz_iload_n 18 X.1 0 dX7_writesNumber_18 rfl ?_
    refine zz_istore_n 19 X.1 (lv' := [(3, .int (nI 1)), (2, .int (nI 1)), (0, .ref (K 0)), (1, .int (nI v0))]) dX7_writesNumber_19 (by decide) rfl ?_
    refine zz_iload_n 20 X.1 0 dX7_writesNumber_20 rfl ?_
    refine zz_if_le 21 45 X.1 (nI_toInt (by omega)) dX7_writesNumber_21 (by decide) (fun h21 => ?_) (fun h21 => ?_)
    · exfalso; omega
    · skip
      refine zz_aload_n 24 X.1 2 dX7_writesNumber_24 rfl ?_
      refine zz_bipush 25 X.1 (v := nI 48) dX7_writesNumber_25 rfl ?_
      refine zz_iload_n 27 X.1 3 dX7_writesNumber_27 rfl ?_
      refine zz_iload_n 28 X.1 0 dX7_writesNumber_28 rfl ?_
      refine zz_idiv 29 X.1 (v := (nI (v0 / 1))) dX7_writesNumber_29 (zn_ne0 (by omega) (by omega)) (pk_div (by omega) (by omega) (by omega)) ?_
      refine zz_bipush 30 X.1 (v := nI 10) dX7_writesNumber_30 rfl ?_
      refine zz_irem 32 X.1 (v := (nI ((v0 / 1) % 10))) dX7_writesNumber_32 (zn_ne0 (by omega) (by omega)) (pk_rem (by omega) (by omega) (by omega)) ?_
      refine zz_iadd 33 X.1 (v := (nI (48 + ((v0 / 1) % 10)))) dX7_writesNumber_33 (nI_add _ _) ?_
      refine rr_callVv 34 X hml (As := [.int (nI (48 + ((v0 / 1) % 10)))]) (kt_X7_writes l D C K hAp F hs mv G w (48 + ((v0 / 1) % 10)) (hw) (by first | rfl | assumption | omega)) gX7_writesNumber_X7_writes rfl ⟨rfl, rfl⟩ yd_X7_writes ⟨Nat.le_of_ble_eq_true rfl, Nat.le_of_ble_eq_true rfl⟩ rfl rfl (Nat.le_of_ble_eq_true rfl) dX7_writesNumber_34 ?_
      rintro ⟨F1, hs1, mv1, G1⟩ hu1
      cases hu1
      refine zz_world (P' := (RP D C K (upd F 20 (nI (w + 1))) hs mv (va_up G 19 (upd (G 19) w (nI (48 + ((v0 / 1) % 10))))))) (fun _ h => h) ?_
      refine zz_iload_n 37 X.1 0 dX7_writesNumber_37 rfl ?_
      refine zz_bipush 38 X.1 (v := nI 10) dX7_writesNumber_38 rfl ?_
      refine zz_idiv 40 X.1 (v := (nI 0)) dX7_writesNumber_40 (zn_ne0 (by omega) (by omega)) (pk_div (by omega) (by omega) (by omega)) ?_
      refine zz_istore_n 41 X.1 (lv' := [(3, .int (nI 0)), (2, .int (nI 1)), (0, .ref (K 0)), (1, .int (nI v0))]) dX7_writesNumber_41 (by decide) rfl ?_
      refine zz_goto 42 20 X.1 dX7_writesNumber_42 (by decide) ?_
      refine zz_iload_n 20 X.1 0 dX7_writesNumber_20 rfl ?_
      refine zz_if_le 21 45 X.1 (nI_toInt (by omega)) dX7_writesNumber_21 (by decide) (fun h21 => ?_) (fun h21 => ?_)
      · skip
        have hwn : wN v0 (G 19, w) = ((upd (G 19) w (nI (48 + ((v0 / 1) % 10)))), (w + 1)) := by
            unfold wN wD w1
            first | (simp [show ¬ 10 ≤ v0 by omega, show ¬ 100 ≤ v0 by omega, show ¬ 1000 ≤ v0 by omega]; done) | (simp [show 10 ≤ v0 by omega, show ¬ 100 ≤ v0 by omega, show ¬ 1000 ≤ v0 by omega]; done) | (simp [show 10 ≤ v0 by omega, show 100 ≤ v0 by omega, show ¬ 1000 ≤ v0 by omega]; done) | (simp [show 10 ≤ v0 by omega, show 100 ≤ v0 by omega, show 1000 ≤ v0 by omega]; done)
        rw [← hQ]
        refine zz_vret 45 X.1 hr hlk (upd F 20 (nI (w + 1)), hs, mv, va_up G 19 (upd (G 19) w (nI (48 + ((v0 / 1) % 10))))) ?_ (fun _ h _ => h) dX7_writesNumber_45
        rw [hwn]
      · exfalso; omega
  · skip
    refine zz_iload_n 10 X.1 0 dX7_writesNumber_10 rfl ?_
    refine zz_bipush 11 X.1 (v := nI 10) dX7_writesNumber_11 rfl ?_
    refine zz_imul 13 X.1 (v := (nI 10)) dX7_writesNumber_13 (pk_mul _ _) ?_
    refine zz_istore_n 14 X.1 (lv' := [(2, .int (nI 10)), (0, .ref (K 0)), (1, .int (nI v0))]) dX7_writesNumber_14 (by decide) rfl ?_
    refine zz_goto 15 2 X.1 dX7_writesNumber_15 (by decide) ?_
    refine zz_iload_n 2 X.1 2 dX7_writesNumber_2 rfl ?_
    refine zz_iload_n 3 X.1 0 dX7_writesNumber_3 rfl ?_
    refine zz_idiv 4 X.1 (v := (nI (v0 / 10))) dX7_writesNumber_4 (zn_ne0 (by omega) (by omega)) (pk_div (by omega) (by omega) (by omega)) ?_
    refine zz_bipush 5 X.1 (v := nI 9) dX7_writesNumber_5 rfl ?_
    refine zz_icmp_le 7 18 X.1 (nI_toInt (by omega)) (nI_toInt (by omega)) dX7_writesNumber_7 (by decide) (fun h7 => ?_) (fun h7 => ?_)
    · skip
      refine zz_iload_n 18 X.1 0 dX7_writesNumber_18 rfl ?_
      refine zz_istore_n 19 X.1 (lv' := [(3, .int (nI 10)), (2, .int (nI 10)), (0, .ref (K 0)), (1, .int (nI v0))]) dX7_writesNumber_19 (by decide) rfl ?_
      refine zz_iload_n 20 X.1 0 dX7_writesNumber_20 rfl ?_
      refine zz_if_le 21 45 X.1 (nI_toInt (by omega)) dX7_writesNumber_21 (by decide) (fun h21 => ?_) (fun h21 => ?_)
      · exfalso; omega
      · skip
        refine zz_aload_n 24 X.1 2 dX7_writesNumber_24 rfl ?_
        refine zz_bipush 25 X.1 (v := nI 48) dX7_writesNumber_25 rfl ?_
        refine zz_iload_n 27 X.1 3 dX7_writesNumber_27 rfl ?_
        refine zz_iload_n 28 X.1 0 dX7_writesNumber_28 rfl ?_
        refine zz_idiv 29 X.1 (v := (nI (v0 / 10))) dX7_writesNumber_29 (zn_ne0 (by omega) (by omega)) (pk_div (by omega) (by omega) (by omega)) ?_
        refine zz_bipush 30 X.1 (v := nI 10) dX7_writesNumber_30 rfl ?_
        refine zz_irem 32 X.1 (v := (nI ((v0 / 10) % 10))) dX7_writesNumber_32 (zn_ne0 (by omega) (by omega)) (pk_rem (by omega) (by omega) (by omega)) ?_
        refine zz_iadd 33 X.1 (v := (nI (48 + ((v0 / 10) % 10)))) dX7_writesNumber_33 (nI_add _ _) ?_
        refine rr_callVv 34 X hml (As := [.int (nI (48 + ((v0 / 10) % 10)))]) (kt_X7_writes l D C K hAp F hs mv G w (48 + ((v0 / 10) % 10)) (hw) (by first | rfl | assumption | omega)) gX7_writesNumber_X7_writes rfl ⟨rfl, rfl⟩ yd_X7_writes ⟨Nat.le_of_ble_eq_true rfl, Nat.le_of_ble_eq_true rfl⟩ rfl rfl (Nat.le_of_ble_eq_true rfl) dX7_writesNumber_34 ?_
        rintro ⟨F2, hs2, mv2, G2⟩ hu2
        cases hu2
        refine zz_world (P' := (RP D C K (upd F 20 (nI (w + 1))) hs mv (va_up G 19 (upd (G 19) w (nI (48 + ((v0 / 10) % 10))))))) (fun _ h => h) ?_
        refine zz_iload_n 37 X.1 0 dX7_writesNumber_37 rfl ?_
        refine zz_bipush 38 X.1 (v := nI 10) dX7_writesNumber_38 rfl ?_
        refine zz_idiv 40 X.1 (v := (nI 1)) dX7_writesNumber_40 (zn_ne0 (by omega) (by omega)) (pk_div (by omega) (by omega) (by omega)) ?_
        refine zz_istore_n 41 X.1 (lv' := [(3, .int (nI 1)), (2, .int (nI 10)), (0, .ref (K 0)), (1, .int (nI v0))]) dX7_writesNumber_41 (by decide) rfl ?_
        refine zz_goto 42 20 X.1 dX7_writesNumber_42 (by decide) ?_
        refine zz_iload_n 20 X.1 0 dX7_writesNumber_20 rfl ?_
        refine zz_if_le 21 45 X.1 (nI_toInt (by omega)) dX7_writesNumber_21 (by decide) (fun h21 => ?_) (fun h21 => ?_)
        · exfalso; omega
        · skip
          refine zz_aload_n 24 X.1 2 dX7_writesNumber_24 rfl ?_
          refine zz_bipush 25 X.1 (v := nI 48) dX7_writesNumber_25 rfl ?_
          refine zz_iload_n 27 X.1 3 dX7_writesNumber_27 rfl ?_
          refine zz_iload_n 28 X.1 0 dX7_writesNumber_28 rfl ?_
          refine zz_idiv 29 X.1 (v := (nI (v0 / 1))) dX7_writesNumber_29 (zn_ne0 (by omega) (by omega)) (pk_div (by omega) (by omega) (by omega)) ?_
          refine zz_bipush 30 X.1 (v := nI 10) dX7_writesNumber_30 rfl ?_
          refine zz_irem 32 X.1 (v := (nI ((v0 / 1) % 10))) dX7_writesNumber_32 (zn_ne0 (by omega) (by omega)) (pk_rem (by omega) (by omega) (by omega)) ?_
          refine zz_iadd 33 X.1 (v := (nI (48 + ((v0 / 1) % 10)))) dX7_writesNumber_33 (nI_add _ _) ?_
          refine rr_callVv 34 X hml (As := [.int (nI (48 + ((v0 / 1) % 10)))]) (kt_X7_writes l D C K hAp (upd F 20 (nI (w + 1))) hs mv (va_up G 19 (upd (G 19) w (nI (48 + ((v0 / 10) % 10))))) (w + 1) (48 + ((v0 / 1) % 10)) (rfl) (by first | rfl | assumption | omega)) gX7_writesNumber_X7_writes rfl ⟨rfl, rfl⟩ yd_X7_writes ⟨Nat.le_of_ble_eq_true rfl, Nat.le_of_ble_eq_true rfl⟩ rfl rfl (Nat.le_of_ble_eq_true rfl) dX7_writesNumber_34 ?_
          rintro ⟨F3, hs3, mv3, G3⟩ hu3
          cases hu3
          refine zz_world (P' := (RP D C K (upd F 20 (nI ((w + 1) + 1))) hs mv (va_up G 19 (upd (upd (G 19) w (nI (48 + ((v0 / 10) % 10)))) (w + 1) (nI (48 + ((v0 / 1) % 10))))))) (fun _ h => h) ?_
          refine zz_iload_n 37 X.1 0 dX7_writesNumber_37 rfl ?_
          refine zz_bipush 38 X.1 (v := nI 10) dX7_writesNumber_38 rfl ?_
          refine zz_idiv 40 X.1 (v := (nI 0)) dX7_writesNumber_40 (zn_ne0 (by omega) (by omega)) (pk_div (by omega) (by omega) (by omega)) ?_
          refine zz_istore_n 41 X.1 (lv' := [(3, .int (nI 0)), (2, .int (nI 10)), (0, .ref (K 0)), (1, .int (nI v0))]) dX7_writesNumber_41 (by decide) rfl ?_
          refine zz_goto 42 20 X.1 dX7_writesNumber_42 (by decide) ?_
          refine zz_iload_n 20 X.1 0 dX7_writesNumber_20 rfl ?_
          refine zz_if_le 21 45 X.1 (nI_toInt (by omega)) dX7_writesNumber_21 (by decide) (fun h21 => ?_) (fun h21 => ?_)
          · skip
            have hwn : wN v0 (G 19, w) = ((upd (upd (G 19) w (nI (48 + ((v0 / 10) % 10)))) (w + 1) (nI (48 + ((v0 / 1) % 10)))), ((w + 1) + 1)) := by
                unfold wN wD w1
                first | (simp [show ¬ 10 ≤ v0 by omega, show ¬ 100 ≤ v0 by omega, show ¬ 1000 ≤ v0 by omega]; done) | (simp [show 10 ≤ v0 by omega, show ¬ 100 ≤ v0 by omega, show ¬ 1000 ≤ v0 by omega]; done) | (simp [show 10 ≤ v0 by omega, show 100 ≤ v0 by omega, show ¬ 1000 ≤ v0 by omega]; done) | (simp [show 10 ≤ v0 by omega, show 100 ≤ v0 by omega, show 1000 ≤ v0 by omega]; done)
            rw [← hQ]
            refine zz_vret 45 X.1 hr hlk (upd F 20 (nI ((w + 1) + 1)), hs, mv, va_up G 19 (upd (upd (G 19) w (nI (48 + ((v0 / 10) % 10)))) (w + 1) (nI (48 + ((v0 / 1) % 10))))) ?_ (fun _ h _ => h) dX7_writesNumber_45
            rw [hwn]
          · exfalso; omega
    · skip
      refine zz_iload_n 10 X.1 0 dX7_writesNumber_10 rfl ?_
      refine zz_bipush 11 X.1 (v := nI 10) dX7_writesNumber_11 rfl ?_
      refine zz_imul 13 X.1 (v := (nI 100)) dX7_writesNumber_13 (pk_mul _ _) ?_
      refine zz_istore_n 14 X.1 (lv' := [(2, .int (nI 100)), (0, .ref (K 0)), (1, .int (nI v0))]) dX7_writesNumber_14 (by decide) rfl ?_
      refine zz_goto 15 2 X.1 dX7_writesNumber_15 (by decide) ?_
      refine zz_iload_n 2 X.1 2 dX7_writesNumber_2 rfl ?_
      refine zz_iload_n 3 X.1 0 dX7_writesNumber_3 rfl ?_
      refine zz_idiv 4 X.1 (v := (nI (v0 / 100))) dX7_writesNumber_4 (zn_ne0 (by omega) (by omega)) (pk_div (by omega) (by omega) (by omega)) ?_
      refine zz_bipush 5 X.1 (v := nI 9) dX7_writesNumber_5 rfl ?_
      refine zz_icmp_le 7 18 X.1 (nI_toInt (by omega)) (nI_toInt (by omega)) dX7_writesNumber_7 (by decide) (fun h7 => ?_) (fun h7 => ?_)
      · skip
        refine zz_iload_n 18 X.1 0 dX7_writesNumber_18 rfl ?_
        refine zz_istore_n 19 X.1 (lv' := [(3, .int (nI 100)), (2, .int (nI 100)), (0, .ref (K 0)), (1, .int (nI v0))]) dX7_writesNumber_19 (by decide) rfl ?_
        refine zz_iload_n 20 X.1 0 dX7_writesNumber_20 rfl ?_
        refine zz_if_le 21 45 X.1 (nI_toInt (by omega)) dX7_writesNumber_21 (by decide) (fun h21 => ?_) (fun h21 => ?_)
        · exfalso; omega
        · skip
          refine zz_aload_n 24 X.1 2 dX7_writesNumber_24 rfl ?_
          refine zz_bipush 25 X.1 (v := nI 48) dX7_writesNumber_25 rfl ?_
          refine zz_iload_n 27 X.1 3 dX7_writesNumber_27 rfl ?_
          refine zz_iload_n 28 X.1 0 dX7_writesNumber_28 rfl ?_
          refine zz_idiv 29 X.1 (v := (nI (v0 / 100))) dX7_writesNumber_29 (zn_ne0 (by omega) (by omega)) (pk_div (by omega) (by omega) (by omega)) ?_
          refine zz_bipush 30 X.1 (v := nI 10) dX7_writesNumber_30 rfl ?_
          refine zz_irem 32 X.1 (v := (nI ((v0 / 100) % 10))) dX7_writesNumber_32 (zn_ne0 (by omega) (by omega)) (pk_rem (by omega) (by omega) (by omega)) ?_
          refine zz_iadd 33 X.1 (v := (nI (48 + ((v0 / 100) % 10)))) dX7_writesNumber_33 (nI_add _ _) ?_
          refine rr_callVv 34 X hml (As := [.int (nI (48 + ((v0 / 100) % 10)))]) (kt_X7_writes l D C K hAp F hs mv G w (48 + ((v0 / 100) % 10)) (hw) (by first | rfl | assumption | omega)) gX7_writesNumber_X7_writes rfl ⟨rfl, rfl⟩ yd_X7_writes ⟨Nat.le_of_ble_eq_true rfl, Nat.le_of_ble_eq_true rfl⟩ rfl rfl (Nat.le_of_ble_eq_true rfl) dX7_writesNumber_34 ?_
          rintro ⟨F4, hs4, mv4, G4⟩ hu4
          cases hu4
          refine zz_world (P' := (RP D C K (upd F 20 (nI (w + 1))) hs mv (va_up G 19 (upd (G 19) w (nI (48 + ((v0 / 100) % 10))))))) (fun _ h => h) ?_
          refine zz_iload_n 37 X.1 0 dX7_writesNumber_37 rfl ?_
          refine zz_bipush 38 X.1 (v := nI 10) dX7_writesNumber_38 rfl ?_
          refine zz_idiv 40 X.1 (v := (nI 10)) dX7_writesNumber_40 (zn_ne0 (by omega) (by omega)) (pk_div (by omega) (by omega) (by omega)) ?_
          refine zz_istore_n 41 X.1 (lv' := [(3, .int (nI 10)), (2, .int (nI 100)), (0, .ref (K 0)), (1, .int (nI v0))]) dX7_writesNumber_41 (by decide) rfl ?_
          refine zz_goto 42 20 X.1 dX7_writesNumber_42 (by decide) ?_
          refine zz_iload_n 20 X.1 0 dX7_writesNumber_20 rfl ?_
          refine zz_if_le 21 45 X.1 (nI_toInt (by omega)) dX7_writesNumber_21 (by decide) (fun h21 => ?_) (fun h21 => ?_)
          · exfalso; omega
          · skip
            refine zz_aload_n 24 X.1 2 dX7_writesNumber_24 rfl ?_
            refine zz_bipush 25 X.1 (v := nI 48) dX7_writesNumber_25 rfl ?_
            refine zz_iload_n 27 X.1 3 dX7_writesNumber_27 rfl ?_
            refine zz_iload_n 28 X.1 0 dX7_writesNumber_28 rfl ?_
            refine zz_idiv 29 X.1 (v := (nI (v0 / 10))) dX7_writesNumber_29 (zn_ne0 (by omega) (by omega)) (pk_div (by omega) (by omega) (by omega)) ?_
            refine zz_bipush 30 X.1 (v := nI 10) dX7_writesNumber_30 rfl ?_
            refine zz_irem 32 X.1 (v := (nI ((v0 / 10) % 10))) dX7_writesNumber_32 (zn_ne0 (by omega) (by omega)) (pk_rem (by omega) (by omega) (by omega)) ?_
            refine zz_iadd 33 X.1 (v := (nI (48 + ((v0 / 10) % 10)))) dX7_writesNumber_33 (nI_add _ _) ?_
            refine rr_callVv 34 X hml (As := [.int (nI (48 + ((v0 / 10) % 10)))]) (kt_X7_writes l D C K hAp (upd F 20 (nI (w + 1))) hs mv (va_up G 19 (upd (G 19) w (nI (48 + ((v0 / 100) % 10))))) (w + 1) (48 + ((v0 / 10) % 10)) (rfl) (by first | rfl | assumption | omega)) gX7_writesNumber_X7_writes rfl ⟨rfl, rfl⟩ yd_X7_writes ⟨Nat.le_of_ble_eq_true rfl, Nat.le_of_ble_eq_true rfl⟩ rfl rfl (Nat.le_of_ble_eq_true rfl) dX7_writesNumber_34 ?_
            rintro ⟨F5, hs5, mv5, G5⟩ hu5
            cases hu5
            refine zz_world (P' := (RP D C K (upd F 20 (nI ((w + 1) + 1))) hs mv (va_up G 19 (upd (upd (G 19) w (nI (48 + ((v0 / 100) % 10)))) (w + 1) (nI (48 + ((v0 / 10) % 10))))))) (fun _ h => h) ?_
            refine zz_iload_n 37 X.1 0 dX7_writesNumber_37 rfl ?_
            refine zz_bipush 38 X.1 (v := nI 10) dX7_writesNumber_38 rfl ?_
            refine zz_idiv 40 X.1 (v := (nI 1)) dX7_writesNumber_40 (zn_ne0 (by omega) (by omega)) (pk_div (by omega) (by omega) (by omega)) ?_
            refine zz_istore_n 41 X.1 (lv' := [(3, .int (nI 1)), (2, .int (nI 100)), (0, .ref (K 0)), (1, .int (nI v0))]) dX7_writesNumber_41 (by decide) rfl ?_
            refine zz_goto 42 20 X.1 dX7_writesNumber_42 (by decide) ?_
            refine zz_iload_n 20 X.1 0 dX7_writesNumber_20 rfl ?_
            refine zz_if_le 21 45 X.1 (nI_toInt (by omega)) dX7_writesNumber_21 (by decide) (fun h21 => ?_) (fun h21 => ?_)
            · exfalso; omega
            · skip
              refine zz_aload_n 24 X.1 2 dX7_writesNumber_24 rfl ?_
              refine zz_bipush 25 X.1 (v := nI 48) dX7_writesNumber_25 rfl ?_
              refine zz_iload_n 27 X.1 3 dX7_writesNumber_27 rfl ?_
              refine zz_iload_n 28 X.1 0 dX7_writesNumber_28 rfl ?_
              refine zz_idiv 29 X.1 (v := (nI (v0 / 1))) dX7_writesNumber_29 (zn_ne0 (by omega) (by omega)) (pk_div (by omega) (by omega) (by omega)) ?_
              refine zz_bipush 30 X.1 (v := nI 10) dX7_writesNumber_30 rfl ?_
              refine zz_irem 32 X.1 (v := (nI ((v0 / 1) % 10))) dX7_writesNumber_32 (zn_ne0 (by omega) (by omega)) (pk_rem (by omega) (by omega) (by omega)) ?_
              refine zz_iadd 33 X.1 (v := (nI (48 + ((v0 / 1) % 10)))) dX7_writesNumber_33 (nI_add _ _) ?_
              refine rr_callVv 34 X hml (As := [.int (nI (48 + ((v0 / 1) % 10)))]) (kt_X7_writes l D C K hAp (upd F 20 (nI ((w + 1) + 1))) hs mv (va_up G 19 (upd (upd (G 19) w (nI (48 + ((v0 / 100) % 10)))) (w + 1) (nI (48 + ((v0 / 10) % 10))))) ((w + 1) + 1) (48 + ((v0 / 1) % 10)) (rfl) (by first | rfl | assumption | omega)) gX7_writesNumber_X7_writes rfl ⟨rfl, rfl⟩ yd_X7_writes ⟨Nat.le_of_ble_eq_true rfl, Nat.le_of_ble_eq_true rfl⟩ rfl rfl (Nat.le_of_ble_eq_true rfl) dX7_writesNumber_34 ?_
              rintro ⟨F6, hs6, mv6, G6⟩ hu6
              cases hu6
              refine zz_world (P' := (RP D C K (upd F 20 (nI (((w + 1) + 1) + 1))) hs mv (va_up G 19 (upd (upd (upd (G 19) w (nI (48 + ((v0 / 100) % 10)))) (w + 1) (nI (48 + ((v0 / 10) % 10)))) ((w + 1) + 1) (nI (48 + ((v0 / 1) % 10))))))) (fun _ h => h) ?_
              refine zz_iload_n 37 X.1 0 dX7_writesNumber_37 rfl ?_
              refine zz_bipush 38 X.1 (v := nI 10) dX7_writesNumber_38 rfl ?_
              refine zz_idiv 40 X.1 (v := (nI 0)) dX7_writesNumber_40 (zn_ne0 (by omega) (by omega)) (pk_div (by omega) (by omega) (by omega)) ?_
              refine zz_istore_n 41 X.1 (lv' := [(3, .int (nI 0)), (2, .int (nI 100)), (0, .ref (K 0)), (1, .int (nI v0))]) dX7_writesNumber_41 (by decide) rfl ?_
              refine zz_goto 42 20 X.1 dX7_writesNumber_42 (by decide) ?_
              refine zz_iload_n 20 X.1 0 dX7_writesNumber_20 rfl ?_
              refine zz_if_le 21 45 X.1 (nI_toInt (by omega)) dX7_writesNumber_21 (by decide) (fun h21 => ?_) (fun h21 => ?_)
              · skip
                have hwn : wN v0 (G 19, w) = ((upd (upd (upd (G 19) w (nI (48 + ((v0 / 100) % 10)))) (w + 1) (nI (48 + ((v0 / 10) % 10)))) ((w + 1) + 1) (nI (48 + ((v0 / 1) % 10)))), (((w + 1) + 1) + 1)) := by
                    unfold wN wD w1
                    first | (simp [show ¬ 10 ≤ v0 by omega, show ¬ 100 ≤ v0 by omega, show ¬ 1000 ≤ v0 by omega]; done) | (simp [show 10 ≤ v0 by omega, show ¬ 100 ≤ v0 by omega, show ¬ 1000 ≤ v0 by omega]; done) | (simp [show 10 ≤ v0 by omega, show 100 ≤ v0 by omega, show ¬ 1000 ≤ v0 by omega]; done) | (simp [show 10 ≤ v0 by omega, show 100 ≤ v0 by omega, show 1000 ≤ v0 by omega]; done)
                rw [← hQ]
                refine zz_vret 45 X.1 hr hlk (upd F 20 (nI (((w + 1) + 1) + 1)), hs, mv, va_up G 19 (upd (upd (upd (G 19) w (nI (48 + ((v0 / 100) % 10)))) (w + 1) (nI (48 + ((v0 / 10) % 10)))) ((w + 1) + 1) (nI (48 + ((v0 / 1) % 10))))) ?_ (fun _ h _ => h) dX7_writesNumber_45
                rw [hwn]
              · exfalso; omega
      · skip
        refine zz_iload_n 10 X.1 0 dX7_writesNumber_10 rfl ?_
        refine zz_bipush 11 X.1 (v := nI 10) dX7_writesNumber_11 rfl ?_
        refine zz_imul 13 X.1 (v := (nI 1000)) dX7_writesNumber_13 (pk_mul _ _) ?_
        refine zz_istore_n 14 X.1 (lv' := [(2, .int (nI 1000)), (0, .ref (K 0)), (1, .int (nI v0))]) dX7_writesNumber_14 (by decide) rfl ?_
        refine zz_goto 15 2 X.1 dX7_writesNumber_15 (by decide) ?_
        refine zz_iload_n 2 X.1 2 dX7_writesNumber_2 rfl ?_
        refine zz_iload_n 3 X.1 0 dX7_writesNumber_3 rfl ?_
        refine zz_idiv 4 X.1 (v := (nI (v0 / 1000))) dX7_writesNumber_4 (zn_ne0 (by omega) (by omega)) (pk_div (by omega) (by omega) (by omega)) ?_
        refine zz_bipush 5 X.1 (v := nI 9) dX7_writesNumber_5 rfl ?_
        refine zz_icmp_le 7 18 X.1 (nI_toInt (by omega)) (nI_toInt (by omega)) dX7_writesNumber_7 (by decide) (fun h7 => ?_) (fun h7 => ?_)
        · skip
          refine zz_iload_n 18 X.1 0 dX7_writesNumber_18 rfl ?_
          refine zz_istore_n 19 X.1 (lv' := [(3, .int (nI 1000)), (2, .int (nI 1000)), (0, .ref (K 0)), (1, .int (nI v0))]) dX7_writesNumber_19 (by decide) rfl ?_
          refine zz_iload_n 20 X.1 0 dX7_writesNumber_20 rfl ?_
          refine zz_if_le 21 45 X.1 (nI_toInt (by omega)) dX7_writesNumber_21 (by decide) (fun h21 => ?_) (fun h21 => ?_)
          · exfalso; omega
          · skip
            refine zz_aload_n 24 X.1 2 dX7_writesNumber_24 rfl ?_
            refine zz_bipush 25 X.1 (v := nI 48) dX7_writesNumber_25 rfl ?_
            refine zz_iload_n 27 X.1 3 dX7_writesNumber_27 rfl ?_
            refine zz_iload_n 28 X.1 0 dX7_writesNumber_28 rfl ?_
            refine zz_idiv 29 X.1 (v := (nI (v0 / 1000))) dX7_writesNumber_29 (zn_ne0 (by omega) (by omega)) (pk_div (by omega) (by omega) (by omega)) ?_
            refine zz_bipush 30 X.1 (v := nI 10) dX7_writesNumber_30 rfl ?_
            refine zz_irem 32 X.1 (v := (nI ((v0 / 1000) % 10))) dX7_writesNumber_32 (zn_ne0 (by omega) (by omega)) (pk_rem (by omega) (by omega) (by omega)) ?_
            refine zz_iadd 33 X.1 (v := (nI (48 + ((v0 / 1000) % 10)))) dX7_writesNumber_33 (nI_add _ _) ?_
            refine rr_callVv 34 X hml (As := [.int (nI (48 + ((v0 / 1000) % 10)))]) (kt_X7_writes l D C K hAp F hs mv G w (48 + ((v0 / 1000) % 10)) (hw) (by first | rfl | assumption | omega)) gX7_writesNumber_X7_writes rfl ⟨rfl, rfl⟩ yd_X7_writes ⟨Nat.le_of_ble_eq_true rfl, Nat.le_of_ble_eq_true rfl⟩ rfl rfl (Nat.le_of_ble_eq_true rfl) dX7_writesNumber_34 ?_
            rintro ⟨F7, hs7, mv7, G7⟩ hu7
            cases hu7
            refine zz_world (P' := (RP D C K (upd F 20 (nI (w + 1))) hs mv (va_up G 19 (upd (G 19) w (nI (48 + ((v0 / 1000) % 10))))))) (fun _ h => h) ?_
            refine zz_iload_n 37 X.1 0 dX7_writesNumber_37 rfl ?_
            refine zz_bipush 38 X.1 (v := nI 10) dX7_writesNumber_38 rfl ?_
            refine zz_idiv 40 X.1 (v := (nI 100)) dX7_writesNumber_40 (zn_ne0 (by omega) (by omega)) (pk_div (by omega) (by omega) (by omega)) ?_
            refine zz_istore_n 41 X.1 (lv' := [(3, .int (nI 100)), (2, .int (nI 1000)), (0, .ref (K 0)), (1, .int (nI v0))]) dX7_writesNumber_41 (by decide) rfl ?_
            refine zz_goto 42 20 X.1 dX7_writesNumber_42 (by decide) ?_
            refine zz_iload_n 20 X.1 0 dX7_writesNumber_20 rfl ?_
            refine zz_if_le 21 45 X.1 (nI_toInt (by omega)) dX7_writesNumber_21 (by decide) (fun h21 => ?_) (fun h21 => ?_)
            · exfalso; omega
            · skip
              refine zz_aload_n 24 X.1 2 dX7_writesNumber_24 rfl ?_
              refine zz_bipush 25 X.1 (v := nI 48) dX7_writesNumber_25 rfl ?_
              refine zz_iload_n 27 X.1 3 dX7_writesNumber_27 rfl ?_
              refine zz_iload_n 28 X.1 0 dX7_writesNumber_28 rfl ?_
              refine zz_idiv 29 X.1 (v := (nI (v0 / 100))) dX7_writesNumber_29 (zn_ne0 (by omega) (by omega)) (pk_div (by omega) (by omega) (by omega)) ?_
              refine zz_bipush 30 X.1 (v := nI 10) dX7_writesNumber_30 rfl ?_
              refine zz_irem 32 X.1 (v := (nI ((v0 / 100) % 10))) dX7_writesNumber_32 (zn_ne0 (by omega) (by omega)) (pk_rem (by omega) (by omega) (by omega)) ?_
              refine zz_iadd 33 X.1 (v := (nI (48 + ((v0 / 100) % 10)))) dX7_writesNumber_33 (nI_add _ _) ?_
              refine rr_callVv 34 X hml (As := [.int (nI (48 + ((v0 / 100) % 10)))]) (kt_X7_writes l D C K hAp (upd F 20 (nI (w + 1))) hs mv (va_up G 19 (upd (G 19) w (nI (48 + ((v0 / 1000) % 10))))) (w + 1) (48 + ((v0 / 100) % 10)) (rfl) (by first | rfl | assumption | omega)) gX7_writesNumber_X7_writes rfl ⟨rfl, rfl⟩ yd_X7_writes ⟨Nat.le_of_ble_eq_true rfl, Nat.le_of_ble_eq_true rfl⟩ rfl rfl (Nat.le_of_ble_eq_true rfl) dX7_writesNumber_34 ?_
              rintro ⟨F8, hs8, mv8, G8⟩ hu8
              cases hu8
              refine zz_world (P' := (RP D C K (upd F 20 (nI ((w + 1) + 1))) hs mv (va_up G 19 (upd (upd (G 19) w (nI (48 + ((v0 / 1000) % 10)))) (w + 1) (nI (48 + ((v0 / 100) % 10))))))) (fun _ h => h) ?_
              refine zz_iload_n 37 X.1 0 dX7_writesNumber_37 rfl ?_
              refine zz_bipush 38 X.1 (v := nI 10) dX7_writesNumber_38 rfl ?_
              refine zz_idiv 40 X.1 (v := (nI 10)) dX7_writesNumber_40 (zn_ne0 (by omega) (by omega)) (pk_div (by omega) (by omega) (by omega)) ?_
              refine zz_istore_n 41 X.1 (lv' := [(3, .int (nI 10)), (2, .int (nI 1000)), (0, .ref (K 0)), (1, .int (nI v0))]) dX7_writesNumber_41 (by decide) rfl ?_
              refine zz_goto 42 20 X.1 dX7_writesNumber_42 (by decide) ?_
              refine zz_iload_n 20 X.1 0 dX7_writesNumber_20 rfl ?_
              refine zz_if_le 21 45 X.1 (nI_toInt (by omega)) dX7_writesNumber_21 (by decide) (fun h21 => ?_) (fun h21 => ?_)
              · exfalso; omega
              · skip
                refine zz_aload_n 24 X.1 2 dX7_writesNumber_24 rfl ?_
                refine zz_bipush 25 X.1 (v := nI 48) dX7_writesNumber_25 rfl ?_
                refine zz_iload_n 27 X.1 3 dX7_writesNumber_27 rfl ?_
                refine zz_iload_n 28 X.1 0 dX7_writesNumber_28 rfl ?_
                refine zz_idiv 29 X.1 (v := (nI (v0 / 10))) dX7_writesNumber_29 (zn_ne0 (by omega) (by omega)) (pk_div (by omega) (by omega) (by omega)) ?_
                refine zz_bipush 30 X.1 (v := nI 10) dX7_writesNumber_30 rfl ?_
                refine zz_irem 32 X.1 (v := (nI ((v0 / 10) % 10))) dX7_writesNumber_32 (zn_ne0 (by omega) (by omega)) (pk_rem (by omega) (by omega) (by omega)) ?_
                refine zz_iadd 33 X.1 (v := (nI (48 + ((v0 / 10) % 10)))) dX7_writesNumber_33 (nI_add _ _) ?_
                refine rr_callVv 34 X hml (As := [.int (nI (48 + ((v0 / 10) % 10)))]) (kt_X7_writes l D C K hAp (upd F 20 (nI ((w + 1) + 1))) hs mv (va_up G 19 (upd (upd (G 19) w (nI (48 + ((v0 / 1000) % 10)))) (w + 1) (nI (48 + ((v0 / 100) % 10))))) ((w + 1) + 1) (48 + ((v0 / 10) % 10)) (rfl) (by first | rfl | assumption | omega)) gX7_writesNumber_X7_writes rfl ⟨rfl, rfl⟩ yd_X7_writes ⟨Nat.le_of_ble_eq_true rfl, Nat.le_of_ble_eq_true rfl⟩ rfl rfl (Nat.le_of_ble_eq_true rfl) dX7_writesNumber_34 ?_
                rintro ⟨F9, hs9, mv9, G9⟩ hu9
                cases hu9
                refine zz_world (P' := (RP D C K (upd F 20 (nI (((w + 1) + 1) + 1))) hs mv (va_up G 19 (upd (upd (upd (G 19) w (nI (48 + ((v0 / 1000) % 10)))) (w + 1) (nI (48 + ((v0 / 100) % 10)))) ((w + 1) + 1) (nI (48 + ((v0 / 10) % 10))))))) (fun _ h => h) ?_
                refine zz_iload_n 37 X.1 0 dX7_writesNumber_37 rfl ?_
                refine zz_bipush 38 X.1 (v := nI 10) dX7_writesNumber_38 rfl ?_
                refine zz_idiv 40 X.1 (v := (nI 1)) dX7_writesNumber_40 (zn_ne0 (by omega) (by omega)) (pk_div (by omega) (by omega) (by omega)) ?_
                refine zz_istore_n 41 X.1 (lv' := [(3, .int (nI 1)), (2, .int (nI 1000)), (0, .ref (K 0)), (1, .int (nI v0))]) dX7_writesNumber_41 (by decide) rfl ?_
                refine zz_goto 42 20 X.1 dX7_writesNumber_42 (by decide) ?_
                refine zz_iload_n 20 X.1 0 dX7_writesNumber_20 rfl ?_
                refine zz_if_le 21 45 X.1 (nI_toInt (by omega)) dX7_writesNumber_21 (by decide) (fun h21 => ?_) (fun h21 => ?_)
                · exfalso; omega
                · skip
                  refine zz_aload_n 24 X.1 2 dX7_writesNumber_24 rfl ?_
                  refine zz_bipush 25 X.1 (v := nI 48) dX7_writesNumber_25 rfl ?_
                  refine zz_iload_n 27 X.1 3 dX7_writesNumber_27 rfl ?_
                  refine zz_iload_n 28 X.1 0 dX7_writesNumber_28 rfl ?_
                  refine zz_idiv 29 X.1 (v := (nI (v0 / 1))) dX7_writesNumber_29 (zn_ne0 (by omega) (by omega)) (pk_div (by omega) (by omega) (by omega)) ?_
                  refine zz_bipush 30 X.1 (v := nI 10) dX7_writesNumber_30 rfl ?_
                  refine zz_irem 32 X.1 (v := (nI ((v0 / 1) % 10))) dX7_writesNumber_32 (zn_ne0 (by omega) (by omega)) (pk_rem (by omega) (by omega) (by omega)) ?_
                  refine zz_iadd 33 X.1 (v := (nI (48 + ((v0 / 1) % 10)))) dX7_writesNumber_33 (nI_add _ _) ?_
                  refine rr_callVv 34 X hml (As := [.int (nI (48 + ((v0 / 1) % 10)))]) (kt_X7_writes l D C K hAp (upd F 20 (nI (((w + 1) + 1) + 1))) hs mv (va_up G 19 (upd (upd (upd (G 19) w (nI (48 + ((v0 / 1000) % 10)))) (w + 1) (nI (48 + ((v0 / 100) % 10)))) ((w + 1) + 1) (nI (48 + ((v0 / 10) % 10))))) (((w + 1) + 1) + 1) (48 + ((v0 / 1) % 10)) (rfl) (by first | rfl | assumption | omega)) gX7_writesNumber_X7_writes rfl ⟨rfl, rfl⟩ yd_X7_writes ⟨Nat.le_of_ble_eq_true rfl, Nat.le_of_ble_eq_true rfl⟩ rfl rfl (Nat.le_of_ble_eq_true rfl) dX7_writesNumber_34 ?_
                  rintro ⟨F10, hs10, mv10, G10⟩ hu10
                  cases hu10
                  refine zz_world (P' := (RP D C K (upd F 20 (nI ((((w + 1) + 1) + 1) + 1))) hs mv (va_up G 19 (upd (upd (upd (upd (G 19) w (nI (48 + ((v0 / 1000) % 10)))) (w + 1) (nI (48 + ((v0 / 100) % 10)))) ((w + 1) + 1) (nI (48 + ((v0 / 10) % 10)))) (((w + 1) + 1) + 1) (nI (48 + ((v0 / 1) % 10))))))) (fun _ h => h) ?_
                  refine zz_iload_n 37 X.1 0 dX7_writesNumber_37 rfl ?_
                  refine zz_bipush 38 X.1 (v := nI 10) dX7_writesNumber_38 rfl ?_
                  refine zz_idiv 40 X.1 (v := (nI 0)) dX7_writesNumber_40 (zn_ne0 (by omega) (by omega)) (pk_div (by omega) (by omega) (by omega)) ?_
                  refine zz_istore_n 41 X.1 (lv' := [(3, .int (nI 0)), (2, .int (nI 1000)), (0, .ref (K 0)), (1, .int (nI v0))]) dX7_writesNumber_41 (by decide) rfl ?_
                  refine zz_goto 42 20 X.1 dX7_writesNumber_42 (by decide) ?_
                  refine zz_iload_n 20 X.1 0 dX7_writesNumber_20 rfl ?_
                  refine zz_if_le 21 45 X.1 (nI_toInt (by omega)) dX7_writesNumber_21 (by decide) (fun h21 => ?_) (fun h21 => ?_)
                  · skip
                    have hwn : wN v0 (G 19, w) = ((upd (upd (upd (upd (G 19) w (nI (48 + ((v0 / 1000) % 10)))) (w + 1) (nI (48 + ((v0 / 100) % 10)))) ((w + 1) + 1) (nI (48 + ((v0 / 10) % 10)))) (((w + 1) + 1) + 1) (nI (48 + ((v0 / 1) % 10)))), ((((w + 1) + 1) + 1) + 1)) := by
                        unfold wN wD w1
                        first | (simp [show ¬ 10 ≤ v0 by omega, show ¬ 100 ≤ v0 by omega, show ¬ 1000 ≤ v0 by omega]; done) | (simp [show 10 ≤ v0 by omega, show ¬ 100 ≤ v0 by omega, show ¬ 1000 ≤ v0 by omega]; done) | (simp [show 10 ≤ v0 by omega, show 100 ≤ v0 by omega, show ¬ 1000 ≤ v0 by omega]; done) | (simp [show 10 ≤ v0 by omega, show 100 ≤ v0 by omega, show 1000 ≤ v0 by omega]; done)
                    rw [← hQ]
                    refine zz_vret 45 X.1 hr hlk (upd F 20 (nI ((((w + 1) + 1) + 1) + 1)), hs, mv, va_up G 19 (upd (upd (upd (upd (G 19) w (nI (48 + ((v0 / 1000) % 10)))) (w + 1) (nI (48 + ((v0 / 100) % 10)))) ((w + 1) + 1) (nI (48 + ((v0 / 10) % 10)))) (((w + 1) + 1) + 1) (nI (48 + ((v0 / 1) % 10))))) ?_ (fun _ h _ => h) dX7_writesNumber_45
                    rw [hwn]
                  · exfalso; omega
        · exfalso; omega

abbrev rm_X7_write : Room := { frames := 2, cells := 0, slots := 0, locals := 44 }
theorem yd_X7_write : yX7_write.cls = RX7 ∧ yX7_write.cls ≠ "java/lang/invoke/MethodHandle" ∧ yX7_write.cls ≠ "java/lang/invoke/VarHandle" ∧ (parseMethodDescriptor yX7_write.desc).map (fun d => d.parameters.length) = some 1 := by decide +kernel
set_option maxHeartbeats 4000000 in
set_option maxRecDepth 100000 in
theorem kt_X7_write_no (l : Launch) (D : va_G) (C : Nat → ClassId) (K : Nat → Nat) (hAp : RAp K) (F : Nat → Int32) (hs mv : Nat → Bool) (G : Nat → Nat → Int32) (x0 : Int32) (a : Int) (h_a : x0.toInt = a) (hno : ¬ (0 ≤ a ∧ a < 8)) : RMi l yX7_write wsX7_write rm_X7_write D C K [.int x0] F hs mv G (fun (r : Int32) (u : MSt) => r = (nI 0) ∧ u = (upd F 0 (nI 1), hs, mv, G)) := by
  refine RMi_of (lv := [(0, .ref (K 0)), (1, .int x0)]) (cc := cX7_write) (maxL := 3) (ret := (some .int)) rfl rfl (by decide +kernel) (Nat.le_of_ble_eq_true rfl) rfl ?_
  intro p e s m args below meth c X hml hr hlk
  generalize hQ : MQ below _ args s 0 0 _ = Q
  refine zz_aload_n 0 X.1 0 dX7_write_0 rfl ?_
  refine zz_iconst 1 X.1 (v := nI 0) dX7_write_1 rfl ?_
  refine rr_put 2 hAp X 0 (by decide) (F' := upd F 0 (nI 0)) rfl (by decide +kernel) ⟨rfl, rfl⟩ (by decide +kernel) dX7_write_2 ?_
  refine zz_aload_n 5 X.1 0 dX7_write_5 rfl ?_
  refine zz_iload_n 6 X.1 1 dX7_write_6 rfl ?_
  refine rr_callVi 7 X hml (As := [.int x0]) (kt_X7_noSet l D C K hAp (upd F 0 (nI 0)) hs mv G x0 a (h_a) (by first | rfl | assumption | omega)) gX7_write_X7_noSet rfl ⟨rfl, rfl⟩ yd_X7_noSet ⟨Nat.le_of_ble_eq_true rfl, Nat.le_of_ble_eq_true rfl⟩ rfl rfl (Nat.le_of_ble_eq_true rfl) dX7_write_7 ?_
  rintro r1 ⟨F1, hs1, mv1, G1⟩ hu1
  rcases (show (0 ≤ a ∧ a < 8) ∨ (¬ (0 ≤ a ∧ a < 8)) by omega) with hc1 | hc1
  · exfalso; omega
  · skip
    obtain ⟨rfl, hv1⟩ := (hu1.2 hc1)
    cases hv1
    refine zz_world (P' := (RP D C K (upd F 0 (nI 1)) hs mv G)) (fun _ h => h) ?_
    refine zz_ifB_eq 10 15 X.1 dX7_write_10 (by decide) (fun h10 => ?_) (fun h10 => ?_)
    · exact absurd h10 (by decide)
    · skip
      refine zz_iconst 13 X.1 (v := nI 0) dX7_write_13 rfl ?_
      rw [← hQ]
      refine zz_iret 14 X.1 hr rfl hlk (upd F 0 (nI 1), hs, mv, G) ?_ (fun _ h _ => h) dX7_write_14
      exact ⟨rfl, rfl⟩

set_option maxHeartbeats 4000000 in
set_option maxRecDepth 100000 in
theorem kt_X7_write_ok (l : Launch) (D : va_G) (C : Nat → ClassId) (K : Nat → Nat) (hAp : RAp K) (F : Nat → Int32) (hs mv : Nat → Bool) (G : Nat → Nat → Int32) (s0 : Nat) (hs0 : s0 < 8) : RMi l yX7_write wsX7_write rm_X7_write D C K [.int (nI s0)] F hs mv G (fun (r : Int32) (u : MSt) => r = (nI ((wT (hM hs s0) (G 19)).2)) ∧ u = (upd (upd F 0 (nI 0)) 20 (nI ((wT (hM hs s0) (G 19)).2)), hs, mv, va_up G 19 ((wT (hM hs s0) (G 19)).1))) := by
  refine RMi_of (lv := [(0, .ref (K 0)), (1, .int (nI s0))]) (cc := cX7_write) (maxL := 3) (ret := (some .int)) rfl rfl (by decide +kernel) (Nat.le_of_ble_eq_true rfl) rfl ?_
  intro p e s m args below meth c X hml hr hlk
  generalize hQ : MQ below _ args s 0 0 _ = Q
  refine zz_aload_n 0 X.1 0 dX7_write_0 rfl ?_
  refine zz_iconst 1 X.1 (v := nI 0) dX7_write_1 rfl ?_
  refine rr_put 2 hAp X 0 (by decide) (F' := upd F 0 (nI 0)) rfl (by decide +kernel) ⟨rfl, rfl⟩ (by decide +kernel) dX7_write_2 ?_
  refine zz_aload_n 5 X.1 0 dX7_write_5 rfl ?_
  refine zz_iload_n 6 X.1 1 dX7_write_6 rfl ?_
  refine rr_callVi 7 X hml (As := [.int (nI s0)]) (kt_X7_noSet l D C K hAp (upd F 0 (nI 0)) hs mv G (nI s0) ((s0 : Nat) : Int) (nI_toInt (by omega)) (by first | rfl | assumption | omega)) gX7_write_X7_noSet rfl ⟨rfl, rfl⟩ yd_X7_noSet ⟨Nat.le_of_ble_eq_true rfl, Nat.le_of_ble_eq_true rfl⟩ rfl rfl (Nat.le_of_ble_eq_true rfl) dX7_write_7 ?_
  rintro r1 ⟨F1, hs1, mv1, G1⟩ hu1
  obtain ⟨rfl, hv1⟩ := (hu1.1 (by omega))
  cases hv1
  refine zz_world (P' := (RP D C K (upd F 0 (nI 0)) hs mv G)) (fun _ h => h) ?_
  refine zz_ifB_eq 10 15 X.1 dX7_write_10 (by decide) (fun h10 => ?_) (fun h10 => ?_)
  · skip
    refine zz_aload_n 15 X.1 0 dX7_write_15 rfl ?_
    refine zz_iconst 16 X.1 (v := nI 0) dX7_write_16 rfl ?_
    refine rr_put 17 hAp X 20 (by decide) (F' := upd (upd F 0 (nI 0)) 20 (nI 0)) rfl (by decide +kernel) ⟨rfl, rfl⟩ (by decide +kernel) dX7_write_17 ?_
    refine zz_aload_n 20 X.1 0 dX7_write_20 rfl ?_
    refine zz_bipush 21 X.1 (v := nI 123) dX7_write_21 rfl ?_
    refine rr_callVv 23 X hml (As := [.int (nI 123)]) (kt_X7_writes l D C K hAp (upd (upd F 0 (nI 0)) 20 (nI 0)) hs mv G 0 123 (rfl) (by first | rfl | assumption | omega)) gX7_write_X7_writes rfl ⟨rfl, rfl⟩ yd_X7_writes ⟨Nat.le_of_ble_eq_true rfl, Nat.le_of_ble_eq_true rfl⟩ rfl rfl (Nat.le_of_ble_eq_true rfl) dX7_write_23 ?_
    rintro ⟨F2, hs2, mv2, G2⟩ hu2
    cases hu2
    refine zz_world (P' := (RP D C K (upd (upd F 0 (nI 0)) 20 (nI (0 + 1))) hs mv (va_up G 19 (upd (G 19) 0 (nI 123))))) (fun _ h => h) ?_
    refine zz_iconst 26 X.1 (v := nI 0) dX7_write_26 rfl ?_
    refine zz_istore_n 27 X.1 (lv' := [(2, .int (nI 0)), (0, .ref (K 0)), (1, .int (nI s0))]) dX7_write_27 (by decide) rfl ?_
    have C28 : ∀ (d : Nat) (i : Nat) (wq : Nat) (gq : Nat → Int32) (hi : i ≤ 1024) (hg : (gq, wq) = wS (hM hs s0) i (upd (G 19) 0 (nI 123), 1)) (hd : 1024 - i < d), ZZ p l e rm_X7_write s m args below meth c 0 0 Q (zz_A (RAd K) s.heap.size) (RP D C K (upd (upd F 0 (nI 0)) 20 (nI wq)) hs mv (va_up G 19 gq)) 3 [(0, .ref (K 0)), (1, .int (nI s0)), (2, .int (nI i))] [] 28 := by
      intro d
      induction d with
      | zero => intro i wq gq hi hg hd; exact absurd hd (Nat.not_lt_zero _)
      | succ d ih28 =>
        intro i wq gq hi hg hd
        have hwb1 := wS_1 (q := hM hs s0) (g := upd (G 19) 0 (nI 123)) i
        have hwb2 := wS_2 (q := hM hs s0) (g := upd (G 19) 0 (nI 123)) i
        rw [← hg] at hwb1 hwb2
        unfold wB at hwb2
        replace hwb1 : 1 ≤ wq := hwb1
        replace hwb2 : wq ≤ 1 + 3 * i + (i - 10) + (i - 100) + (i - 1000) := hwb2
        refine zz_iload_n 28 X.1 2 dX7_write_28 rfl ?_
        refine zz_sipush 29 X.1 (v := nI 1024) dX7_write_29 rfl ?_
        refine zz_icmp_ge 32 84 X.1 (nI_toInt (by omega)) (nI_toInt (by omega)) dX7_write_32 (by decide) (fun h32 => ?_) (fun h32 => ?_)
        · skip
          refine zz_aload_n 84 X.1 0 dX7_write_84 rfl ?_
          refine zz_bipush 85 X.1 (v := nI 125) dX7_write_85 rfl ?_
          refine rr_callVv 87 X hml (As := [.int (nI 125)]) (kt_X7_writes l D C K hAp (upd (upd F 0 (nI 0)) 20 (nI wq)) hs mv (va_up G 19 gq) wq 125 (rfl) (by first | rfl | assumption | omega)) gX7_write_X7_writes rfl ⟨rfl, rfl⟩ yd_X7_writes ⟨Nat.le_of_ble_eq_true rfl, Nat.le_of_ble_eq_true rfl⟩ rfl rfl (Nat.le_of_ble_eq_true rfl) dX7_write_87 ?_
          rintro ⟨F3, hs3, mv3, G3⟩ hu3
          cases hu3
          refine zz_world (P' := (RP D C K (upd (upd F 0 (nI 0)) 20 (nI (wq + 1))) hs mv (va_up G 19 (upd gq wq (nI 125))))) (fun _ h => h) ?_
          refine zz_aload_n 90 X.1 0 dX7_write_90 rfl ?_
          refine rr_get 91 X 20 (by decide) (v := .int (nI (wq + 1))) rfl (by decide +kernel) rfl dX7_write_91 ?_
          have hT : wT (hM hs s0) (G 19) = (upd gq wq (nI 125), wq + 1) := by
              unfold wT
              rw [show w1 (G 19, 0) 123 = (upd (G 19) 0 (nI 123), 1) from rfl, show (1024 : Nat) = i by omega, ← hg]
              rfl
          rw [← hQ]
          refine zz_iret 94 X.1 hr rfl hlk (upd (upd F 0 (nI 0)) 20 (nI (wq + 1)), hs, mv, va_up G 19 (upd gq wq (nI 125))) ?_ (fun _ h _ => h) dX7_write_94
          exact ⟨by rw [hT], by rw [hT]⟩
        · skip
          refine zz_aload_n 35 X.1 0 dX7_write_35 rfl ?_
          refine rr_get 36 X 1 (by decide) (v := .ref (K 1)) rfl (by decide +kernel) rfl dX7_write_36 ?_
          refine zz_sipush 39 X.1 (v := nI 1024) dX7_write_39 rfl ?_
          refine zz_iload_n 42 X.1 1 dX7_write_42 rfl ?_
          refine zz_imul 43 X.1 (v := (nI (1024 * s0))) dX7_write_43 (pk_mul _ _) ?_
          refine zz_iload_n 44 X.1 2 dX7_write_44 rfl ?_
          refine zz_iadd 45 X.1 (v := (nI ((1024 * s0) + i))) dX7_write_45 (nI_add _ _) ?_
          refine rr_hld 46 X (by omega) dX7_write_46 ?_
          refine zz_ifB_ne 47 53 X.1 dX7_write_47 (by decide) (fun h47 => ?_) (fun h47 => ?_)
          · skip
            refine zz_aload_n 53 X.1 0 dX7_write_53 rfl ?_
            refine rr_get 54 X 20 (by decide) (v := .int (nI wq)) rfl (by decide +kernel) rfl dX7_write_54 ?_
            refine zz_iconst 57 X.1 (v := nI 1) dX7_write_57 rfl ?_
            refine zz_icmp_le 58 73 X.1 (nI_toInt (by omega)) (nI_toInt (by omega)) dX7_write_58 (by decide) (fun h58 => ?_) (fun h58 => ?_)
            · skip
              refine zz_aload_n 73 X.1 0 dX7_write_73 rfl ?_
              refine zz_iload_n 74 X.1 2 dX7_write_74 rfl ?_
              refine rr_callVv 75 X hml (As := [.int (nI i)]) (kt_X7_writesNumber l D C K hAp (upd (upd F 0 (nI 0)) 20 (nI wq)) hs mv (va_up G 19 gq) wq i (rfl) (by first | rfl | assumption | omega) (by first | rfl | assumption | omega)) gX7_write_X7_writesNumber rfl ⟨rfl, rfl⟩ yd_X7_writesNumber ⟨Nat.le_of_ble_eq_true rfl, Nat.le_of_ble_eq_true rfl⟩ rfl rfl (Nat.le_of_ble_eq_true rfl) dX7_write_75 ?_
              rintro ⟨F4, hs4, mv4, G4⟩ hu4
              cases hu4
              refine zz_world (P' := (RP D C K (upd (upd F 0 (nI 0)) 20 (nI ((wN i (gq, wq)).2))) hs mv (va_up G 19 ((wN i (gq, wq)).1)))) (fun _ h => h) ?_
              refine zz_iinc 78 X.1 2 (v := (nI (i + 1))) (lv' := [(2, .int (nI (i + 1))), (0, .ref (K 0)), (1, .int (nI s0))]) dX7_write_78 rfl (nI_add i 1) (by decide) rfl ?_
              refine zz_goto 81 28 X.1 dX7_write_81 (by decide) ?_
              refine zz_lvs [1, 2, 0] rfl ?_
              exact ih28 (i + 1) ((wN i (gq, wq)).2) ((wN i (gq, wq)).1) (by omega) (by first | (rw [wS, ← hg, if_neg (by rw [show hM hs s0 i = false from h47]; decide)]; done) | (rw [wS, ← hg, if_pos (show hM hs s0 i = true from h47)]; unfold wM; rw [if_pos (show 1 < wq by omega)]; rfl) | (rw [wS, ← hg, if_pos (show hM hs s0 i = true from h47)]; unfold wM; rw [if_neg (show ¬ 1 < wq by omega)])) (by omega)
            · skip
              refine zz_aload_n 61 X.1 0 dX7_write_61 rfl ?_
              refine zz_bipush 62 X.1 (v := nI 44) dX7_write_62 rfl ?_
              refine rr_callVv 64 X hml (As := [.int (nI 44)]) (kt_X7_writes l D C K hAp (upd (upd F 0 (nI 0)) 20 (nI wq)) hs mv (va_up G 19 gq) wq 44 (rfl) (by first | rfl | assumption | omega)) gX7_write_X7_writes rfl ⟨rfl, rfl⟩ yd_X7_writes ⟨Nat.le_of_ble_eq_true rfl, Nat.le_of_ble_eq_true rfl⟩ rfl rfl (Nat.le_of_ble_eq_true rfl) dX7_write_64 ?_
              rintro ⟨F5, hs5, mv5, G5⟩ hu5
              cases hu5
              refine zz_world (P' := (RP D C K (upd (upd F 0 (nI 0)) 20 (nI (wq + 1))) hs mv (va_up G 19 (upd gq wq (nI 44))))) (fun _ h => h) ?_
              refine zz_aload_n 67 X.1 0 dX7_write_67 rfl ?_
              refine zz_bipush 68 X.1 (v := nI 32) dX7_write_68 rfl ?_
              refine rr_callVv 70 X hml (As := [.int (nI 32)]) (kt_X7_writes l D C K hAp (upd (upd F 0 (nI 0)) 20 (nI (wq + 1))) hs mv (va_up G 19 (upd gq wq (nI 44))) (wq + 1) 32 (rfl) (by first | rfl | assumption | omega)) gX7_write_X7_writes rfl ⟨rfl, rfl⟩ yd_X7_writes ⟨Nat.le_of_ble_eq_true rfl, Nat.le_of_ble_eq_true rfl⟩ rfl rfl (Nat.le_of_ble_eq_true rfl) dX7_write_70 ?_
              rintro ⟨F6, hs6, mv6, G6⟩ hu6
              cases hu6
              refine zz_world (P' := (RP D C K (upd (upd F 0 (nI 0)) 20 (nI ((wq + 1) + 1))) hs mv (va_up G 19 (upd (upd gq wq (nI 44)) (wq + 1) (nI 32))))) (fun _ h => h) ?_
              refine zz_aload_n 73 X.1 0 dX7_write_73 rfl ?_
              refine zz_iload_n 74 X.1 2 dX7_write_74 rfl ?_
              refine rr_callVv 75 X hml (As := [.int (nI i)]) (kt_X7_writesNumber l D C K hAp (upd (upd F 0 (nI 0)) 20 (nI ((wq + 1) + 1))) hs mv (va_up G 19 (upd (upd gq wq (nI 44)) (wq + 1) (nI 32))) ((wq + 1) + 1) i (rfl) (by first | rfl | assumption | omega) (by first | rfl | assumption | omega)) gX7_write_X7_writesNumber rfl ⟨rfl, rfl⟩ yd_X7_writesNumber ⟨Nat.le_of_ble_eq_true rfl, Nat.le_of_ble_eq_true rfl⟩ rfl rfl (Nat.le_of_ble_eq_true rfl) dX7_write_75 ?_
              rintro ⟨F7, hs7, mv7, G7⟩ hu7
              cases hu7
              refine zz_world (P' := (RP D C K (upd (upd F 0 (nI 0)) 20 (nI ((wN i ((upd (upd gq wq (nI 44)) (wq + 1) (nI 32)), ((wq + 1) + 1))).2))) hs mv (va_up G 19 ((wN i ((upd (upd gq wq (nI 44)) (wq + 1) (nI 32)), ((wq + 1) + 1))).1)))) (fun _ h => h) ?_
              refine zz_iinc 78 X.1 2 (v := (nI (i + 1))) (lv' := [(2, .int (nI (i + 1))), (0, .ref (K 0)), (1, .int (nI s0))]) dX7_write_78 rfl (nI_add i 1) (by decide) rfl ?_
              refine zz_goto 81 28 X.1 dX7_write_81 (by decide) ?_
              refine zz_lvs [1, 2, 0] rfl ?_
              exact ih28 (i + 1) ((wN i ((upd (upd gq wq (nI 44)) (wq + 1) (nI 32)), ((wq + 1) + 1))).2) ((wN i ((upd (upd gq wq (nI 44)) (wq + 1) (nI 32)), ((wq + 1) + 1))).1) (by omega) (by first | (rw [wS, ← hg, if_neg (by rw [show hM hs s0 i = false from h47]; decide)]; done) | (rw [wS, ← hg, if_pos (show hM hs s0 i = true from h47)]; unfold wM; rw [if_pos (show 1 < wq by omega)]; rfl) | (rw [wS, ← hg, if_pos (show hM hs s0 i = true from h47)]; unfold wM; rw [if_neg (show ¬ 1 < wq by omega)])) (by omega)
          · skip
            refine zz_goto 50 78 X.1 dX7_write_50 (by decide) ?_
            refine zz_iinc 78 X.1 2 (v := (nI (i + 1))) (lv' := [(2, .int (nI (i + 1))), (0, .ref (K 0)), (1, .int (nI s0))]) dX7_write_78 rfl (nI_add i 1) (by decide) rfl ?_
            refine zz_goto 81 28 X.1 dX7_write_81 (by decide) ?_
            refine zz_lvs [1, 2, 0] rfl ?_
            exact ih28 (i + 1) wq gq (by omega) (by first | (rw [wS, ← hg, if_neg (by rw [show hM hs s0 i = false from h47]; decide)]; done) | (rw [wS, ← hg, if_pos (show hM hs s0 i = true from h47)]; unfold wM; rw [if_pos (show 1 < wq by omega)]; rfl) | (rw [wS, ← hg, if_pos (show hM hs s0 i = true from h47)]; unfold wM; rw [if_neg (show ¬ 1 < wq by omega)])) (by omega)
    refine zz_lvs [1, 2, 0] rfl ?_
    exact C28 (1024 - 0 + 1) 0 (0 + 1) (upd (G 19) 0 (nI 123)) (by omega) (rfl) (Nat.lt_succ_self _)
  · exact absurd h10 (by decide)

abbrev rm_X7_writtenAt : Room := { frames := 1, cells := 0, slots := 0, locals := 22 }
theorem yd_X7_writtenAt : yX7_writtenAt.cls = RX7 ∧ yX7_writtenAt.cls ≠ "java/lang/invoke/MethodHandle" ∧ yX7_writtenAt.cls ≠ "java/lang/invoke/VarHandle" ∧ (parseMethodDescriptor yX7_writtenAt.desc).map (fun d => d.parameters.length) = some 1 := by decide +kernel
set_option maxHeartbeats 4000000 in
set_option maxRecDepth 100000 in
theorem kt_X7_writtenAt_no (l : Launch) (D : va_G) (C : Nat → ClassId) (K : Nat → Nat) (hAp : RAp K) (F : Nat → Int32) (hs mv : Nat → Bool) (G : Nat → Nat → Int32) (w : Nat) (x0 : Int32) (a : Int) (h_a : x0.toInt = a) (hw : F 20 = nI w) (hw2 : w ≤ 5100) (hno : ¬ (0 ≤ a ∧ a < (w : Int))) : RMi l yX7_writtenAt wsX7_writtenAt rm_X7_writtenAt D C K [.int x0] F hs mv G (fun (r : Int32) (u : MSt) => r = (nI 0) ∧ u = (upd F 0 (nI 1), hs, mv, G)) := by
  refine RMi_of (lv := [(0, .ref (K 0)), (1, .int x0)]) (cc := cX7_writtenAt) (maxL := 2) (ret := (some .int)) rfl rfl (by decide +kernel) (Nat.le_of_ble_eq_true rfl) rfl ?_
  intro p e s m args below meth c X hml hr hlk
  generalize hQ : MQ below _ args s 0 0 _ = Q
  refine zz_aload_n 0 X.1 0 dX7_writtenAt_0 rfl ?_
  refine zz_iconst 1 X.1 (v := nI 0) dX7_writtenAt_1 rfl ?_
  refine rr_put 2 hAp X 0 (by decide) (F' := upd F 0 (nI 0)) rfl (by decide +kernel) ⟨rfl, rfl⟩ (by decide +kernel) dX7_writtenAt_2 ?_
  refine zz_aload_n 5 X.1 0 dX7_writtenAt_5 rfl ?_
  refine zz_iload_n 6 X.1 1 dX7_writtenAt_6 rfl ?_
  refine zz_iconst 7 X.1 (v := nI 0) dX7_writtenAt_7 rfl ?_
  refine zz_aload_n 8 X.1 0 dX7_writtenAt_8 rfl ?_
  refine rr_get 9 X 20 (by decide) (v := .int (F 20)) rfl (by decide +kernel) rfl dX7_writtenAt_9 ?_
  refine zz_topi (nI w) (hw) ?_
  refine zz_iconst 12 X.1 (v := nI 1) dX7_writtenAt_12 rfl ?_
  refine zz_isub 13 X.1 (v := (nI w - nI 1)) dX7_writtenAt_13 rfl ?_
  refine zz_callS0i 14 ⟨X.1.1, X.1.2, hml, X.2.2.2.1, X.2.1⟩ (fun q h => Or.inr h) RP_keep (As := [.int x0, .int (nI 0), .int (nI w - nI 1)]) (kt_X7_in l x0 (nI 0) (nI w - nI 1) a ((0 : Nat) : Int) (((w : Nat) : Int) - ((1 : Nat) : Int)) (h_a) (nI_toInt (by omega)) ((pk_sub_toInt (by omega) (by omega)))) gX7_writtenAt_X7_in rfl ⟨rfl, rfl⟩ yd_X7_in.2 ⟨Nat.le_of_ble_eq_true rfl, Nat.le_of_ble_eq_true rfl⟩ rfl rfl (Nat.le_of_ble_eq_true rfl) ⟨Nat.zero_le _, Nat.zero_le _⟩ dX7_writtenAt_14 ?_
  intro r1 hu1
  obtain rfl := (hu1.2 (by omega))
  refine zz_iconst 17 X.1 (v := nI 1) dX7_writtenAt_17 rfl ?_
  refine rr_callVi 18 X hml (As := [.int (bI false), .int (nI 1)]) (kt_X7_fails l D C K hAp (upd F 0 (nI 0)) hs mv G false 1 (by first | rfl | assumption | omega) (by first | rfl | assumption | omega)) gX7_writtenAt_X7_fails rfl ⟨rfl, rfl⟩ yd_X7_fails ⟨Nat.le_of_ble_eq_true rfl, Nat.le_of_ble_eq_true rfl⟩ rfl rfl (Nat.le_of_ble_eq_true rfl) dX7_writtenAt_18 ?_
  rintro r2 ⟨F2, hs2, mv2, G2⟩ hu2
  obtain ⟨rfl, hv2⟩ := (hu2.2 (rfl))
  cases hv2
  refine zz_world (P' := (RP D C K (upd F 0 (nI 1)) hs mv G)) (fun _ h => h) ?_
  refine zz_ifB_eq 21 28 X.1 dX7_writtenAt_21 (by decide) (fun h21 => ?_) (fun h21 => ?_)
  · exact absurd h21 (by decide)
  · skip
    refine zz_iconst 24 X.1 (v := nI 0) dX7_writtenAt_24 rfl ?_
    refine zz_goto 25 34 X.1 dX7_writtenAt_25 (by decide) ?_
    rw [← hQ]
    refine zz_iret 34 X.1 hr rfl hlk (upd F 0 (nI 1), hs, mv, G) ?_ (fun _ h _ => h) dX7_writtenAt_34
    exact ⟨rfl, rfl⟩

set_option maxHeartbeats 4000000 in
set_option maxRecDepth 100000 in
theorem kt_X7_writtenAt_ok (l : Launch) (D : va_G) (C : Nat → ClassId) (K : Nat → Nat) (hAp : RAp K) (F : Nat → Int32) (hs mv : Nat → Bool) (G : Nat → Nat → Int32) (w : Nat) (i0 : Nat) (hw : F 20 = nI w) (hw2 : w ≤ 5100) (hi0 : i0 < w) : RMi l yX7_writtenAt wsX7_writtenAt rm_X7_writtenAt D C K [.int (nI i0)] F hs mv G (fun (r : Int32) (u : MSt) => r = (G 19 i0) ∧ u = (upd F 0 (nI 0), hs, mv, G)) := by
  refine RMi_of (lv := [(0, .ref (K 0)), (1, .int (nI i0))]) (cc := cX7_writtenAt) (maxL := 2) (ret := (some .int)) rfl rfl (by decide +kernel) (Nat.le_of_ble_eq_true rfl) rfl ?_
  intro p e s m args below meth c X hml hr hlk
  generalize hQ : MQ below _ args s 0 0 _ = Q
  refine zz_aload_n 0 X.1 0 dX7_writtenAt_0 rfl ?_
  refine zz_iconst 1 X.1 (v := nI 0) dX7_writtenAt_1 rfl ?_
  refine rr_put 2 hAp X 0 (by decide) (F' := upd F 0 (nI 0)) rfl (by decide +kernel) ⟨rfl, rfl⟩ (by decide +kernel) dX7_writtenAt_2 ?_
  refine zz_aload_n 5 X.1 0 dX7_writtenAt_5 rfl ?_
  refine zz_iload_n 6 X.1 1 dX7_writtenAt_6 rfl ?_
  refine zz_iconst 7 X.1 (v := nI 0) dX7_writtenAt_7 rfl ?_
  refine zz_aload_n 8 X.1 0 dX7_writtenAt_8 rfl ?_
  refine rr_get 9 X 20 (by decide) (v := .int (F 20)) rfl (by decide +kernel) rfl dX7_writtenAt_9 ?_
  refine zz_topi (nI w) (hw) ?_
  refine zz_iconst 12 X.1 (v := nI 1) dX7_writtenAt_12 rfl ?_
  refine zz_isub 13 X.1 (v := (nI (w - 1))) dX7_writtenAt_13 (pk_sub (by omega)) ?_
  refine zz_callS0i 14 ⟨X.1.1, X.1.2, hml, X.2.2.2.1, X.2.1⟩ (fun q h => Or.inr h) RP_keep (As := [.int (nI i0), .int (nI 0), .int (nI (w - 1))]) (kt_X7_in l (nI i0) (nI 0) (nI (w - 1)) ((i0 : Nat) : Int) ((0 : Nat) : Int) ((w - 1 : Nat) : Int) (nI_toInt (by omega)) (nI_toInt (by omega)) (nI_toInt (by omega))) gX7_writtenAt_X7_in rfl ⟨rfl, rfl⟩ yd_X7_in.2 ⟨Nat.le_of_ble_eq_true rfl, Nat.le_of_ble_eq_true rfl⟩ rfl rfl (Nat.le_of_ble_eq_true rfl) ⟨Nat.zero_le _, Nat.zero_le _⟩ dX7_writtenAt_14 ?_
  intro r1 hu1
  obtain rfl := (hu1.1 (by omega))
  refine zz_iconst 17 X.1 (v := nI 1) dX7_writtenAt_17 rfl ?_
  refine rr_callVi 18 X hml (As := [.int (bI true), .int (nI 1)]) (kt_X7_fails l D C K hAp (upd F 0 (nI 0)) hs mv G true 1 (by first | rfl | assumption | omega) (by first | rfl | assumption | omega)) gX7_writtenAt_X7_fails rfl ⟨rfl, rfl⟩ yd_X7_fails ⟨Nat.le_of_ble_eq_true rfl, Nat.le_of_ble_eq_true rfl⟩ rfl rfl (Nat.le_of_ble_eq_true rfl) dX7_writtenAt_18 ?_
  rintro r2 ⟨F2, hs2, mv2, G2⟩ hu2
  obtain ⟨rfl, hv2⟩ := (hu2.1 (rfl))
  cases hv2
  refine zz_world (P' := (RP D C K (upd F 0 (nI 0)) hs mv G)) (fun _ h => h) ?_
  refine zz_ifB_eq 21 28 X.1 dX7_writtenAt_21 (by decide) (fun h21 => ?_) (fun h21 => ?_)
  · skip
    refine zz_aload_n 28 X.1 0 dX7_writtenAt_28 rfl ?_
    refine rr_get 29 X 19 (by decide) (v := .ref (K 19)) rfl (by decide +kernel) rfl dX7_writtenAt_29 ?_
    refine zz_iload_n 32 X.1 1 dX7_writtenAt_32 rfl ?_
    refine rr_iald 33 X 9 19 (len := 5100) (f := G 19) rfl (by omega) (by decide) dX7_writtenAt_33 ?_
    rw [← hQ]
    refine zz_iret 34 X.1 hr rfl hlk (upd F 0 (nI 0), hs, mv, G) ?_ (fun _ h _ => h) dX7_writtenAt_34
    exact ⟨rfl, rfl⟩
  · exact absurd h21 (by decide)
