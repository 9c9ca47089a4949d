abbrev rm_X7_next : Room := { frames := 2, cells := 0, slots := 0, locals := 43 }
theorem yd_X7_next : yX7_next.cls = RX7 ∧ yX7_next.cls ≠ "java/lang/invoke/MethodHandle" ∧ yX7_next.cls ≠ "java/lang/invoke/VarHandle" ∧ (parseMethodDescriptor yX7_next.desc).map (fun d => d.parameters.length) = some 2 := by decide +kernel
set_option maxHeartbeats 4000000 in
set_option maxRecDepth 100000 in
theorem kt_X7_next_no (l : Launch) (D : va_G) (C : Nat → ClassId) (K : Nat → Nat) (hAp : RAp K) (F : Nat → Int32) (hs mv : Nat → Bool) (G : Nat → Nat → Int32) (x0 : Int32) (x1 : Int32) (a : Int) (b : Int) (h_a : x0.toInt = a) (h_b : x1.toInt = b) (hno : ¬ ((0 ≤ a ∧ a < 8) ∧ 0 ≤ b)) : RMi l yX7_next wsX7_next rm_X7_next D C K [.int x0, .int x1] F hs mv G (fun (r : Int32) (u : MSt) => (¬ (0 ≤ a ∧ a < 8) → r = (nI 0) ∧ u = (upd F 0 (nI 1), hs, mv, G)) ∧ ((0 ≤ a ∧ a < 8) ∧ b < 0 → r = (nI 0) ∧ u = (upd (upd F 0 (nI 2)) 2 (F 2 + 1), hs, mv, G))) := by
  refine RMi_of (lv := [(0, .ref (K 0)), (1, .int x0), (2, .int x1)]) (cc := cX7_next) (maxL := 4) (ret := (some .int)) rfl rfl (by decide +kernel) (Nat.le_of_ble_eq_true rfl) rfl ?_
  intro p e s m args below meth c X hml hr hlk
  generalize hQ : MQ below _ args s 0 0 _ = Q
  refine zz_aload_n 0 X.1 0 dX7_next_0 rfl ?_
  refine zz_iconst 1 X.1 (v := nI 0) dX7_next_1 rfl ?_
  refine rr_put 2 hAp X 0 (by decide) (F' := upd F 0 (nI 0)) rfl (by decide +kernel) ⟨rfl, rfl⟩ (by decide +kernel) dX7_next_2 ?_
  refine zz_aload_n 5 X.1 0 dX7_next_5 rfl ?_
  refine zz_iload_n 6 X.1 1 dX7_next_6 rfl ?_
  refine rr_callVi 7 X hml (As := [.int x0]) (kt_X7_noSet l D C K hAp (upd F 0 (nI 0)) hs mv G x0 a (h_a) (by first | rfl | assumption | omega)) gX7_next_X7_noSet rfl ⟨rfl, rfl⟩ yd_X7_noSet ⟨Nat.le_of_ble_eq_true rfl, Nat.le_of_ble_eq_true rfl⟩ rfl rfl (Nat.le_of_ble_eq_true rfl) dX7_next_7 ?_
  rintro r1 ⟨F1, hs1, mv1, G1⟩ hu1
  rcases (show (0 ≤ a ∧ a < 8) ∨ (¬ (0 ≤ a ∧ a < 8)) by omega) with hc1 | hc1
  · skip
    obtain ⟨rfl, hv1⟩ := (hu1.1 hc1)
    cases hv1
    refine zz_world (P' := (RP D C K (upd F 0 (nI 0)) hs mv G)) (fun _ h => h) ?_
    refine zz_ifB_ne 10 22 X.1 dX7_next_10 (by decide) (fun h10 => ?_) (fun h10 => ?_)
    · exact absurd h10 (by decide)
    · skip
      refine zz_aload_n 13 X.1 0 dX7_next_13 rfl ?_
      refine zz_iload_n 14 X.1 2 dX7_next_14 rfl ?_
      refine zz_iconst 15 X.1 (v := nI 0) dX7_next_15 rfl ?_
      refine rr_callVi 16 X hml (As := [.int x1, .int (nI 0)]) (kt_X7_isBelow l D C K hAp (upd F 0 (nI 0)) hs mv G x1 (nI 0) b ((0 : Nat) : Int) (h_b) (nI_toInt (by omega)) (by first | rfl | assumption | omega)) gX7_next_X7_isBelow rfl ⟨rfl, rfl⟩ yd_X7_isBelow ⟨Nat.le_of_ble_eq_true rfl, Nat.le_of_ble_eq_true rfl⟩ rfl rfl (Nat.le_of_ble_eq_true rfl) dX7_next_16 ?_
      rintro r2 ⟨F2, hs2, mv2, G2⟩ hu2
      rcases (show (((0 : Nat) : Int) ≤ b) ∨ (b < ((0 : Nat) : Int)) by omega) with hc2 | hc2
      · exfalso; omega
      · skip
        obtain ⟨rfl, hv2⟩ := (hu2.2 hc2)
        cases hv2
        refine zz_world (P' := (RP D C K (upd (upd F 0 (nI 2)) 2 ((F 2) + 1)) hs mv G)) (fun _ h => h) ?_
        refine zz_ifB_eq 19 24 X.1 dX7_next_19 (by decide) (fun h19 => ?_) (fun h19 => ?_)
        · exact absurd h19 (by decide)
        · skip
          refine zz_iconst 22 X.1 (v := nI 0) dX7_next_22 rfl ?_
          rw [← hQ]
          refine zz_iret 23 X.1 hr rfl hlk (upd (upd F 0 (nI 2)) 2 ((F 2) + 1), hs, mv, G) ?_ (fun _ h _ => h) dX7_next_23
          refine ⟨fun hc => ?_, fun hc => ?_⟩ <;> first | (exact ⟨rfl, rfl⟩) | (exact rfl) | (exfalso; omega)
  · skip
    obtain ⟨rfl, hv1⟩ := (hu1.2 hc1)
    cases hv1
    refine zz_world (P' := (RP D C K (upd F 0 (nI 1)) hs mv G)) (fun _ h => h) ?_
    refine zz_ifB_ne 10 22 X.1 dX7_next_10 (by decide) (fun h10 => ?_) (fun h10 => ?_)
    · skip
      refine zz_iconst 22 X.1 (v := nI 0) dX7_next_22 rfl ?_
      rw [← hQ]
      refine zz_iret 23 X.1 hr rfl hlk (upd F 0 (nI 1), hs, mv, G) ?_ (fun _ h _ => h) dX7_next_23
      refine ⟨fun hc => ?_, fun hc => ?_⟩ <;> first | (exact ⟨rfl, rfl⟩) | (exact rfl) | (exfalso; omega)
    · exact absurd h10 (by decide)

abbrev rm_X7_nextMissing : Room := { frames := 2, cells := 0, slots := 0, locals := 43 }
theorem yd_X7_nextMissing : yX7_nextMissing.cls = RX7 ∧ yX7_nextMissing.cls ≠ "java/lang/invoke/MethodHandle" ∧ yX7_nextMissing.cls ≠ "java/lang/invoke/VarHandle" ∧ (parseMethodDescriptor yX7_nextMissing.desc).map (fun d => d.parameters.length) = some 2 := by decide +kernel
set_option maxHeartbeats 4000000 in
set_option maxRecDepth 100000 in
theorem kt_X7_nextMissing_no (l : Launch) (D : va_G) (C : Nat → ClassId) (K : Nat → Nat) (hAp : RAp K) (F : Nat → Int32) (hs mv : Nat → Bool) (G : Nat → Nat → Int32) (x0 : Int32) (x1 : Int32) (a : Int) (b : Int) (h_a : x0.toInt = a) (h_b : x1.toInt = b) (hno : ¬ ((0 ≤ a ∧ a < 8) ∧ 0 ≤ b)) : RMi l yX7_nextMissing wsX7_nextMissing rm_X7_nextMissing D C K [.int x0, .int x1] F hs mv G (fun (r : Int32) (u : MSt) => (¬ (0 ≤ a ∧ a < 8) → r = (nI 0) ∧ u = (upd F 0 (nI 1), hs, mv, G)) ∧ ((0 ≤ a ∧ a < 8) ∧ b < 0 → r = (nI 0) ∧ u = (upd (upd F 0 (nI 2)) 2 (F 2 + 1), hs, mv, G))) := by
  refine RMi_of (lv := [(0, .ref (K 0)), (1, .int x0), (2, .int x1)]) (cc := cX7_nextMissing) (maxL := 4) (ret := (some .int)) rfl rfl (by decide +kernel) (Nat.le_of_ble_eq_true rfl) rfl ?_
  intro p e s m args below meth c X hml hr hlk
  generalize hQ : MQ below _ args s 0 0 _ = Q
  refine zz_aload_n 0 X.1 0 dX7_nextMissing_0 rfl ?_
  refine zz_iconst 1 X.1 (v := nI 0) dX7_nextMissing_1 rfl ?_
  refine rr_put 2 hAp X 0 (by decide) (F' := upd F 0 (nI 0)) rfl (by decide +kernel) ⟨rfl, rfl⟩ (by decide +kernel) dX7_nextMissing_2 ?_
  refine zz_aload_n 5 X.1 0 dX7_nextMissing_5 rfl ?_
  refine zz_iload_n 6 X.1 1 dX7_nextMissing_6 rfl ?_
  refine rr_callVi 7 X hml (As := [.int x0]) (kt_X7_noSet l D C K hAp (upd F 0 (nI 0)) hs mv G x0 a (h_a) (by first | rfl | assumption | omega)) gX7_nextMissing_X7_noSet rfl ⟨rfl, rfl⟩ yd_X7_noSet ⟨Nat.le_of_ble_eq_true rfl, Nat.le_of_ble_eq_true rfl⟩ rfl rfl (Nat.le_of_ble_eq_true rfl) dX7_nextMissing_7 ?_
  rintro r1 ⟨F1, hs1, mv1, G1⟩ hu1
  rcases (show (0 ≤ a ∧ a < 8) ∨ (¬ (0 ≤ a ∧ a < 8)) by omega) with hc1 | hc1
  · skip
    obtain ⟨rfl, hv1⟩ := (hu1.1 hc1)
    cases hv1
    refine zz_world (P' := (RP D C K (upd F 0 (nI 0)) hs mv G)) (fun _ h => h) ?_
    refine zz_ifB_ne 10 22 X.1 dX7_nextMissing_10 (by decide) (fun h10 => ?_) (fun h10 => ?_)
    · exact absurd h10 (by decide)
    · skip
      refine zz_aload_n 13 X.1 0 dX7_nextMissing_13 rfl ?_
      refine zz_iload_n 14 X.1 2 dX7_nextMissing_14 rfl ?_
      refine zz_iconst 15 X.1 (v := nI 0) dX7_nextMissing_15 rfl ?_
      refine rr_callVi 16 X hml (As := [.int x1, .int (nI 0)]) (kt_X7_isBelow l D C K hAp (upd F 0 (nI 0)) hs mv G x1 (nI 0) b ((0 : Nat) : Int) (h_b) (nI_toInt (by omega)) (by first | rfl | assumption | omega)) gX7_nextMissing_X7_isBelow rfl ⟨rfl, rfl⟩ yd_X7_isBelow ⟨Nat.le_of_ble_eq_true rfl, Nat.le_of_ble_eq_true rfl⟩ rfl rfl (Nat.le_of_ble_eq_true rfl) dX7_nextMissing_16 ?_
      rintro r2 ⟨F2, hs2, mv2, G2⟩ hu2
      rcases (show (((0 : Nat) : Int) ≤ b) ∨ (b < ((0 : Nat) : Int)) by omega) with hc2 | hc2
      · exfalso; omega
      · skip
        obtain ⟨rfl, hv2⟩ := (hu2.2 hc2)
        cases hv2
        refine zz_world (P' := (RP D C K (upd (upd F 0 (nI 2)) 2 ((F 2) + 1)) hs mv G)) (fun _ h => h) ?_
        refine zz_ifB_eq 19 24 X.1 dX7_nextMissing_19 (by decide) (fun h19 => ?_) (fun h19 => ?_)
        · exact absurd h19 (by decide)
        · skip
          refine zz_iconst 22 X.1 (v := nI 0) dX7_nextMissing_22 rfl ?_
          rw [← hQ]
          refine zz_iret 23 X.1 hr rfl hlk (upd (upd F 0 (nI 2)) 2 ((F 2) + 1), hs, mv, G) ?_ (fun _ h _ => h) dX7_nextMissing_23
          refine ⟨fun hc => ?_, fun hc => ?_⟩ <;> first | (exact ⟨rfl, rfl⟩) | (exact rfl) | (exfalso; omega)
  · skip
    obtain ⟨rfl, hv1⟩ := (hu1.2 hc1)
    cases hv1
    refine zz_world (P' := (RP D C K (upd F 0 (nI 1)) hs mv G)) (fun _ h => h) ?_
    refine zz_ifB_ne 10 22 X.1 dX7_nextMissing_10 (by decide) (fun h10 => ?_) (fun h10 => ?_)
    · skip
      refine zz_iconst 22 X.1 (v := nI 0) dX7_nextMissing_22 rfl ?_
      rw [← hQ]
      refine zz_iret 23 X.1 hr rfl hlk (upd F 0 (nI 1), hs, mv, G) ?_ (fun _ h _ => h) dX7_nextMissing_23
      refine ⟨fun hc => ?_, fun hc => ?_⟩ <;> first | (exact ⟨rfl, rfl⟩) | (exact rfl) | (exfalso; omega)
    · exact absurd h10 (by decide)

abbrev rm_X7_previous : Room := { frames := 2, cells := 0, slots := 0, locals := 43 }
theorem yd_X7_previous : yX7_previous.cls = RX7 ∧ yX7_previous.cls ≠ "java/lang/invoke/MethodHandle" ∧ yX7_previous.cls ≠ "java/lang/invoke/VarHandle" ∧ (parseMethodDescriptor yX7_previous.desc).map (fun d => d.parameters.length) = some 2 := by decide +kernel
set_option maxHeartbeats 4000000 in
set_option maxRecDepth 100000 in
theorem kt_X7_previous_no (l : Launch) (D : va_G) (C : Nat → ClassId) (K : Nat → Nat) (hAp : RAp K) (F : Nat → Int32) (hs mv : Nat → Bool) (G : Nat → Nat → Int32) (x0 : Int32) (x1 : Int32) (a : Int) (b : Int) (h_a : x0.toInt = a) (h_b : x1.toInt = b) (hno : ¬ ((0 ≤ a ∧ a < 8) ∧ -1 ≤ b)) : RMi l yX7_previous wsX7_previous rm_X7_previous D C K [.int x0, .int x1] F hs mv G (fun (r : Int32) (u : MSt) => (¬ (0 ≤ a ∧ a < 8) → r = (nI 0) ∧ u = (upd F 0 (nI 1), hs, mv, G)) ∧ ((0 ≤ a ∧ a < 8) ∧ b < -1 → r = (nI 0) ∧ u = (upd (upd F 0 (nI 2)) 2 (F 2 + 1), hs, mv, G))) := by
  refine RMi_of (lv := [(0, .ref (K 0)), (1, .int x0), (2, .int x1)]) (cc := cX7_previous) (maxL := 4) (ret := (some .int)) rfl rfl (by decide +kernel) (Nat.le_of_ble_eq_true rfl) rfl ?_
  intro p e s m args below meth c X hml hr hlk
  generalize hQ : MQ below _ args s 0 0 _ = Q
  refine zz_aload_n 0 X.1 0 dX7_previous_0 rfl ?_
  refine zz_iconst 1 X.1 (v := nI 0) dX7_previous_1 rfl ?_
  refine rr_put 2 hAp X 0 (by decide) (F' := upd F 0 (nI 0)) rfl (by decide +kernel) ⟨rfl, rfl⟩ (by decide +kernel) dX7_previous_2 ?_
  refine zz_aload_n 5 X.1 0 dX7_previous_5 rfl ?_
  refine zz_iload_n 6 X.1 1 dX7_previous_6 rfl ?_
  refine rr_callVi 7 X hml (As := [.int x0]) (kt_X7_noSet l D C K hAp (upd F 0 (nI 0)) hs mv G x0 a (h_a) (by first | rfl | assumption | omega)) gX7_previous_X7_noSet rfl ⟨rfl, rfl⟩ yd_X7_noSet ⟨Nat.le_of_ble_eq_true rfl, Nat.le_of_ble_eq_true rfl⟩ rfl rfl (Nat.le_of_ble_eq_true rfl) dX7_previous_7 ?_
  rintro r1 ⟨F1, hs1, mv1, G1⟩ hu1
  rcases (show (0 ≤ a ∧ a < 8) ∨ (¬ (0 ≤ a ∧ a < 8)) by omega) with hc1 | hc1
  · skip
    obtain ⟨rfl, hv1⟩ := (hu1.1 hc1)
    cases hv1
    refine zz_world (P' := (RP D C K (upd F 0 (nI 0)) hs mv G)) (fun _ h => h) ?_
    refine zz_ifB_ne 10 22 X.1 dX7_previous_10 (by decide) (fun h10 => ?_) (fun h10 => ?_)
    · exact absurd h10 (by decide)
    · skip
      refine zz_aload_n 13 X.1 0 dX7_previous_13 rfl ?_
      refine zz_iload_n 14 X.1 2 dX7_previous_14 rfl ?_
      refine zz_iconst 15 X.1 (v := (-1)) dX7_previous_15 (by decide) ?_
      refine rr_callVi 16 X hml (As := [.int x1, .int (-1)]) (kt_X7_isBelow l D C K hAp (upd F 0 (nI 0)) hs mv G x1 (-1) b (-1) (h_b) ((by decide : (-1 : Int32).toInt = -1)) (by first | rfl | assumption | omega)) gX7_previous_X7_isBelow rfl ⟨rfl, rfl⟩ yd_X7_isBelow ⟨Nat.le_of_ble_eq_true rfl, Nat.le_of_ble_eq_true rfl⟩ rfl rfl (Nat.le_of_ble_eq_true rfl) dX7_previous_16 ?_
      rintro r2 ⟨F2, hs2, mv2, G2⟩ hu2
      rcases (show ((-1) ≤ b) ∨ (b < (-1)) by omega) with hc2 | hc2
      · exfalso; omega
      · skip
        obtain ⟨rfl, hv2⟩ := (hu2.2 hc2)
        cases hv2
        refine zz_world (P' := (RP D C K (upd (upd F 0 (nI 2)) 2 ((F 2) + 1)) hs mv G)) (fun _ h => h) ?_
        refine zz_ifB_eq 19 24 X.1 dX7_previous_19 (by decide) (fun h19 => ?_) (fun h19 => ?_)
        · exact absurd h19 (by decide)
        · skip
          refine zz_iconst 22 X.1 (v := nI 0) dX7_previous_22 rfl ?_
          rw [← hQ]
          refine zz_iret 23 X.1 hr rfl hlk (upd (upd F 0 (nI 2)) 2 ((F 2) + 1), hs, mv, G) ?_ (fun _ h _ => h) dX7_previous_23
          refine ⟨fun hc => ?_, fun hc => ?_⟩ <;> first | (exact ⟨rfl, rfl⟩) | (exact rfl) | (exfalso; omega)
  · skip
    obtain ⟨rfl, hv1⟩ := (hu1.2 hc1)
    cases hv1
    refine zz_world (P' := (RP D C K (upd F 0 (nI 1)) hs mv G)) (fun _ h => h) ?_
    refine zz_ifB_ne 10 22 X.1 dX7_previous_10 (by decide) (fun h10 => ?_) (fun h10 => ?_)
    · skip
      refine zz_iconst 22 X.1 (v := nI 0) dX7_previous_22 rfl ?_
      rw [← hQ]
      refine zz_iret 23 X.1 hr rfl hlk (upd F 0 (nI 1), hs, mv, G) ?_ (fun _ h _ => h) dX7_previous_23
      refine ⟨fun hc => ?_, fun hc => ?_⟩ <;> first | (exact ⟨rfl, rfl⟩) | (exact rfl) | (exfalso; omega)
    · exact absurd h10 (by decide)

abbrev rm_X7_previousMissing : Room := { frames := 2, cells := 0, slots := 0, locals := 43 }
theorem yd_X7_previousMissing : yX7_previousMissing.cls = RX7 ∧ yX7_previousMissing.cls ≠ "java/lang/invoke/MethodHandle" ∧ yX7_previousMissing.cls ≠ "java/lang/invoke/VarHandle" ∧ (parseMethodDescriptor yX7_previousMissing.desc).map (fun d => d.parameters.length) = some 2 := by decide +kernel
set_option maxHeartbeats 4000000 in
set_option maxRecDepth 100000 in
theorem kt_X7_previousMissing_no (l : Launch) (D : va_G) (C : Nat → ClassId) (K : Nat → Nat) (hAp : RAp K) (F : Nat → Int32) (hs mv : Nat → Bool) (G : Nat → Nat → Int32) (x0 : Int32) (x1 : Int32) (a : Int) (b : Int) (h_a : x0.toInt = a) (h_b : x1.toInt = b) (hno : ¬ ((0 ≤ a ∧ a < 8) ∧ -1 ≤ b)) : RMi l yX7_previousMissing wsX7_previousMissing rm_X7_previousMissing D C K [.int x0, .int x1] F hs mv G (fun (r : Int32) (u : MSt) => (¬ (0 ≤ a ∧ a < 8) → r = (nI 0) ∧ u = (upd F 0 (nI 1), hs, mv, G)) ∧ ((0 ≤ a ∧ a < 8) ∧ b < -1 → r = (nI 0) ∧ u = (upd (upd F 0 (nI 2)) 2 (F 2 + 1), hs, mv, G))) := by
  refine RMi_of (lv := [(0, .ref (K 0)), (1, .int x0), (2, .int x1)]) (cc := cX7_previousMissing) (maxL := 4) (ret := (some .int)) rfl rfl (by decide +kernel) (Nat.le_of_ble_eq_true rfl) rfl ?_
  intro p e s m args below meth c X hml hr hlk
  generalize hQ : MQ below _ args s 0 0 _ = Q
  refine zz_aload_n 0 X.1 0 dX7_previousMissing_0 rfl ?_
  refine zz_iconst 1 X.1 (v := nI 0) dX7_previousMissing_1 rfl ?_
  refine rr_put 2 hAp X 0 (by decide) (F' := upd F 0 (nI 0)) rfl (by decide +kernel) ⟨rfl, rfl⟩ (by decide +kernel) dX7_previousMissing_2 ?_
  refine zz_aload_n 5 X.1 0 dX7_previousMissing_5 rfl ?_
  refine zz_iload_n 6 X.1 1 dX7_previousMissing_6 rfl ?_
  refine rr_callVi 7 X hml (As := [.int x0]) (kt_X7_noSet l D C K hAp (upd F 0 (nI 0)) hs mv G x0 a (h_a) (by first | rfl | assumption | omega)) gX7_previousMissing_X7_noSet rfl ⟨rfl, rfl⟩ yd_X7_noSet ⟨Nat.le_of_ble_eq_true rfl, Nat.le_of_ble_eq_true rfl⟩ rfl rfl (Nat.le_of_ble_eq_true rfl) dX7_previousMissing_7 ?_
  rintro r1 ⟨F1, hs1, mv1, G1⟩ hu1
  rcases (show (0 ≤ a ∧ a < 8) ∨ (¬ (0 ≤ a ∧ a < 8)) by omega) with hc1 | hc1
  · skip
    obtain ⟨rfl, hv1⟩ := (hu1.1 hc1)
    cases hv1
    refine zz_world (P' := (RP D C K (upd F 0 (nI 0)) hs mv G)) (fun _ h => h) ?_
    refine zz_ifB_ne 10 22 X.1 dX7_previousMissing_10 (by decide) (fun h10 => ?_) (fun h10 => ?_)
    · exact absurd h10 (by decide)
    · skip
      refine zz_aload_n 13 X.1 0 dX7_previousMissing_13 rfl ?_
      refine zz_iload_n 14 X.1 2 dX7_previousMissing_14 rfl ?_
      refine zz_iconst 15 X.1 (v := (-1)) dX7_previousMissing_15 (by decide) ?_
      refine rr_callVi 16 X hml (As := [.int x1, .int (-1)]) (kt_X7_isBelow l D C K hAp (upd F 0 (nI 0)) hs mv G x1 (-1) b (-1) (h_b) ((by decide : (-1 : Int32).toInt = -1)) (by first | rfl | assumption | omega)) gX7_previousMissing_X7_isBelow rfl ⟨rfl, rfl⟩ yd_X7_isBelow ⟨Nat.le_of_ble_eq_true rfl, Nat.le_of_ble_eq_true rfl⟩ rfl rfl (Nat.le_of_ble_eq_true rfl) dX7_previousMissing_16 ?_
      rintro r2 ⟨F2, hs2, mv2, G2⟩ hu2
      rcases (show ((-1) ≤ b) ∨ (b < (-1)) by omega) with hc2 | hc2
      · exfalso; omega
      · skip
        obtain ⟨rfl, hv2⟩ := (hu2.2 hc2)
        cases hv2
        refine zz_world (P' := (RP D C K (upd (upd F 0 (nI 2)) 2 ((F 2) + 1)) hs mv G)) (fun _ h => h) ?_
        refine zz_ifB_eq 19 24 X.1 dX7_previousMissing_19 (by decide) (fun h19 => ?_) (fun h19 => ?_)
        · exact absurd h19 (by decide)
        · skip
          refine zz_iconst 22 X.1 (v := nI 0) dX7_previousMissing_22 rfl ?_
          rw [← hQ]
          refine zz_iret 23 X.1 hr rfl hlk (upd (upd F 0 (nI 2)) 2 ((F 2) + 1), hs, mv, G) ?_ (fun _ h _ => h) dX7_previousMissing_23
          refine ⟨fun hc => ?_, fun hc => ?_⟩ <;> first | (exact ⟨rfl, rfl⟩) | (exact rfl) | (exfalso; omega)
  · skip
    obtain ⟨rfl, hv1⟩ := (hu1.2 hc1)
    cases hv1
    refine zz_world (P' := (RP D C K (upd F 0 (nI 1)) hs mv G)) (fun _ h => h) ?_
    refine zz_ifB_ne 10 22 X.1 dX7_previousMissing_10 (by decide) (fun h10 => ?_) (fun h10 => ?_)
    · skip
      refine zz_iconst 22 X.1 (v := nI 0) dX7_previousMissing_22 rfl ?_
      rw [← hQ]
      refine zz_iret 23 X.1 hr rfl hlk (upd F 0 (nI 1), hs, mv, G) ?_ (fun _ h _ => h) dX7_previousMissing_23
      refine ⟨fun hc => ?_, fun hc => ?_⟩ <;> first | (exact ⟨rfl, rfl⟩) | (exact rfl) | (exfalso; omega)
    · exact absurd h10 (by decide)

set_option maxHeartbeats 4000000 in
set_option maxRecDepth 100000 in
theorem kt_X7_next_ok (l : Launch) (D : va_G) (C : Nat → ClassId) (K : Nat → Nat) (hAp : RAp K) (F : Nat → Int32) (hs mv : Nat → Bool) (G : Nat → Nat → Int32) (s0 : Nat) (i0 : Nat) (hs0 : s0 < 8) (hi0 : i0 < 2 ^ 31) : RMi l yX7_next wsX7_next rm_X7_next D C K [.int (nI s0), .int (nI i0)] F hs mv G (fun (r : Int32) (u : MSt) => r = (nx (hM hs s0) i0) ∧ u = (upd F 0 (nI 0), hs, mv, G)) := by
  refine RMi_of (lv := [(0, .ref (K 0)), (1, .int (nI s0)), (2, .int (nI i0))]) (cc := cX7_next) (maxL := 4) (ret := (some .int)) rfl rfl (by decide +kernel) (Nat.le_of_ble_eq_true rfl) rfl ?_
  intro p e s m args below meth c X hml hr hlk
  generalize hQ : MQ below _ args s 0 0 _ = Q
  refine zz_aload_n 0 X.1 0 dX7_next_0 rfl ?_
  refine zz_iconst 1 X.1 (v := nI 0) dX7_next_1 rfl ?_
  refine rr_put 2 hAp X 0 (by decide) (F' := upd F 0 (nI 0)) rfl (by decide +kernel) ⟨rfl, rfl⟩ (by decide +kernel) dX7_next_2 ?_
  refine zz_aload_n 5 X.1 0 dX7_next_5 rfl ?_
  refine zz_iload_n 6 X.1 1 dX7_next_6 rfl ?_
  refine rr_callVi 7 X hml (As := [.int (nI s0)]) (kt_X7_noSet l D C K hAp (upd F 0 (nI 0)) hs mv G (nI s0) ((s0 : Nat) : Int) (nI_toInt (by omega)) (by first | rfl | assumption | omega)) gX7_next_X7_noSet rfl ⟨rfl, rfl⟩ yd_X7_noSet ⟨Nat.le_of_ble_eq_true rfl, Nat.le_of_ble_eq_true rfl⟩ rfl rfl (Nat.le_of_ble_eq_true rfl) dX7_next_7 ?_
  rintro r1 ⟨F1, hs1, mv1, G1⟩ hu1
  obtain ⟨rfl, hv1⟩ := (hu1.1 (by omega))
  cases hv1
  refine zz_world (P' := (RP D C K (upd F 0 (nI 0)) hs mv G)) (fun _ h => h) ?_
  refine zz_ifB_ne 10 22 X.1 dX7_next_10 (by decide) (fun h10 => ?_) (fun h10 => ?_)
  · exact absurd h10 (by decide)
  · skip
    refine zz_aload_n 13 X.1 0 dX7_next_13 rfl ?_
    refine zz_iload_n 14 X.1 2 dX7_next_14 rfl ?_
    refine zz_iconst 15 X.1 (v := nI 0) dX7_next_15 rfl ?_
    refine rr_callVi 16 X hml (As := [.int (nI i0), .int (nI 0)]) (kt_X7_isBelow l D C K hAp (upd F 0 (nI 0)) hs mv G (nI i0) (nI 0) ((i0 : Nat) : Int) ((0 : Nat) : Int) (nI_toInt (by omega)) (nI_toInt (by omega)) (by first | rfl | assumption | omega)) gX7_next_X7_isBelow rfl ⟨rfl, rfl⟩ yd_X7_isBelow ⟨Nat.le_of_ble_eq_true rfl, Nat.le_of_ble_eq_true rfl⟩ rfl rfl (Nat.le_of_ble_eq_true rfl) dX7_next_16 ?_
    rintro r2 ⟨F2, hs2, mv2, G2⟩ hu2
    obtain ⟨rfl, hv2⟩ := (hu2.1 (by omega))
    cases hv2
    refine zz_world (P' := (RP D C K (upd F 0 (nI 0)) hs mv G)) (fun _ h => h) ?_
    refine zz_ifB_eq 19 24 X.1 dX7_next_19 (by decide) (fun h19 => ?_) (fun h19 => ?_)
    · skip
      refine zz_iload_n 24 X.1 2 dX7_next_24 rfl ?_
      refine zz_istore_n 25 X.1 (lv' := [(3, .int (nI i0)), (0, .ref (K 0)), (1, .int (nI s0)), (2, .int (nI i0))]) dX7_next_25 (by decide) rfl ?_
      have C26 : ∀ (d : Nat) (i : Nat) (hi : i0 ≤ i ∧ (i ≤ 1024 ∨ i = i0)) (hz : ∀ k, i0 ≤ k → k < i → k < 1024 → hM hs s0 k = false) (hd : 1024 - i < d), ZZ p l e rm_X7_next s m args below meth c 0 0 Q (zz_A (RAd K) s.heap.size) (RP D C K (upd F 0 (nI 0)) hs mv G) 4 [(0, .ref (K 0)), (1, .int (nI s0)), (3, .int (nI i))] [] 26 := by
        intro d
        induction d with
        | zero => intro i hi hz hd; exact absurd hd (Nat.not_lt_zero _)
        | succ d ih26 =>
          intro i hi hz hd
          refine zz_iload_n 26 X.1 2 dX7_next_26 rfl ?_
          refine zz_sipush 27 X.1 (v := nI 1024) dX7_next_27 rfl ?_
          refine zz_icmp_ge 30 56 X.1 (nI_toInt (by omega)) (nI_toInt (by omega)) dX7_next_30 (by decide) (fun h30 => ?_) (fun h30 => ?_)
          · skip
            refine zz_iconst 56 X.1 (v := (-1)) dX7_next_56 (by decide) ?_
            rw [← hQ]
            refine zz_iret 57 X.1 hr rfl hlk (upd F 0 (nI 0), hs, mv, G) ?_ (fun _ h _ => h) dX7_next_57
            exact ⟨(nx_no (fun k h1 h2 => hz k h1 (by omega) h2)).symm, rfl⟩
          · skip
            refine zz_aload_n 33 X.1 0 dX7_next_33 rfl ?_
            refine rr_get 34 X 1 (by decide) (v := .ref (K 1)) rfl (by decide +kernel) rfl dX7_next_34 ?_
            refine zz_sipush 37 X.1 (v := nI 1024) dX7_next_37 rfl ?_
            refine zz_iload_n 40 X.1 1 dX7_next_40 rfl ?_
            refine zz_imul 41 X.1 (v := (nI (1024 * s0))) dX7_next_41 (pk_mul _ _) ?_
            refine zz_iload_n 42 X.1 2 dX7_next_42 rfl ?_
            refine zz_iadd 43 X.1 (v := (nI ((1024 * s0) + i))) dX7_next_43 (nI_add _ _) ?_
            refine rr_hld 44 X (by omega) dX7_next_44 ?_
            refine zz_ifB_eq 45 50 X.1 dX7_next_45 (by decide) (fun h45 => ?_) (fun h45 => ?_)
            · skip
              refine zz_iinc 50 X.1 2 (v := (nI (i + 1))) (lv' := [(3, .int (nI (i + 1))), (0, .ref (K 0)), (1, .int (nI s0))]) dX7_next_50 rfl (nI_add i 1) (by decide) rfl ?_
              refine zz_goto 53 26 X.1 dX7_next_53 (by decide) ?_
              refine zz_lvs [1, 2, 0] rfl ?_
              exact ih26 (i + 1) (by omega) (fun k h1 h2 h3 => by rcases Nat.lt_or_ge k i with z | z; exact hz k h1 z h3; rw [show k = i by omega]; exact h45) (by omega)
            · skip
              refine zz_iload_n 48 X.1 2 dX7_next_48 rfl ?_
              rw [← hQ]
              refine zz_iret 49 X.1 hr rfl hlk (upd F 0 (nI 0), hs, mv, G) ?_ (fun _ h _ => h) dX7_next_49
              exact ⟨(nx_at (q := hM hs s0) (j := i) h45 (by omega) (by omega) (fun k h1 h2 => hz k h1 h2 (by omega))).symm, rfl⟩
      refine zz_lvs [1, 2, 0] rfl ?_
      exact C26 (1024 - i0 + 1) i0 (by omega) (fun k h1 h2 _ => by omega) (Nat.lt_succ_self _)
    · exact absurd h19 (by decide)

set_option maxHeartbeats 4000000 in
set_option maxRecDepth 100000 in
theorem kt_X7_nextMissing_ok (l : Launch) (D : va_G) (C : Nat → ClassId) (K : Nat → Nat) (hAp : RAp K) (F : Nat → Int32) (hs mv : Nat → Bool) (G : Nat → Nat → Int32) (s0 : Nat) (i0 : Nat) (hs0 : s0 < 8) (hi0 : i0 < 2 ^ 31) : RMi l yX7_nextMissing wsX7_nextMissing rm_X7_nextMissing D C K [.int (nI s0), .int (nI i0)] F hs mv G (fun (r : Int32) (u : MSt) => r = (nI (gm (hM hs s0) i0)) ∧ u = (upd F 0 (nI 0), hs, mv, G)) := by
  refine RMi_of (lv := [(0, .ref (K 0)), (1, .int (nI s0)), (2, .int (nI i0))]) (cc := cX7_nextMissing) (maxL := 4) (ret := (some .int)) rfl rfl (by decide +kernel) (Nat.le_of_ble_eq_true rfl) rfl ?_
  intro p e s m args below meth c X hml hr hlk
  generalize hQ : MQ below _ args s 0 0 _ = Q
  refine zz_aload_n 0 X.1 0 dX7_nextMissing_0 rfl ?_
  refine zz_iconst 1 X.1 (v := nI 0) dX7_nextMissing_1 rfl ?_
  refine rr_put 2 hAp X 0 (by decide) (F' := upd F 0 (nI 0)) rfl (by decide +kernel) ⟨rfl, rfl⟩ (by decide +kernel) dX7_nextMissing_2 ?_
  refine zz_aload_n 5 X.1 0 dX7_nextMissing_5 rfl ?_
  refine zz_iload_n 6 X.1 1 dX7_nextMissing_6 rfl ?_
  refine rr_callVi 7 X hml (As := [.int (nI s0)]) (kt_X7_noSet l D C K hAp (upd F 0 (nI 0)) hs mv G (nI s0) ((s0 : Nat) : Int) (nI_toInt (by omega)) (by first | rfl | assumption | omega)) gX7_nextMissing_X7_noSet rfl ⟨rfl, rfl⟩ yd_X7_noSet ⟨Nat.le_of_ble_eq_true rfl, Nat.le_of_ble_eq_true rfl⟩ rfl rfl (Nat.le_of_ble_eq_true rfl) dX7_nextMissing_7 ?_
  rintro r1 ⟨F1, hs1, mv1, G1⟩ hu1
  obtain ⟨rfl, hv1⟩ := (hu1.1 (by omega))
  cases hv1
  refine zz_world (P' := (RP D C K (upd F 0 (nI 0)) hs mv G)) (fun _ h => h) ?_
  refine zz_ifB_ne 10 22 X.1 dX7_nextMissing_10 (by decide) (fun h10 => ?_) (fun h10 => ?_)
  · exact absurd h10 (by decide)
  · skip
    refine zz_aload_n 13 X.1 0 dX7_nextMissing_13 rfl ?_
    refine zz_iload_n 14 X.1 2 dX7_nextMissing_14 rfl ?_
    refine zz_iconst 15 X.1 (v := nI 0) dX7_nextMissing_15 rfl ?_
    refine rr_callVi 16 X hml (As := [.int (nI i0), .int (nI 0)]) (kt_X7_isBelow l D C K hAp (upd F 0 (nI 0)) hs mv G (nI i0) (nI 0) ((i0 : Nat) : Int) ((0 : Nat) : Int) (nI_toInt (by omega)) (nI_toInt (by omega)) (by first | rfl | assumption | omega)) gX7_nextMissing_X7_isBelow rfl ⟨rfl, rfl⟩ yd_X7_isBelow ⟨Nat.le_of_ble_eq_true rfl, Nat.le_of_ble_eq_true rfl⟩ rfl rfl (Nat.le_of_ble_eq_true rfl) dX7_nextMissing_16 ?_
    rintro r2 ⟨F2, hs2, mv2, G2⟩ hu2
    obtain ⟨rfl, hv2⟩ := (hu2.1 (by omega))
    cases hv2
    refine zz_world (P' := (RP D C K (upd F 0 (nI 0)) hs mv G)) (fun _ h => h) ?_
    refine zz_ifB_eq 19 24 X.1 dX7_nextMissing_19 (by decide) (fun h19 => ?_) (fun h19 => ?_)
    · skip
      refine zz_iload_n 24 X.1 2 dX7_nextMissing_24 rfl ?_
      refine zz_istore_n 25 X.1 (lv' := [(3, .int (nI i0)), (0, .ref (K 0)), (1, .int (nI s0)), (2, .int (nI i0))]) dX7_nextMissing_25 (by decide) rfl ?_
      have C26 : ∀ (d : Nat) (i : Nat) (hi : i0 ≤ i ∧ (i ≤ 1024 ∨ i = i0)) (hz : ∀ k, i0 ≤ k → k < i → hM hs s0 k = true) (hd : 1024 - i < d), ZZ p l e rm_X7_nextMissing s m args below meth c 0 0 Q (zz_A (RAd K) s.heap.size) (RP D C K (upd F 0 (nI 0)) hs mv G) 4 [(0, .ref (K 0)), (1, .int (nI s0)), (3, .int (nI i))] [] 26 := by
        intro d
        induction d with
        | zero => intro i hi hz hd; exact absurd hd (Nat.not_lt_zero _)
        | succ d ih26 =>
          intro i hi hz hd
          refine zz_aload_n 26 X.1 0 dX7_nextMissing_26 rfl ?_
          refine zz_iload_n 27 X.1 1 dX7_nextMissing_27 rfl ?_
          refine zz_iload_n 28 X.1 2 dX7_nextMissing_28 rfl ?_
          refine rr_callVi 29 X hml (As := [.int (nI s0), .int (nI i)]) (kt_X7_isIn l D C K hAp (upd F 0 (nI 0)) hs mv G s0 i (by first | rfl | assumption | omega) (by first | rfl | assumption | omega)) gX7_nextMissing_X7_isIn rfl ⟨rfl, rfl⟩ yd_X7_isIn ⟨Nat.le_of_ble_eq_true rfl, Nat.le_of_ble_eq_true rfl⟩ rfl rfl (Nat.le_of_ble_eq_true rfl) dX7_nextMissing_29 ?_
          rintro r3 ⟨F3, hs3, mv3, G3⟩ hu3
          obtain ⟨rfl, hv3⟩ := hu3
          cases hv3
          refine zz_world (P' := (RP D C K (upd F 0 (nI 0)) hs mv G)) (fun _ h => h) ?_
          refine zz_ifB_eq 32 41 X.1 dX7_nextMissing_32 (by decide) (fun h32 => ?_) (fun h32 => ?_)
          · skip
            refine zz_iload_n 41 X.1 2 dX7_nextMissing_41 rfl ?_
            rw [← hQ]
            refine zz_iret 42 X.1 hr rfl hlk (upd F 0 (nI 0), hs, mv, G) ?_ (fun _ h _ => h) dX7_nextMissing_42
            refine ⟨?_, rfl⟩
            rw [gm_at (j := i) (by omega) (by omega) (fun h => by have := h32; simp [h] at this; exact this) (fun k h1 h2 => hz k h1 h2)]
          · skip
            refine zz_iinc 35 X.1 2 (v := (nI (i + 1))) (lv' := [(3, .int (nI (i + 1))), (0, .ref (K 0)), (1, .int (nI s0))]) dX7_nextMissing_35 rfl (nI_add i 1) (by decide) rfl ?_
            refine zz_goto 38 26 X.1 dX7_nextMissing_38 (by decide) ?_
            refine zz_lvs [1, 2, 0] rfl ?_
            exact ih26 (i + 1) ((by have := (Bool.and_eq_true_iff.mp h32).1; have := of_decide_eq_true this; omega)) (fun k h1 h2 => by rcases Nat.lt_or_ge k i with z | z; exact hz k h1 z; rw [show k = i by omega]; exact (Bool.and_eq_true_iff.mp h32).2) ((by have := (Bool.and_eq_true_iff.mp h32).1; have := of_decide_eq_true this; omega))
      refine zz_lvs [1, 2, 0] rfl ?_
      exact C26 (1024 - i0 + 1) i0 (by omega) (fun k h1 h2 => by omega) (Nat.lt_succ_self _)
    · exact absurd h19 (by decide)

set_option maxHeartbeats 4000000 in
set_option maxRecDepth 100000 in
theorem kt_X7_previous_ok (l : Launch) (D : va_G) (C : Nat → ClassId) (K : Nat → Nat) (hAp : RAp K) (F : Nat → Int32) (hs mv : Nat → Bool) (G : Nat → Nat → Int32) (s0 : Nat) (x1 : Int32) (m0 : Nat) (b : Int) (h_b : x1.toInt = b) (hs0 : s0 < 8) (hm : b = (m0 : Int) - 1) : RMi l yX7_previous wsX7_previous rm_X7_previous D C K [.int (nI s0), .int x1] F hs mv G (fun (r : Int32) (u : MSt) => r = (nI (ln (hM hs s0) (min m0 1024)) - 1) ∧ u = (upd F 0 (nI 0), hs, mv, G)) := by
  refine RMi_of (lv := [(0, .ref (K 0)), (1, .int (nI s0)), (2, .int x1)]) (cc := cX7_previous) (maxL := 4) (ret := (some .int)) rfl rfl (by decide +kernel) (Nat.le_of_ble_eq_true rfl) rfl ?_
  intro p e s m args below meth c X hml hr hlk
  generalize hQ : MQ below _ args s 0 0 _ = Q
  refine zz_aload_n 0 X.1 0 dX7_previous_0 rfl ?_
  refine zz_iconst 1 X.1 (v := nI 0) dX7_previous_1 rfl ?_
  refine rr_put 2 hAp X 0 (by decide) (F' := upd F 0 (nI 0)) rfl (by decide +kernel) ⟨rfl, rfl⟩ (by decide +kernel) dX7_previous_2 ?_
  have hlt := Int32.toInt_lt x1
  refine zz_aload_n 5 X.1 0 dX7_previous_5 rfl ?_
  refine zz_iload_n 6 X.1 1 dX7_previous_6 rfl ?_
  refine rr_callVi 7 X hml (As := [.int (nI s0)]) (kt_X7_noSet l D C K hAp (upd F 0 (nI 0)) hs mv G (nI s0) ((s0 : Nat) : Int) (nI_toInt (by omega)) (by first | rfl | assumption | omega)) gX7_previous_X7_noSet rfl ⟨rfl, rfl⟩ yd_X7_noSet ⟨Nat.le_of_ble_eq_true rfl, Nat.le_of_ble_eq_true rfl⟩ rfl rfl (Nat.le_of_ble_eq_true rfl) dX7_previous_7 ?_
  rintro r1 ⟨F1, hs1, mv1, G1⟩ hu1
  obtain ⟨rfl, hv1⟩ := (hu1.1 (by omega))
  cases hv1
  refine zz_world (P' := (RP D C K (upd F 0 (nI 0)) hs mv G)) (fun _ h => h) ?_
  refine zz_ifB_ne 10 22 X.1 dX7_previous_10 (by decide) (fun h10 => ?_) (fun h10 => ?_)
  · exact absurd h10 (by decide)
  · skip
    refine zz_aload_n 13 X.1 0 dX7_previous_13 rfl ?_
    refine zz_iload_n 14 X.1 2 dX7_previous_14 rfl ?_
    refine zz_iconst 15 X.1 (v := (-1)) dX7_previous_15 (by decide) ?_
    refine rr_callVi 16 X hml (As := [.int x1, .int (-1)]) (kt_X7_isBelow l D C K hAp (upd F 0 (nI 0)) hs mv G x1 (-1) b (-1) (h_b) ((by decide : (-1 : Int32).toInt = -1)) (by first | rfl | assumption | omega)) gX7_previous_X7_isBelow rfl ⟨rfl, rfl⟩ yd_X7_isBelow ⟨Nat.le_of_ble_eq_true rfl, Nat.le_of_ble_eq_true rfl⟩ rfl rfl (Nat.le_of_ble_eq_true rfl) dX7_previous_16 ?_
    rintro r2 ⟨F2, hs2, mv2, G2⟩ hu2
    obtain ⟨rfl, hv2⟩ := (hu2.1 (by omega))
    cases hv2
    refine zz_world (P' := (RP D C K (upd F 0 (nI 0)) hs mv G)) (fun _ h => h) ?_
    refine zz_ifB_eq 19 24 X.1 dX7_previous_19 (by decide) (fun h19 => ?_) (fun h19 => ?_)
    · skip
      refine zz_iload_n 24 X.1 2 dX7_previous_24 rfl ?_
      refine zz_sipush 25 X.1 (v := nI 1024) dX7_previous_25 rfl ?_
      refine zz_icmp_ge 28 35 X.1 h_b (nI_toInt (by omega)) dX7_previous_28 (by decide) (fun h28 => ?_) (fun h28 => ?_)
      · skip
        refine zz_sipush 35 X.1 (v := nI 1023) dX7_previous_35 rfl ?_
        refine zz_istore_n 38 X.1 (lv' := [(3, .int (nI 1023)), (0, .ref (K 0)), (1, .int (nI s0)), (2, .int x1)]) dX7_previous_38 (by decide) rfl ?_
        have C39 : ∀ (d : Nat) (j : Nat) (x3 : Int32) (hj : j ≤ (min m0 1024)) (hx : x3.toInt = (j : Int) - 1) (hz : ∀ k, j ≤ k → k < (min m0 1024) → hM hs s0 k = false) (hd : j < d), ZZ p l e rm_X7_previous s m args below meth c 0 0 Q (zz_A (RAd K) s.heap.size) (RP D C K (upd F 0 (nI 0)) hs mv G) 4 [(0, .ref (K 0)), (1, .int (nI s0)), (3, .int x3)] [] 39 := by
          intro d
          induction d with
          | zero => intro j x3 hj hx hz hd; exact absurd hd (Nat.not_lt_zero _)
          | succ d ih39 =>
            intro j x3 hj hx hz hd
            refine zz_iload_n 39 X.1 2 dX7_previous_39 rfl ?_
            refine zz_if_lt 40 64 X.1 hx dX7_previous_40 (by decide) (fun h40 => ?_) (fun h40 => ?_)
            · skip
              refine zz_iload_n 64 X.1 2 dX7_previous_64 rfl ?_
              rw [← hQ]
              refine zz_iret 65 X.1 hr rfl hlk (upd F 0 (nI 0), hs, mv, G) ?_ (fun _ h _ => h) dX7_previous_65
              refine ⟨?_, rfl⟩
              first | (rw [ln_down (m := j) hj hz, show j = 0 by omega]; exact zi_pm (k := 0) (by decide) (by rw [hx]; omega)) | (rw [ln_down (m := jj + 1) hj hz, ln_here (q := hM hs s0) (n := jj) h55, nI_pred])
            · skip
              obtain ⟨jj, rfl⟩ : ∃ jj, j = jj + 1 := ⟨j - 1, by omega⟩
              obtain rfl : x3 = nI jj := zi_of (by omega)
              refine zz_aload_n 43 X.1 0 dX7_previous_43 rfl ?_
              refine rr_get 44 X 1 (by decide) (v := .ref (K 1)) rfl (by decide +kernel) rfl dX7_previous_44 ?_
              refine zz_sipush 47 X.1 (v := nI 1024) dX7_previous_47 rfl ?_
              refine zz_iload_n 50 X.1 1 dX7_previous_50 rfl ?_
              refine zz_imul 51 X.1 (v := (nI (1024 * s0))) dX7_previous_51 (pk_mul _ _) ?_
              refine zz_iload_n 52 X.1 2 dX7_previous_52 rfl ?_
              refine zz_iadd 53 X.1 (v := (nI ((1024 * s0) + jj))) dX7_previous_53 (nI_add _ _) ?_
              refine rr_hld 54 X (by omega) dX7_previous_54 ?_
              refine zz_ifB_ne 55 64 X.1 dX7_previous_55 (by decide) (fun h55 => ?_) (fun h55 => ?_)
              · skip
                refine zz_iload_n 64 X.1 2 dX7_previous_64 rfl ?_
                rw [← hQ]
                refine zz_iret 65 X.1 hr rfl hlk (upd F 0 (nI 0), hs, mv, G) ?_ (fun _ h _ => h) dX7_previous_65
                refine ⟨?_, rfl⟩
                first | (rw [ln_down (m := j) hj hz, show j = 0 by omega]; exact zi_pm (k := 0) (by decide) (by rw [hx]; omega)) | (rw [ln_down (m := jj + 1) hj hz, ln_here (q := hM hs s0) (n := jj) h55, nI_pred])
              · skip
                refine zz_iinc 58 X.1 2 (v := (nI jj + (-1))) (lv' := [(3, .int (nI jj + (-1))), (0, .ref (K 0)), (1, .int (nI s0))]) dX7_previous_58 rfl rfl (by decide) rfl ?_
                refine zz_goto 61 39 X.1 dX7_previous_61 (by decide) ?_
                refine zz_lvs [1, 2, 0] rfl ?_
                exact ih39 jj (nI jj + (-1)) (by omega) (zi_decN (by omega)) (fun k h1 h2 => by rcases Nat.lt_or_ge jj k with z | z; exact hz k z h2; rw [show k = jj by omega]; exact h55) (by omega)
        refine zz_lvs [1, 2, 0] rfl ?_
        exact C39 ((min m0 1024) + 1) (min m0 1024) (nI 1023) (by omega) (by first | (rw [h_b]; omega) | (rw [nI_toInt (by omega)]; omega)) (fun k h1 h2 => by omega) (Nat.lt_succ_self _)
      · skip
        refine zz_iload_n 31 X.1 2 dX7_previous_31 rfl ?_
        refine zz_goto 32 38 X.1 dX7_previous_32 (by decide) ?_
        refine zz_istore_n 38 X.1 (lv' := [(3, .int x1), (0, .ref (K 0)), (1, .int (nI s0)), (2, .int x1)]) dX7_previous_38 (by decide) rfl ?_
        have C39 : ∀ (d : Nat) (j : Nat) (x3 : Int32) (hj : j ≤ (min m0 1024)) (hx : x3.toInt = (j : Int) - 1) (hz : ∀ k, j ≤ k → k < (min m0 1024) → hM hs s0 k = false) (hd : j < d), ZZ p l e rm_X7_previous s m args below meth c 0 0 Q (zz_A (RAd K) s.heap.size) (RP D C K (upd F 0 (nI 0)) hs mv G) 4 [(0, .ref (K 0)), (1, .int (nI s0)), (3, .int x3)] [] 39 := by
          intro d
          induction d with
          | zero => intro j x3 hj hx hz hd; exact absurd hd (Nat.not_lt_zero _)
          | succ d ih39 =>
            intro j x3 hj hx hz hd
            refine zz_iload_n 39 X.1 2 dX7_previous_39 rfl ?_
            refine zz_if_lt 40 64 X.1 hx dX7_previous_40 (by decide) (fun h40 => ?_) (fun h40 => ?_)
            · skip
              refine zz_iload_n 64 X.1 2 dX7_previous_64 rfl ?_
              rw [← hQ]
              refine zz_iret 65 X.1 hr rfl hlk (upd F 0 (nI 0), hs, mv, G) ?_ (fun _ h _ => h) dX7_previous_65
              refine ⟨?_, rfl⟩
              first | (rw [ln_down (m := j) hj hz, show j = 0 by omega]; exact zi_pm (k := 0) (by decide) (by rw [hx]; omega)) | (rw [ln_down (m := jj + 1) hj hz, ln_here (q := hM hs s0) (n := jj) h55, nI_pred])
            · skip
              obtain ⟨jj, rfl⟩ : ∃ jj, j = jj + 1 := ⟨j - 1, by omega⟩
              obtain rfl : x3 = nI jj := zi_of (by omega)
              refine zz_aload_n 43 X.1 0 dX7_previous_43 rfl ?_
              refine rr_get 44 X 1 (by decide) (v := .ref (K 1)) rfl (by decide +kernel) rfl dX7_previous_44 ?_
              refine zz_sipush 47 X.1 (v := nI 1024) dX7_previous_47 rfl ?_
              refine zz_iload_n 50 X.1 1 dX7_previous_50 rfl ?_
              refine zz_imul 51 X.1 (v := (nI (1024 * s0))) dX7_previous_51 (pk_mul _ _) ?_
              refine zz_iload_n 52 X.1 2 dX7_previous_52 rfl ?_
              refine zz_iadd 53 X.1 (v := (nI ((1024 * s0) + jj))) dX7_previous_53 (nI_add _ _) ?_
              refine rr_hld 54 X (by omega) dX7_previous_54 ?_
              refine zz_ifB_ne 55 64 X.1 dX7_previous_55 (by decide) (fun h55 => ?_) (fun h55 => ?_)
              · skip
                refine zz_iload_n 64 X.1 2 dX7_previous_64 rfl ?_
                rw [← hQ]
                refine zz_iret 65 X.1 hr rfl hlk (upd F 0 (nI 0), hs, mv, G) ?_ (fun _ h _ => h) dX7_previous_65
                refine ⟨?_, rfl⟩
                first | (rw [ln_down (m := j) hj hz, show j = 0 by omega]; exact zi_pm (k := 0) (by decide) (by rw [hx]; omega)) | (rw [ln_down (m := jj + 1) hj hz, ln_here (q := hM hs s0) (n := jj) h55, nI_pred])
              · skip
                refine zz_iinc 58 X.1 2 (v := (nI jj + (-1))) (lv' := [(3, .int (nI jj + (-1))), (0, .ref (K 0)), (1, .int (nI s0))]) dX7_previous_58 rfl rfl (by decide) rfl ?_
                refine zz_goto 61 39 X.1 dX7_previous_61 (by decide) ?_
                refine zz_lvs [1, 2, 0] rfl ?_
                exact ih39 jj (nI jj + (-1)) (by omega) (zi_decN (by omega)) (fun k h1 h2 => by rcases Nat.lt_or_ge jj k with z | z; exact hz k z h2; rw [show k = jj by omega]; exact h55) (by omega)
        refine zz_lvs [1, 2, 0] rfl ?_
        exact C39 ((min m0 1024) + 1) (min m0 1024) x1 (by omega) (by first | (rw [h_b]; omega) | (rw [nI_toInt (by omega)]; omega)) (fun k h1 h2 => by omega) (Nat.lt_succ_self _)
    · exact absurd h19 (by decide)

set_option maxHeartbeats 4000000 in
set_option maxRecDepth 100000 in
theorem kt_X7_previousMissing_ok (l : Launch) (D : va_G) (C : Nat → ClassId) (K : Nat → Nat) (hAp : RAp K) (F : Nat → Int32) (hs mv : Nat → Bool) (G : Nat → Nat → Int32) (s0 : Nat) (x1 : Int32) (m0 : Nat) (b : Int) (h_b : x1.toInt = b) (hs0 : s0 < 8) (hm : b = (m0 : Int) - 1) : RMi l yX7_previousMissing wsX7_previousMissing rm_X7_previousMissing D C K [.int (nI s0), .int x1] F hs mv G (fun (r : Int32) (u : MSt) => r = (pmv (hM hs s0) m0) ∧ u = (upd F 0 (nI 0), hs, mv, G)) := by
  refine RMi_of (lv := [(0, .ref (K 0)), (1, .int (nI s0)), (2, .int x1)]) (cc := cX7_previousMissing) (maxL := 4) (ret := (some .int)) rfl rfl (by decide +kernel) (Nat.le_of_ble_eq_true rfl) rfl ?_
  intro p e s m args below meth c X hml hr hlk
  generalize hQ : MQ below _ args s 0 0 _ = Q
  refine zz_aload_n 0 X.1 0 dX7_previousMissing_0 rfl ?_
  refine zz_iconst 1 X.1 (v := nI 0) dX7_previousMissing_1 rfl ?_
  refine rr_put 2 hAp X 0 (by decide) (F' := upd F 0 (nI 0)) rfl (by decide +kernel) ⟨rfl, rfl⟩ (by decide +kernel) dX7_previousMissing_2 ?_
  have hlt := Int32.toInt_lt x1
  refine zz_aload_n 5 X.1 0 dX7_previousMissing_5 rfl ?_
  refine zz_iload_n 6 X.1 1 dX7_previousMissing_6 rfl ?_
  refine rr_callVi 7 X hml (As := [.int (nI s0)]) (kt_X7_noSet l D C K hAp (upd F 0 (nI 0)) hs mv G (nI s0) ((s0 : Nat) : Int) (nI_toInt (by omega)) (by first | rfl | assumption | omega)) gX7_previousMissing_X7_noSet rfl ⟨rfl, rfl⟩ yd_X7_noSet ⟨Nat.le_of_ble_eq_true rfl, Nat.le_of_ble_eq_true rfl⟩ rfl rfl (Nat.le_of_ble_eq_true rfl) dX7_previousMissing_7 ?_
  rintro r1 ⟨F1, hs1, mv1, G1⟩ hu1
  obtain ⟨rfl, hv1⟩ := (hu1.1 (by omega))
  cases hv1
  refine zz_world (P' := (RP D C K (upd F 0 (nI 0)) hs mv G)) (fun _ h => h) ?_
  refine zz_ifB_ne 10 22 X.1 dX7_previousMissing_10 (by decide) (fun h10 => ?_) (fun h10 => ?_)
  · exact absurd h10 (by decide)
  · skip
    refine zz_aload_n 13 X.1 0 dX7_previousMissing_13 rfl ?_
    refine zz_iload_n 14 X.1 2 dX7_previousMissing_14 rfl ?_
    refine zz_iconst 15 X.1 (v := (-1)) dX7_previousMissing_15 (by decide) ?_
    refine rr_callVi 16 X hml (As := [.int x1, .int (-1)]) (kt_X7_isBelow l D C K hAp (upd F 0 (nI 0)) hs mv G x1 (-1) b (-1) (h_b) ((by decide : (-1 : Int32).toInt = -1)) (by first | rfl | assumption | omega)) gX7_previousMissing_X7_isBelow rfl ⟨rfl, rfl⟩ yd_X7_isBelow ⟨Nat.le_of_ble_eq_true rfl, Nat.le_of_ble_eq_true rfl⟩ rfl rfl (Nat.le_of_ble_eq_true rfl) dX7_previousMissing_16 ?_
    rintro r2 ⟨F2, hs2, mv2, G2⟩ hu2
    obtain ⟨rfl, hv2⟩ := (hu2.1 (by omega))
    cases hv2
    refine zz_world (P' := (RP D C K (upd F 0 (nI 0)) hs mv G)) (fun _ h => h) ?_
    refine zz_ifB_eq 19 24 X.1 dX7_previousMissing_19 (by decide) (fun h19 => ?_) (fun h19 => ?_)
    · skip
      refine zz_iload_n 24 X.1 2 dX7_previousMissing_24 rfl ?_
      refine zz_istore_n 25 X.1 (lv' := [(3, .int x1), (0, .ref (K 0)), (1, .int (nI s0)), (2, .int x1)]) dX7_previousMissing_25 (by decide) rfl ?_
      have C26 : ∀ (d : Nat) (j : Nat) (x3 : Int32) (hj : j ≤ m0 ∧ (j = m0 ∨ m0 ≤ 1024)) (hx : x3.toInt = (j : Int) - 1) (hz : ∀ k, j ≤ k → k < m0 → (!hM hs s0 k) = false) (hd : j < d), ZZ p l e rm_X7_previousMissing s m args below meth c 0 0 Q (zz_A (RAd K) s.heap.size) (RP D C K (upd F 0 (nI 0)) hs mv G) 4 [(0, .ref (K 0)), (1, .int (nI s0)), (3, .int x3)] [] 26 := by
        intro d
        induction d with
        | zero => intro j x3 hj hx hz hd; exact absurd hd (Nat.not_lt_zero _)
        | succ d ih26 =>
          intro j x3 hj hx hz hd
          refine zz_iload_n 26 X.1 2 dX7_previousMissing_26 rfl ?_
          refine zz_if_lt 27 45 X.1 hx dX7_previousMissing_27 (by decide) (fun h27 => ?_) (fun h27 => ?_)
          · skip
            refine zz_iload_n 45 X.1 2 dX7_previousMissing_45 rfl ?_
            rw [← hQ]
            refine zz_iret 46 X.1 hr rfl hlk (upd F 0 (nI 0), hs, mv, G) ?_ (fun _ h _ => h) dX7_previousMissing_46
            refine ⟨?_, rfl⟩
            unfold pmv
            by_cases hbig : 1024 < m0
            · rw [if_pos hbig]
              first | (rw [show m0 = jj + 1 by omega, nI_pred]) | (exact zi_pm (by omega) (by omega))
            · rw [if_neg hbig]
              first | (rw [ln_down (m := j) hj.1 hz, show j = 0 by omega]; exact zi_pm (k := 0) (by decide) (by rw [hx]; omega)) | (rw [ln_down (m := jj + 1) hj.1 hz, ln_here (by have := h36; simp [show jj < 1024 by omega] at this; simp [hM, this]), nI_pred])
          · skip
            obtain ⟨jj, rfl⟩ : ∃ jj, j = jj + 1 := ⟨j - 1, by omega⟩
            obtain rfl : x3 = nI jj := zi_of (by omega)
            refine zz_aload_n 30 X.1 0 dX7_previousMissing_30 rfl ?_
            refine zz_iload_n 31 X.1 1 dX7_previousMissing_31 rfl ?_
            refine zz_iload_n 32 X.1 2 dX7_previousMissing_32 rfl ?_
            refine rr_callVi 33 X hml (As := [.int (nI s0), .int (nI jj)]) (kt_X7_isIn l D C K hAp (upd F 0 (nI 0)) hs mv G s0 jj (by first | rfl | assumption | omega) (by first | rfl | assumption | omega)) gX7_previousMissing_X7_isIn rfl ⟨rfl, rfl⟩ yd_X7_isIn ⟨Nat.le_of_ble_eq_true rfl, Nat.le_of_ble_eq_true rfl⟩ rfl rfl (Nat.le_of_ble_eq_true rfl) dX7_previousMissing_33 ?_
            rintro r3 ⟨F3, hs3, mv3, G3⟩ hu3
            obtain ⟨rfl, hv3⟩ := hu3
            cases hv3
            refine zz_world (P' := (RP D C K (upd F 0 (nI 0)) hs mv G)) (fun _ h => h) ?_
            refine zz_ifB_eq 36 45 X.1 dX7_previousMissing_36 (by decide) (fun h36 => ?_) (fun h36 => ?_)
            · skip
              refine zz_iload_n 45 X.1 2 dX7_previousMissing_45 rfl ?_
              rw [← hQ]
              refine zz_iret 46 X.1 hr rfl hlk (upd F 0 (nI 0), hs, mv, G) ?_ (fun _ h _ => h) dX7_previousMissing_46
              refine ⟨?_, rfl⟩
              unfold pmv
              by_cases hbig : 1024 < m0
              · rw [if_pos hbig]
                first | (rw [show m0 = jj + 1 by omega, nI_pred]) | (exact zi_pm (by omega) (by omega))
              · rw [if_neg hbig]
                first | (rw [ln_down (m := j) hj.1 hz, show j = 0 by omega]; exact zi_pm (k := 0) (by decide) (by rw [hx]; omega)) | (rw [ln_down (m := jj + 1) hj.1 hz, ln_here (by have := h36; simp [show jj < 1024 by omega] at this; simp [hM, this]), nI_pred])
            · skip
              refine zz_iinc 39 X.1 2 (v := (nI jj + (-1))) (lv' := [(3, .int (nI jj + (-1))), (0, .ref (K 0)), (1, .int (nI s0))]) dX7_previousMissing_39 rfl rfl (by decide) rfl ?_
              refine zz_goto 42 26 X.1 dX7_previousMissing_42 (by decide) ?_
              refine zz_lvs [1, 2, 0] rfl ?_
              exact ih26 jj (nI jj + (-1)) (by have := of_decide_eq_true (Bool.and_eq_true_iff.mp h36).1; omega) (zi_decN (by omega)) (fun k h1 h2 => by rcases Nat.lt_or_ge jj k with z | z; exact hz k z h2; rw [show k = jj by omega]; exact congrArg (fun b => !b) (Bool.and_eq_true_iff.mp h36).2) (by omega)
      refine zz_lvs [1, 2, 0] rfl ?_
      exact C26 (m0 + 1) m0 x1 (by omega) (by rw [h_b]; omega) (fun k h1 h2 => by omega) (Nat.lt_succ_self _)
    · exact absurd h19 (by decide)

abbrev rm_X7_memberAt : Room := { frames := 2, cells := 0, slots := 0, locals := 43 }
theorem yd_X7_memberAt : yX7_memberAt.cls = RX7 ∧ yX7_memberAt.cls ≠ "java/lang/invoke/MethodHandle" ∧ yX7_memberAt.cls ≠ "java/lang/invoke/VarHandle" ∧ (parseMethodDescriptor yX7_memberAt.desc).map (fun d => d.parameters.length) = some 2 := by decide +kernel
set_option maxHeartbeats 4000000 in
set_option maxRecDepth 100000 in
theorem kt_X7_memberAt_no (l : Launch) (D : va_G) (C : Nat → ClassId) (K : Nat → Nat) (hAp : RAp K) (F : Nat → Int32) (hs mv : Nat → Bool) (G : Nat → Nat → Int32) (x0 : Int32) (x1 : Int32) (a : Int) (h_a : x0.toInt = a) (hno : ¬ (0 ≤ a ∧ a < 8)) : RMi l yX7_memberAt wsX7_memberAt rm_X7_memberAt D C K [.int x0, .int x1] F hs mv G (fun (r : Int32) (u : MSt) => r = (nI 0) ∧ u = (upd F 0 (nI 1), hs, mv, G)) := by
  refine RMi_of (lv := [(0, .ref (K 0)), (1, .int x0), (2, .int x1)]) (cc := cX7_memberAt) (maxL := 5) (ret := (some .int)) rfl rfl (by decide +kernel) (Nat.le_of_ble_eq_true rfl) rfl ?_
  intro p e s m args below meth c X hml hr hlk
  generalize hQ : MQ below _ args s 0 0 _ = Q
  refine zz_aload_n 0 X.1 0 dX7_memberAt_0 rfl ?_
  refine zz_iconst 1 X.1 (v := nI 0) dX7_memberAt_1 rfl ?_
  refine rr_put 2 hAp X 0 (by decide) (F' := upd F 0 (nI 0)) rfl (by decide +kernel) ⟨rfl, rfl⟩ (by decide +kernel) dX7_memberAt_2 ?_
  refine zz_aload_n 5 X.1 0 dX7_memberAt_5 rfl ?_
  refine zz_iload_n 6 X.1 1 dX7_memberAt_6 rfl ?_
  refine rr_callVi 7 X hml (As := [.int x0]) (kt_X7_noSet l D C K hAp (upd F 0 (nI 0)) hs mv G x0 a (h_a) (by first | rfl | assumption | omega)) gX7_memberAt_X7_noSet rfl ⟨rfl, rfl⟩ yd_X7_noSet ⟨Nat.le_of_ble_eq_true rfl, Nat.le_of_ble_eq_true rfl⟩ rfl rfl (Nat.le_of_ble_eq_true rfl) dX7_memberAt_7 ?_
  rintro r1 ⟨F1, hs1, mv1, G1⟩ hu1
  rcases (show (0 ≤ a ∧ a < 8) ∨ (¬ (0 ≤ a ∧ a < 8)) by omega) with hc1 | hc1
  · exfalso; omega
  · skip
    obtain ⟨rfl, hv1⟩ := (hu1.2 hc1)
    cases hv1
    refine zz_world (P' := (RP D C K (upd F 0 (nI 1)) hs mv G)) (fun _ h => h) ?_
    refine zz_ifB_eq 10 15 X.1 dX7_memberAt_10 (by decide) (fun h10 => ?_) (fun h10 => ?_)
    · exact absurd h10 (by decide)
    · skip
      refine zz_iconst 13 X.1 (v := nI 0) dX7_memberAt_13 rfl ?_
      rw [← hQ]
      refine zz_iret 14 X.1 hr rfl hlk (upd F 0 (nI 1), hs, mv, G) ?_ (fun _ h _ => h) dX7_memberAt_14
      exact ⟨rfl, rfl⟩

abbrev rm_X7_sum : Room := { frames := 2, cells := 0, slots := 0, locals := 43 }
theorem yd_X7_sum : yX7_sum.cls = RX7 ∧ yX7_sum.cls ≠ "java/lang/invoke/MethodHandle" ∧ yX7_sum.cls ≠ "java/lang/invoke/VarHandle" ∧ (parseMethodDescriptor yX7_sum.desc).map (fun d => d.parameters.length) = some 1 := by decide +kernel
set_option maxHeartbeats 4000000 in
set_option maxRecDepth 100000 in
theorem kt_X7_sum_no (l : Launch) (D : va_G) (C : Nat → ClassId) (K : Nat → Nat) (hAp : RAp K) (F : Nat → Int32) (hs mv : Nat → Bool) (G : Nat → Nat → Int32) (x0 : Int32) (a : Int) (h_a : x0.toInt = a) (hno : ¬ (0 ≤ a ∧ a < 8)) : RMl l yX7_sum wsX7_sum rm_X7_sum D C K [.int x0] F hs mv G (fun (r : Int64) (u : MSt) => r = 0 ∧ u = (upd F 0 (nI 1), hs, mv, G)) := by
  refine RMl_of (lv := [(0, .ref (K 0)), (1, .int x0)]) (cc := cX7_sum) (maxL := 5) (ret := (some .long)) rfl rfl (by decide +kernel) (Nat.le_of_ble_eq_true rfl) rfl ?_
  intro p e s m args below meth c X hml hr hlk
  generalize hQ : MQ below _ args s 0 0 _ = Q
  refine zz_aload_n 0 X.1 0 dX7_sum_0 rfl ?_
  refine zz_iconst 1 X.1 (v := nI 0) dX7_sum_1 rfl ?_
  refine rr_put 2 hAp X 0 (by decide) (F' := upd F 0 (nI 0)) rfl (by decide +kernel) ⟨rfl, rfl⟩ (by decide +kernel) dX7_sum_2 ?_
  refine zz_aload_n 5 X.1 0 dX7_sum_5 rfl ?_
  refine zz_iload_n 6 X.1 1 dX7_sum_6 rfl ?_
  refine rr_callVi 7 X hml (As := [.int x0]) (kt_X7_noSet l D C K hAp (upd F 0 (nI 0)) hs mv G x0 a (h_a) (by first | rfl | assumption | omega)) gX7_sum_X7_noSet rfl ⟨rfl, rfl⟩ yd_X7_noSet ⟨Nat.le_of_ble_eq_true rfl, Nat.le_of_ble_eq_true rfl⟩ rfl rfl (Nat.le_of_ble_eq_true rfl) dX7_sum_7 ?_
  rintro r1 ⟨F1, hs1, mv1, G1⟩ hu1
  rcases (show (0 ≤ a ∧ a < 8) ∨ (¬ (0 ≤ a ∧ a < 8)) by omega) with hc1 | hc1
  · exfalso; omega
  · skip
    obtain ⟨rfl, hv1⟩ := (hu1.2 hc1)
    cases hv1
    refine zz_world (P' := (RP D C K (upd F 0 (nI 1)) hs mv G)) (fun _ h => h) ?_
    refine zz_ifB_eq 10 15 X.1 dX7_sum_10 (by decide) (fun h10 => ?_) (fun h10 => ?_)
    · exact absurd h10 (by decide)
    · skip
      refine zz_lconst 13 X.1 (v := 0) dX7_sum_13 (by decide) ?_
      rw [← hQ]
      refine zz_lret 14 X.1 hr hlk (upd F 0 (nI 1), hs, mv, G) ?_ (fun _ h _ => h) dX7_sum_14
      exact ⟨rfl, rfl⟩

abbrev rm_X7_runs : Room := { frames := 2, cells := 0, slots := 0, locals := 43 }
theorem yd_X7_runs : yX7_runs.cls = RX7 ∧ yX7_runs.cls ≠ "java/lang/invoke/MethodHandle" ∧ yX7_runs.cls ≠ "java/lang/invoke/VarHandle" ∧ (parseMethodDescriptor yX7_runs.desc).map (fun d => d.parameters.length) = some 1 := by decide +kernel
set_option maxHeartbeats 4000000 in
set_option maxRecDepth 100000 in
theorem kt_X7_runs_no (l : Launch) (D : va_G) (C : Nat → ClassId) (K : Nat → Nat) (hAp : RAp K) (F : Nat → Int32) (hs mv : Nat → Bool) (G : Nat → Nat → Int32) (x0 : Int32) (a : Int) (h_a : x0.toInt = a) (hno : ¬ (0 ≤ a ∧ a < 8)) : RMi l yX7_runs wsX7_runs rm_X7_runs D C K [.int x0] F hs mv G (fun (r : Int32) (u : MSt) => r = (nI 0) ∧ u = (upd F 0 (nI 1), hs, mv, G)) := by
  refine RMi_of (lv := [(0, .ref (K 0)), (1, .int x0)]) (cc := cX7_runs) (maxL := 4) (ret := (some .int)) rfl rfl (by decide +kernel) (Nat.le_of_ble_eq_true rfl) rfl ?_
  intro p e s m args below meth c X hml hr hlk
  generalize hQ : MQ below _ args s 0 0 _ = Q
  refine zz_aload_n 0 X.1 0 dX7_runs_0 rfl ?_
  refine zz_iconst 1 X.1 (v := nI 0) dX7_runs_1 rfl ?_
  refine rr_put 2 hAp X 0 (by decide) (F' := upd F 0 (nI 0)) rfl (by decide +kernel) ⟨rfl, rfl⟩ (by decide +kernel) dX7_runs_2 ?_
  refine zz_aload_n 5 X.1 0 dX7_runs_5 rfl ?_
  refine zz_iload_n 6 X.1 1 dX7_runs_6 rfl ?_
  refine rr_callVi 7 X hml (As := [.int x0]) (kt_X7_noSet l D C K hAp (upd F 0 (nI 0)) hs mv G x0 a (h_a) (by first | rfl | assumption | omega)) gX7_runs_X7_noSet rfl ⟨rfl, rfl⟩ yd_X7_noSet ⟨Nat.le_of_ble_eq_true rfl, Nat.le_of_ble_eq_true rfl⟩ rfl rfl (Nat.le_of_ble_eq_true rfl) dX7_runs_7 ?_
  rintro r1 ⟨F1, hs1, mv1, G1⟩ hu1
  rcases (show (0 ≤ a ∧ a < 8) ∨ (¬ (0 ≤ a ∧ a < 8)) by omega) with hc1 | hc1
  · exfalso; omega
  · skip
    obtain ⟨rfl, hv1⟩ := (hu1.2 hc1)
    cases hv1
    refine zz_world (P' := (RP D C K (upd F 0 (nI 1)) hs mv G)) (fun _ h => h) ?_
    refine zz_ifB_eq 10 15 X.1 dX7_runs_10 (by decide) (fun h10 => ?_) (fun h10 => ?_)
    · exact absurd h10 (by decide)
    · skip
      refine zz_iconst 13 X.1 (v := nI 0) dX7_runs_13 rfl ?_
      rw [← hQ]
      refine zz_iret 14 X.1 hr rfl hlk (upd F 0 (nI 1), hs, mv, G) ?_ (fun _ h _ => h) dX7_runs_14
      exact ⟨rfl, rfl⟩

abbrev rm_X7_longestRun : Room := { frames := 2, cells := 0, slots := 0, locals := 43 }
theorem yd_X7_longestRun : yX7_longestRun.cls = RX7 ∧ yX7_longestRun.cls ≠ "java/lang/invoke/MethodHandle" ∧ yX7_longestRun.cls ≠ "java/lang/invoke/VarHandle" ∧ (parseMethodDescriptor yX7_longestRun.desc).map (fun d => d.parameters.length) = some 1 := by decide +kernel
set_option maxHeartbeats 4000000 in
set_option maxRecDepth 100000 in
theorem kt_X7_longestRun_no (l : Launch) (D : va_G) (C : Nat → ClassId) (K : Nat → Nat) (hAp : RAp K) (F : Nat → Int32) (hs mv : Nat → Bool) (G : Nat → Nat → Int32) (x0 : Int32) (a : Int) (h_a : x0.toInt = a) (hno : ¬ (0 ≤ a ∧ a < 8)) : RMi l yX7_longestRun wsX7_longestRun rm_X7_longestRun D C K [.int x0] F hs mv G (fun (r : Int32) (u : MSt) => r = (nI 0) ∧ u = (upd F 0 (nI 1), hs, mv, G)) := by
  refine RMi_of (lv := [(0, .ref (K 0)), (1, .int x0)]) (cc := cX7_longestRun) (maxL := 6) (ret := (some .int)) rfl rfl (by decide +kernel) (Nat.le_of_ble_eq_true rfl) rfl ?_
  intro p e s m args below meth c X hml hr hlk
  generalize hQ : MQ below _ args s 0 0 _ = Q
  refine zz_aload_n 0 X.1 0 dX7_longestRun_0 rfl ?_
  refine zz_iconst 1 X.1 (v := nI 0) dX7_longestRun_1 rfl ?_
  refine rr_put 2 hAp X 0 (by decide) (F' := upd F 0 (nI 0)) rfl (by decide +kernel) ⟨rfl, rfl⟩ (by decide +kernel) dX7_longestRun_2 ?_
  refine zz_aload_n 5 X.1 0 dX7_longestRun_5 rfl ?_
  refine zz_iload_n 6 X.1 1 dX7_longestRun_6 rfl ?_
  refine rr_callVi 7 X hml (As := [.int x0]) (kt_X7_noSet l D C K hAp (upd F 0 (nI 0)) hs mv G x0 a (h_a) (by first | rfl | assumption | omega)) gX7_longestRun_X7_noSet rfl ⟨rfl, rfl⟩ yd_X7_noSet ⟨Nat.le_of_ble_eq_true rfl, Nat.le_of_ble_eq_true rfl⟩ rfl rfl (Nat.le_of_ble_eq_true rfl) dX7_longestRun_7 ?_
  rintro r1 ⟨F1, hs1, mv1, G1⟩ hu1
  rcases (show (0 ≤ a ∧ a < 8) ∨ (¬ (0 ≤ a ∧ a < 8)) by omega) with hc1 | hc1
  · exfalso; omega
  · skip
    obtain ⟨rfl, hv1⟩ := (hu1.2 hc1)
    cases hv1
    refine zz_world (P' := (RP D C K (upd F 0 (nI 1)) hs mv G)) (fun _ h => h) ?_
    refine zz_ifB_eq 10 15 X.1 dX7_longestRun_10 (by decide) (fun h10 => ?_) (fun h10 => ?_)
    · exact absurd h10 (by decide)
    · skip
      refine zz_iconst 13 X.1 (v := nI 0) dX7_longestRun_13 rfl ?_
      rw [← hQ]
      refine zz_iret 14 X.1 hr rfl hlk (upd F 0 (nI 1), hs, mv, G) ?_ (fun _ h _ => h) dX7_longestRun_14
      exact ⟨rfl, rfl⟩

set_option maxHeartbeats 4000000 in
set_option maxRecDepth 100000 in
theorem kt_X7_memberAt_ok (l : Launch) (D : va_G) (C : Nat → ClassId) (K : Nat → Nat) (hAp : RAp K) (F : Nat → Int32) (hs mv : Nat → Bool) (G : Nat → Nat → Int32) (s0 : Nat) (x1 : Int32) (b : Int) (h_b : x1.toInt = b) (hs0 : s0 < 8) : RMi l yX7_memberAt wsX7_memberAt rm_X7_memberAt D C K [.int (nI s0), .int x1] F hs mv G (fun (r : Int32) (u : MSt) => r = (mA (hM hs s0) b) ∧ u = (upd F 0 (nI 0), hs, mv, G)) := by
  refine RMi_of (lv := [(0, .ref (K 0)), (1, .int (nI s0)), (2, .int x1)]) (cc := cX7_memberAt) (maxL := 5) (ret := (some .int)) rfl rfl (by decide +kernel) (Nat.le_of_ble_eq_true rfl) rfl ?_
  intro p e s m args below meth c X hml hr hlk
  generalize hQ : MQ below _ args s 0 0 _ = Q
  refine zz_aload_n 0 X.1 0 dX7_memberAt_0 rfl ?_
  refine zz_iconst 1 X.1 (v := nI 0) dX7_memberAt_1 rfl ?_
  refine rr_put 2 hAp X 0 (by decide) (F' := upd F 0 (nI 0)) rfl (by decide +kernel) ⟨rfl, rfl⟩ (by decide +kernel) dX7_memberAt_2 ?_
  refine zz_aload_n 5 X.1 0 dX7_memberAt_5 rfl ?_
  refine zz_iload_n 6 X.1 1 dX7_memberAt_6 rfl ?_
  refine rr_callVi 7 X hml (As := [.int (nI s0)]) (kt_X7_noSet l D C K hAp (upd F 0 (nI 0)) hs mv G (nI s0) ((s0 : Nat) : Int) (nI_toInt (by omega)) (by first | rfl | assumption | omega)) gX7_memberAt_X7_noSet rfl ⟨rfl, rfl⟩ yd_X7_noSet ⟨Nat.le_of_ble_eq_true rfl, Nat.le_of_ble_eq_true rfl⟩ rfl rfl (Nat.le_of_ble_eq_true rfl) dX7_memberAt_7 ?_
  rintro r1 ⟨F1, hs1, mv1, G1⟩ hu1
  obtain ⟨rfl, hv1⟩ := (hu1.1 (by omega))
  cases hv1
  refine zz_world (P' := (RP D C K (upd F 0 (nI 0)) hs mv G)) (fun _ h => h) ?_
  refine zz_ifB_eq 10 15 X.1 dX7_memberAt_10 (by decide) (fun h10 => ?_) (fun h10 => ?_)
  · skip
    refine zz_iload_n 15 X.1 2 dX7_memberAt_15 rfl ?_
    refine zz_istore_n 16 X.1 (lv' := [(3, .int x1), (0, .ref (K 0)), (1, .int (nI s0)), (2, .int x1)]) dX7_memberAt_16 (by decide) rfl ?_
    refine zz_iconst 17 X.1 (v := nI 0) dX7_memberAt_17 rfl ?_
    refine zz_istore 18 X.1 (lv' := [(4, .int (nI 0)), (3, .int x1), (0, .ref (K 0)), (1, .int (nI s0)), (2, .int x1)]) dX7_memberAt_18 (by decide) rfl ?_
    have C20 : ∀ (d : Nat) (i : Nat) (x3 : Int32) (hi : i ≤ 1024) (hx : x3.toInt = b - (ct (hM hs s0) i : Int)) (hz : ∀ k, k < i → (hM hs s0 k && decide ((ct (hM hs s0) k : Int) = b)) = false) (hd : 1024 - i < d), ZZ p l e rm_X7_memberAt s m args below meth c 0 0 Q (zz_A (RAd K) s.heap.size) (RP D C K (upd F 0 (nI 0)) hs mv G) 5 [(0, .ref (K 0)), (1, .int (nI s0)), (3, .int x3), (4, .int (nI i))] [] 20 := by
      intro d
      induction d with
      | zero => intro i x3 hi hx hz hd; exact absurd hd (Nat.not_lt_zero _)
      | succ d ih20 =>
        intro i x3 hi hx hz hd
        refine zz_iload 20 X.1 3 dX7_memberAt_20 rfl ?_
        refine zz_sipush 22 X.1 (v := nI 1024) dX7_memberAt_22 rfl ?_
        refine zz_icmp_ge 25 67 X.1 (nI_toInt (by omega)) (nI_toInt (by omega)) dX7_memberAt_25 (by decide) (fun h25 => ?_) (fun h25 => ?_)
        · skip
          refine zz_iconst 67 X.1 (v := (-1)) dX7_memberAt_67 (by decide) ?_
          rw [← hQ]
          refine zz_iret 68 X.1 hr rfl hlk (upd F 0 (nI 0), hs, mv, G) ?_ (fun _ h _ => h) dX7_memberAt_68
          refine ⟨(nx_no (fun k _ h => ?_)).symm, rfl⟩
          rcases Nat.lt_or_ge k i with z | z
          · exact hz k z
          · have hmm := ct_mono (q := hM hs s0) z
            rw [decide_eq_false (by omega)]
            simp
        · skip
          refine zz_iload_n 28 X.1 2 dX7_memberAt_28 rfl ?_
          refine zz_if_lt 29 67 X.1 hx dX7_memberAt_29 (by decide) (fun h29 => ?_) (fun h29 => ?_)
          · skip
            refine zz_iconst 67 X.1 (v := (-1)) dX7_memberAt_67 (by decide) ?_
            rw [← hQ]
            refine zz_iret 68 X.1 hr rfl hlk (upd F 0 (nI 0), hs, mv, G) ?_ (fun _ h _ => h) dX7_memberAt_68
            refine ⟨(nx_no (fun k _ h => ?_)).symm, rfl⟩
            rcases Nat.lt_or_ge k i with z | z
            · exact hz k z
            · have hmm := ct_mono (q := hM hs s0) z
              rw [decide_eq_false (by omega)]
              simp
          · skip
            refine zz_aload_n 32 X.1 0 dX7_memberAt_32 rfl ?_
            refine rr_get 33 X 1 (by decide) (v := .ref (K 1)) rfl (by decide +kernel) rfl dX7_memberAt_33 ?_
            refine zz_sipush 36 X.1 (v := nI 1024) dX7_memberAt_36 rfl ?_
            refine zz_iload_n 39 X.1 1 dX7_memberAt_39 rfl ?_
            refine zz_imul 40 X.1 (v := (nI (1024 * s0))) dX7_memberAt_40 (pk_mul _ _) ?_
            refine zz_iload 41 X.1 3 dX7_memberAt_41 rfl ?_
            refine zz_iadd 43 X.1 (v := (nI ((1024 * s0) + i))) dX7_memberAt_43 (nI_add _ _) ?_
            refine rr_hld 44 X (by omega) dX7_memberAt_44 ?_
            refine zz_ifB_ne 45 51 X.1 dX7_memberAt_45 (by decide) (fun h45 => ?_) (fun h45 => ?_)
            · skip
              refine zz_iload_n 51 X.1 2 dX7_memberAt_51 rfl ?_
              refine zz_if_ne 52 58 X.1 hx dX7_memberAt_52 (by decide) (fun h52 => ?_) (fun h52 => ?_)
              · skip
                refine zz_iinc 58 X.1 2 (v := (x3 + (-1))) (lv' := [(3, .int (x3 + (-1))), (0, .ref (K 0)), (1, .int (nI s0)), (4, .int (nI i))]) dX7_memberAt_58 rfl rfl (by decide) rfl ?_
                refine zz_iinc 61 X.1 3 (v := (nI (i + 1))) (lv' := [(4, .int (nI (i + 1))), (3, .int (x3 + (-1))), (0, .ref (K 0)), (1, .int (nI s0))]) dX7_memberAt_61 rfl (nI_add i 1) (by decide) rfl ?_
                refine zz_goto 64 20 X.1 dX7_memberAt_64 (by decide) ?_
                refine zz_lvs [2, 3, 1, 0] rfl ?_
                exact ih20 (i + 1) (x3 + (-1)) (by omega) (by first | (rw [zi_dec (by omega), hx, ← ct_t (show hM hs s0 i = true from h45)]; omega) | (rw [hx, ← ct_f (show hM hs s0 i = false from h45)]; rfl)) (fun k h => by rcases Nat.lt_or_ge k i with z | z; exact hz k z; rw [show k = i by omega]; first | (rw [show hM hs s0 i = false from h45]; rfl) | (rw [decide_eq_false (by omega)]; simp)) (by omega)
              · skip
                refine zz_iload 55 X.1 3 dX7_memberAt_55 rfl ?_
                rw [← hQ]
                refine zz_iret 57 X.1 hr rfl hlk (upd F 0 (nI 0), hs, mv, G) ?_ (fun _ h _ => h) dX7_memberAt_57
                exact ⟨(nx_at (q := fun j => hM hs s0 j && decide ((ct (hM hs s0) j : Int) = b)) (by simp [show hM hs s0 i = true from h45, show (ct (hM hs s0) i : Int) = b by omega]) (Nat.zero_le _) (by omega) (fun k _ h => hz k h)).symm, rfl⟩
            · skip
              refine zz_goto 48 61 X.1 dX7_memberAt_48 (by decide) ?_
              refine zz_iinc 61 X.1 3 (v := (nI (i + 1))) (lv' := [(4, .int (nI (i + 1))), (0, .ref (K 0)), (1, .int (nI s0)), (3, .int x3)]) dX7_memberAt_61 rfl (nI_add i 1) (by decide) rfl ?_
              refine zz_goto 64 20 X.1 dX7_memberAt_64 (by decide) ?_
              refine zz_lvs [1, 2, 3, 0] rfl ?_
              exact ih20 (i + 1) x3 (by omega) (by first | (rw [zi_dec (by omega), hx, ← ct_t (show hM hs s0 i = true from h45)]; omega) | (rw [hx, ← ct_f (show hM hs s0 i = false from h45)]; rfl)) (fun k h => by rcases Nat.lt_or_ge k i with z | z; exact hz k z; rw [show k = i by omega]; first | (rw [show hM hs s0 i = false from h45]; rfl) | (rw [decide_eq_false (by omega)]; simp)) (by omega)
    refine zz_lvs [2, 3, 1, 0] rfl ?_
    exact C20 (1024 - 0 + 1) 0 x1 (by omega) (by rw [h_b]; simp [ct]) (fun k h => by omega) (Nat.lt_succ_self _)
  · exact absurd h10 (by decide)

set_option maxHeartbeats 4000000 in
set_option maxRecDepth 100000 in
theorem kt_X7_sum_ok (l : Launch) (D : va_G) (C : Nat → ClassId) (K : Nat → Nat) (hAp : RAp K) (F : Nat → Int32) (hs mv : Nat → Bool) (G : Nat → Nat → Int32) (s0 : Nat) (hs0 : s0 < 8) : RMl l yX7_sum wsX7_sum rm_X7_sum D C K [.int (nI s0)] F hs mv G (fun (r : Int64) (u : MSt) => r = (lN (su (hM hs s0) 1024)) ∧ u = (upd F 0 (nI 0), hs, mv, G)) := by
  refine RMl_of (lv := [(0, .ref (K 0)), (1, .int (nI s0))]) (cc := cX7_sum) (maxL := 5) (ret := (some .long)) rfl rfl (by decide +kernel) (Nat.le_of_ble_eq_true rfl) rfl ?_
  intro p e s m args below meth c X hml hr hlk
  generalize hQ : MQ below _ args s 0 0 _ = Q
  refine zz_aload_n 0 X.1 0 dX7_sum_0 rfl ?_
  refine zz_iconst 1 X.1 (v := nI 0) dX7_sum_1 rfl ?_
  refine rr_put 2 hAp X 0 (by decide) (F' := upd F 0 (nI 0)) rfl (by decide +kernel) ⟨rfl, rfl⟩ (by decide +kernel) dX7_sum_2 ?_
  refine zz_aload_n 5 X.1 0 dX7_sum_5 rfl ?_
  refine zz_iload_n 6 X.1 1 dX7_sum_6 rfl ?_
  refine rr_callVi 7 X hml (As := [.int (nI s0)]) (kt_X7_noSet l D C K hAp (upd F 0 (nI 0)) hs mv G (nI s0) ((s0 : Nat) : Int) (nI_toInt (by omega)) (by first | rfl | assumption | omega)) gX7_sum_X7_noSet rfl ⟨rfl, rfl⟩ yd_X7_noSet ⟨Nat.le_of_ble_eq_true rfl, Nat.le_of_ble_eq_true rfl⟩ rfl rfl (Nat.le_of_ble_eq_true rfl) dX7_sum_7 ?_
  rintro r1 ⟨F1, hs1, mv1, G1⟩ hu1
  obtain ⟨rfl, hv1⟩ := (hu1.1 (by omega))
  cases hv1
  refine zz_world (P' := (RP D C K (upd F 0 (nI 0)) hs mv G)) (fun _ h => h) ?_
  refine zz_ifB_eq 10 15 X.1 dX7_sum_10 (by decide) (fun h10 => ?_) (fun h10 => ?_)
  · skip
    refine zz_lconst 15 X.1 (v := 0) dX7_sum_15 (by decide) ?_
    refine zz_lstore_n 16 X.1 (lv' := [(2, .long 0), (0, .ref (K 0)), (1, .int (nI s0))]) dX7_sum_16 (by decide) rfl ?_
    refine zz_iconst 17 X.1 (v := nI 0) dX7_sum_17 rfl ?_
    refine zz_istore 18 X.1 (lv' := [(4, .int (nI 0)), (2, .long 0), (0, .ref (K 0)), (1, .int (nI s0))]) dX7_sum_18 (by decide) rfl ?_
    have C20 : ∀ (d : Nat) (i : Nat) (n2 : Nat) (hi : i ≤ 1024) (hn : n2 = su (hM hs s0) i) (hd : 1024 - i < d), ZZ p l e rm_X7_sum s m args below meth c 0 0 Q (zz_A (RAd K) s.heap.size) (RP D C K (upd F 0 (nI 0)) hs mv G) 5 [(0, .ref (K 0)), (1, .int (nI s0)), (2, .long (lN n2)), (4, .int (nI i))] [] 20 := by
      intro d
      induction d with
      | zero => intro i n2 hi hn hd; exact absurd hd (Nat.not_lt_zero _)
      | succ d ih20 =>
        intro i n2 hi hn hd
        refine zz_iload 20 X.1 3 dX7_sum_20 rfl ?_
        refine zz_sipush 22 X.1 (v := nI 1024) dX7_sum_22 rfl ?_
        refine zz_icmp_ge 25 60 X.1 (nI_toInt (by omega)) (nI_toInt (by omega)) dX7_sum_25 (by decide) (fun h25 => ?_) (fun h25 => ?_)
        · skip
          refine zz_lload_n 60 X.1 2 dX7_sum_60 rfl ?_
          rw [← hQ]
          refine zz_lret 61 X.1 hr hlk (upd F 0 (nI 0), hs, mv, G) ?_ (fun _ h _ => h) dX7_sum_61
          exact ⟨by rw [hn, show i = 1024 by omega], rfl⟩
        · skip
          refine zz_lload_n 28 X.1 2 dX7_sum_28 rfl ?_
          refine zz_aload_n 29 X.1 0 dX7_sum_29 rfl ?_
          refine rr_get 30 X 1 (by decide) (v := .ref (K 1)) rfl (by decide +kernel) rfl dX7_sum_30 ?_
          refine zz_sipush 33 X.1 (v := nI 1024) dX7_sum_33 rfl ?_
          refine zz_iload_n 36 X.1 1 dX7_sum_36 rfl ?_
          refine zz_imul 37 X.1 (v := (nI (1024 * s0))) dX7_sum_37 (pk_mul _ _) ?_
          refine zz_iload 38 X.1 3 dX7_sum_38 rfl ?_
          refine zz_iadd 40 X.1 (v := (nI ((1024 * s0) + i))) dX7_sum_40 (nI_add _ _) ?_
          refine rr_hld 41 X (by omega) dX7_sum_41 ?_
          refine zz_ifB_eq 42 51 X.1 dX7_sum_42 (by decide) (fun h42 => ?_) (fun h42 => ?_)
          · skip
            refine zz_lconst 51 X.1 (v := 0) dX7_sum_51 (by decide) ?_
            refine zz_ladd 52 X.1 (v := lN (n2 + 0)) dX7_sum_52 (lN_add _ _) ?_
            refine zz_lstore_n 53 X.1 (lv' := [(2, .long (lN (n2 + 0))), (0, .ref (K 0)), (1, .int (nI s0)), (4, .int (nI i))]) dX7_sum_53 (by decide) rfl ?_
            refine zz_iinc 54 X.1 3 (v := (nI (i + 1))) (lv' := [(4, .int (nI (i + 1))), (2, .long (lN (n2 + 0))), (0, .ref (K 0)), (1, .int (nI s0))]) dX7_sum_54 rfl (nI_add i 1) (by decide) rfl ?_
            refine zz_goto 57 20 X.1 dX7_sum_57 (by decide) ?_
            refine zz_lvs [2, 3, 1, 0] rfl ?_
            exact ih20 (i + 1) (n2 + 0) (by omega) (by rw [hn]; simp [su, hM, h42]) (by omega)
          · skip
            refine zz_iload 45 X.1 3 dX7_sum_45 rfl ?_
            refine zz_i2l 47 X.1 (v := lN i) dX7_sum_47 (nI_l (by omega)) ?_
            refine zz_goto 48 52 X.1 dX7_sum_48 (by decide) ?_
            refine zz_ladd 52 X.1 (v := lN (n2 + i)) dX7_sum_52 (lN_add _ _) ?_
            refine zz_lstore_n 53 X.1 (lv' := [(2, .long (lN (n2 + i))), (0, .ref (K 0)), (1, .int (nI s0)), (4, .int (nI i))]) dX7_sum_53 (by decide) rfl ?_
            refine zz_iinc 54 X.1 3 (v := (nI (i + 1))) (lv' := [(4, .int (nI (i + 1))), (2, .long (lN (n2 + i))), (0, .ref (K 0)), (1, .int (nI s0))]) dX7_sum_54 rfl (nI_add i 1) (by decide) rfl ?_
            refine zz_goto 57 20 X.1 dX7_sum_57 (by decide) ?_
            refine zz_lvs [2, 3, 1, 0] rfl ?_
            exact ih20 (i + 1) (n2 + i) (by omega) (by rw [hn]; simp [su, hM, h42]) (by omega)
    refine zz_lvs [2, 3, 1, 0] rfl ?_
    exact C20 (1024 - 0 + 1) 0 0 (by omega) (rfl) (Nat.lt_succ_self _)
  · exact absurd h10 (by decide)

abbrev rm_X7_begins : Room := { frames := 0, cells := 0, slots := 0, locals := 0 }
theorem yd_X7_begins : yX7_begins.cls = RX7 ∧ yX7_begins.cls ≠ "java/lang/invoke/MethodHandle" ∧ yX7_begins.cls ≠ "java/lang/invoke/VarHandle" ∧ (parseMethodDescriptor yX7_begins.desc).map (fun d => d.parameters.length) = some 2 := by decide +kernel
set_option maxHeartbeats 4000000 in
set_option maxRecDepth 100000 in
theorem kt_X7_begins (l : Launch) (D : va_G) (C : Nat → ClassId) (K : Nat → Nat) (hAp : RAp K) (F : Nat → Int32) (hs mv : Nat → Bool) (G : Nat → Nat → Int32) (s0 : Nat) (i0 : Nat) (hs0 : s0 < 8) (hi0 : i0 < 1024) : RMi l yX7_begins wsX7_begins rm_X7_begins D C K [.int (nI s0), .int (nI i0)] F hs mv G (fun (r : Int32) (u : MSt) => r = (bI (bg (hM hs s0) i0)) ∧ u = (F, hs, mv, G)) := by
  refine RMi_of (lv := [(0, .ref (K 0)), (1, .int (nI s0)), (2, .int (nI i0))]) (cc := cX7_begins) (maxL := 3) (ret := (some .boolean)) rfl rfl (by decide +kernel) (Nat.le_of_ble_eq_true rfl) rfl ?_
  intro p e s m args below meth c X hml hr hlk
  generalize hQ : MQ below _ args s 0 0 _ = Q
  refine zz_aload_n 0 X.1 0 dX7_begins_0 rfl ?_
  refine rr_get 1 X 1 (by decide) (v := .ref (K 1)) rfl (by decide +kernel) rfl dX7_begins_1 ?_
  refine zz_sipush 4 X.1 (v := nI 1024) dX7_begins_4 rfl ?_
  refine zz_iload_n 7 X.1 1 dX7_begins_7 rfl ?_
  refine zz_imul 8 X.1 (v := (nI (1024 * s0))) dX7_begins_8 (pk_mul _ _) ?_
  refine zz_iload_n 9 X.1 2 dX7_begins_9 rfl ?_
  refine zz_iadd 10 X.1 (v := (nI ((1024 * s0) + i0))) dX7_begins_10 (nI_add _ _) ?_
  refine rr_hld 11 X (by omega) dX7_begins_11 ?_
  refine zz_ifB_eq 12 40 X.1 dX7_begins_12 (by decide) (fun h12 => ?_) (fun h12 => ?_)
  · skip
    refine zz_iconst 40 X.1 (v := nI 0) dX7_begins_40 rfl ?_
    refine zz_topi (bI false) rfl ?_
    rw [← hQ]
    refine zz_iret 41 X.1 hr (bI_nar _) hlk (F, hs, mv, G) ?_ (fun _ h _ => h) dX7_begins_41
    refine ⟨congrArg bI ?_, rfl⟩
    unfold bg hM
    first | (rw [h12]; rfl) | (rw [h12, show i0 = 0 by omega]; rfl) | (rw [h12, ← Nat.add_sub_assoc (by omega), h33]; simp; done) | (rw [h12, ← Nat.add_sub_assoc (by omega), h33]; simp; omega)
  · skip
    refine zz_iload_n 15 X.1 2 dX7_begins_15 rfl ?_
    refine zz_if_eq 16 36 X.1 (nI_toInt (by omega)) dX7_begins_16 (by decide) (fun h16 => ?_) (fun h16 => ?_)
    · skip
      refine zz_iconst 36 X.1 (v := nI 1) dX7_begins_36 rfl ?_
      refine zz_goto 37 41 X.1 dX7_begins_37 (by decide) ?_
      refine zz_topi (bI true) rfl ?_
      rw [← hQ]
      refine zz_iret 41 X.1 hr (bI_nar _) hlk (F, hs, mv, G) ?_ (fun _ h _ => h) dX7_begins_41
      refine ⟨congrArg bI ?_, rfl⟩
      unfold bg hM
      first | (rw [h12]; rfl) | (rw [h12, show i0 = 0 by omega]; rfl) | (rw [h12, ← Nat.add_sub_assoc (by omega), h33]; simp; done) | (rw [h12, ← Nat.add_sub_assoc (by omega), h33]; simp; omega)
    · skip
      refine zz_aload_n 19 X.1 0 dX7_begins_19 rfl ?_
      refine rr_get 20 X 1 (by decide) (v := .ref (K 1)) rfl (by decide +kernel) rfl dX7_begins_20 ?_
      refine zz_sipush 23 X.1 (v := nI 1024) dX7_begins_23 rfl ?_
      refine zz_iload_n 26 X.1 1 dX7_begins_26 rfl ?_
      refine zz_imul 27 X.1 (v := (nI (1024 * s0))) dX7_begins_27 (pk_mul _ _) ?_
      refine zz_iload_n 28 X.1 2 dX7_begins_28 rfl ?_
      refine zz_iadd 29 X.1 (v := (nI ((1024 * s0) + i0))) dX7_begins_29 (nI_add _ _) ?_
      refine zz_iconst 30 X.1 (v := nI 1) dX7_begins_30 rfl ?_
      refine zz_isub 31 X.1 (v := (nI (((1024 * s0) + i0) - 1))) dX7_begins_31 (pk_sub (by omega)) ?_
      refine rr_hld 32 X (by omega) dX7_begins_32 ?_
      refine zz_ifB_ne 33 40 X.1 dX7_begins_33 (by decide) (fun h33 => ?_) (fun h33 => ?_)
      · skip
        refine zz_iconst 40 X.1 (v := nI 0) dX7_begins_40 rfl ?_
        refine zz_topi (bI false) rfl ?_
        rw [← hQ]
        refine zz_iret 41 X.1 hr (bI_nar _) hlk (F, hs, mv, G) ?_ (fun _ h _ => h) dX7_begins_41
        refine ⟨congrArg bI ?_, rfl⟩
        unfold bg hM
        first | (rw [h12]; rfl) | (rw [h12, show i0 = 0 by omega]; rfl) | (rw [h12, ← Nat.add_sub_assoc (by omega), h33]; simp; done) | (rw [h12, ← Nat.add_sub_assoc (by omega), h33]; simp; omega)
      · skip
        refine zz_iconst 36 X.1 (v := nI 1) dX7_begins_36 rfl ?_
        refine zz_goto 37 41 X.1 dX7_begins_37 (by decide) ?_
        refine zz_topi (bI true) rfl ?_
        rw [← hQ]
        refine zz_iret 41 X.1 hr (bI_nar _) hlk (F, hs, mv, G) ?_ (fun _ h _ => h) dX7_begins_41
        refine ⟨congrArg bI ?_, rfl⟩
        unfold bg hM
        first | (rw [h12]; rfl) | (rw [h12, show i0 = 0 by omega]; rfl) | (rw [h12, ← Nat.add_sub_assoc (by omega), h33]; simp; done) | (rw [h12, ← Nat.add_sub_assoc (by omega), h33]; simp; omega)

set_option maxHeartbeats 4000000 in
set_option maxRecDepth 100000 in
theorem kt_X7_runs_ok (l : Launch) (D : va_G) (C : Nat → ClassId) (K : Nat → Nat) (hAp : RAp K) (F : Nat → Int32) (hs mv : Nat → Bool) (G : Nat → Nat → Int32) (s0 : Nat) (hs0 : s0 < 8) : RMi l yX7_runs wsX7_runs rm_X7_runs D C K [.int (nI s0)] F hs mv G (fun (r : Int32) (u : MSt) => r = (nI (ct (bg (hM hs s0)) 1024)) ∧ u = (upd F 0 (nI 0), hs, mv, G)) := by
  refine RMi_of (lv := [(0, .ref (K 0)), (1, .int (nI s0))]) (cc := cX7_runs) (maxL := 4) (ret := (some .int)) rfl rfl (by decide +kernel) (Nat.le_of_ble_eq_true rfl) rfl ?_
  intro p e s m args below meth c X hml hr hlk
  generalize hQ : MQ below _ args s 0 0 _ = Q
  refine zz_aload_n 0 X.1 0 dX7_runs_0 rfl ?_
  refine zz_iconst 1 X.1 (v := nI 0) dX7_runs_1 rfl ?_
  refine rr_put 2 hAp X 0 (by decide) (F' := upd F 0 (nI 0)) rfl (by decide +kernel) ⟨rfl, rfl⟩ (by decide +kernel) dX7_runs_2 ?_
  refine zz_aload_n 5 X.1 0 dX7_runs_5 rfl ?_
  refine zz_iload_n 6 X.1 1 dX7_runs_6 rfl ?_
  refine rr_callVi 7 X hml (As := [.int (nI s0)]) (kt_X7_noSet l D C K hAp (upd F 0 (nI 0)) hs mv G (nI s0) ((s0 : Nat) : Int) (nI_toInt (by omega)) (by first | rfl | assumption | omega)) gX7_runs_X7_noSet rfl ⟨rfl, rfl⟩ yd_X7_noSet ⟨Nat.le_of_ble_eq_true rfl, Nat.le_of_ble_eq_true rfl⟩ rfl rfl (Nat.le_of_ble_eq_true rfl) dX7_runs_7 ?_
  rintro r1 ⟨F1, hs1, mv1, G1⟩ hu1
  obtain ⟨rfl, hv1⟩ := (hu1.1 (by omega))
  cases hv1
  refine zz_world (P' := (RP D C K (upd F 0 (nI 0)) hs mv G)) (fun _ h => h) ?_
  refine zz_ifB_eq 10 15 X.1 dX7_runs_10 (by decide) (fun h10 => ?_) (fun h10 => ?_)
  · skip
    refine zz_iconst 15 X.1 (v := nI 0) dX7_runs_15 rfl ?_
    refine zz_istore_n 16 X.1 (lv' := [(2, .int (nI 0)), (0, .ref (K 0)), (1, .int (nI s0))]) dX7_runs_16 (by decide) rfl ?_
    refine zz_iconst 17 X.1 (v := nI 0) dX7_runs_17 rfl ?_
    refine zz_istore_n 18 X.1 (lv' := [(3, .int (nI 0)), (2, .int (nI 0)), (0, .ref (K 0)), (1, .int (nI s0))]) dX7_runs_18 (by decide) rfl ?_
    have C19 : ∀ (d : Nat) (i : Nat) (n2 : Nat) (hi : i ≤ 1024) (hn : n2 = ct (bg (hM hs s0)) i) (hd : 1024 - i < d), ZZ p l e rm_X7_runs s m args below meth c 0 0 Q (zz_A (RAd K) s.heap.size) (RP D C K (upd F 0 (nI 0)) hs mv G) 4 [(0, .ref (K 0)), (1, .int (nI s0)), (2, .int (nI n2)), (3, .int (nI i))] [] 19 := by
      intro d
      induction d with
      | zero => intro i n2 hi hn hd; exact absurd hd (Nat.not_lt_zero _)
      | succ d ih19 =>
        intro i n2 hi hn hd
        refine zz_iload_n 19 X.1 3 dX7_runs_19 rfl ?_
        refine zz_sipush 20 X.1 (v := nI 1024) dX7_runs_20 rfl ?_
        refine zz_icmp_ge 23 49 X.1 (nI_toInt (by omega)) (nI_toInt (by omega)) dX7_runs_23 (by decide) (fun h23 => ?_) (fun h23 => ?_)
        · skip
          refine zz_iload_n 49 X.1 2 dX7_runs_49 rfl ?_
          rw [← hQ]
          refine zz_iret 50 X.1 hr rfl hlk (upd F 0 (nI 0), hs, mv, G) ?_ (fun _ h _ => h) dX7_runs_50
          exact ⟨by rw [hn, show i = 1024 by omega], rfl⟩
        · skip
          refine zz_iload_n 26 X.1 2 dX7_runs_26 rfl ?_
          refine zz_aload_n 27 X.1 0 dX7_runs_27 rfl ?_
          refine zz_iload_n 28 X.1 1 dX7_runs_28 rfl ?_
          refine zz_iload_n 29 X.1 3 dX7_runs_29 rfl ?_
          refine rr_callVi 30 X hml (As := [.int (nI s0), .int (nI i)]) (kt_X7_begins l D C K hAp (upd F 0 (nI 0)) hs mv G s0 i (by first | rfl | assumption | omega) (by first | rfl | assumption | omega)) gX7_runs_X7_begins rfl ⟨rfl, rfl⟩ yd_X7_begins ⟨Nat.le_of_ble_eq_true rfl, Nat.le_of_ble_eq_true rfl⟩ rfl rfl (Nat.le_of_ble_eq_true rfl) dX7_runs_30 ?_
          rintro r2 ⟨F2, hs2, mv2, G2⟩ hu2
          obtain ⟨rfl, hv2⟩ := hu2
          cases hv2
          refine zz_world (P' := (RP D C K (upd F 0 (nI 0)) hs mv G)) (fun _ h => h) ?_
          refine zz_ifB_eq 33 40 X.1 dX7_runs_33 (by decide) (fun h33 => ?_) (fun h33 => ?_)
          · skip
            refine zz_iconst 40 X.1 (v := nI 0) dX7_runs_40 rfl ?_
            refine zz_iadd 41 X.1 (v := (nI (n2 + 0))) dX7_runs_41 (nI_add _ _) ?_
            refine zz_istore_n 42 X.1 (lv' := [(2, .int (nI (n2 + 0))), (0, .ref (K 0)), (1, .int (nI s0)), (3, .int (nI i))]) dX7_runs_42 (by decide) rfl ?_
            refine zz_iinc 43 X.1 3 (v := (nI (i + 1))) (lv' := [(3, .int (nI (i + 1))), (2, .int (nI (n2 + 0))), (0, .ref (K 0)), (1, .int (nI s0))]) dX7_runs_43 rfl (nI_add i 1) (by decide) rfl ?_
            refine zz_goto 46 19 X.1 dX7_runs_46 (by decide) ?_
            refine zz_lvs [2, 3, 1, 0] rfl ?_
            exact ih19 (i + 1) (n2 + 0) (by omega) (by rw [hn]; first | exact ct_t h33 | exact ct_f h33) (by omega)
          · skip
            refine zz_iconst 36 X.1 (v := nI 1) dX7_runs_36 rfl ?_
            refine zz_goto 37 41 X.1 dX7_runs_37 (by decide) ?_
            refine zz_iadd 41 X.1 (v := (nI (n2 + 1))) dX7_runs_41 (nI_add _ _) ?_
            refine zz_istore_n 42 X.1 (lv' := [(2, .int (nI (n2 + 1))), (0, .ref (K 0)), (1, .int (nI s0)), (3, .int (nI i))]) dX7_runs_42 (by decide) rfl ?_
            refine zz_iinc 43 X.1 3 (v := (nI (i + 1))) (lv' := [(3, .int (nI (i + 1))), (2, .int (nI (n2 + 1))), (0, .ref (K 0)), (1, .int (nI s0))]) dX7_runs_43 rfl (nI_add i 1) (by decide) rfl ?_
            refine zz_goto 46 19 X.1 dX7_runs_46 (by decide) ?_
            refine zz_lvs [2, 3, 1, 0] rfl ?_
            exact ih19 (i + 1) (n2 + 1) (by omega) (by rw [hn]; first | exact ct_t h33 | exact ct_f h33) (by omega)
    refine zz_lvs [2, 3, 1, 0] rfl ?_
    exact C19 (1024 - 0 + 1) 0 0 (by omega) (rfl) (Nat.lt_succ_self _)
  · exact absurd h10 (by decide)

set_option maxHeartbeats 4000000 in
set_option maxRecDepth 100000 in
theorem kt_X7_longestRun_ok (l : Launch) (D : va_G) (C : Nat → ClassId) (K : Nat → Nat) (hAp : RAp K) (F : Nat → Int32) (hs mv : Nat → Bool) (G : Nat → Nat → Int32) (s0 : Nat) (hs0 : s0 < 8) : RMi l yX7_longestRun wsX7_longestRun rm_X7_longestRun D C K [.int (nI s0)] F hs mv G (fun (r : Int32) (u : MSt) => r = ((bst (hM hs s0) 1024).1) ∧ u = (upd F 0 (nI 0), hs, mv, G)) := by
  refine RMi_of (lv := [(0, .ref (K 0)), (1, .int (nI s0))]) (cc := cX7_longestRun) (maxL := 6) (ret := (some .int)) rfl rfl (by decide +kernel) (Nat.le_of_ble_eq_true rfl) rfl ?_
  intro p e s m args below meth c X hml hr hlk
  generalize hQ : MQ below _ args s 0 0 _ = Q
  refine zz_aload_n 0 X.1 0 dX7_longestRun_0 rfl ?_
  refine zz_iconst 1 X.1 (v := nI 0) dX7_longestRun_1 rfl ?_
  refine rr_put 2 hAp X 0 (by decide) (F' := upd F 0 (nI 0)) rfl (by decide +kernel) ⟨rfl, rfl⟩ (by decide +kernel) dX7_longestRun_2 ?_
  refine zz_aload_n 5 X.1 0 dX7_longestRun_5 rfl ?_
  refine zz_iload_n 6 X.1 1 dX7_longestRun_6 rfl ?_
  refine rr_callVi 7 X hml (As := [.int (nI s0)]) (kt_X7_noSet l D C K hAp (upd F 0 (nI 0)) hs mv G (nI s0) ((s0 : Nat) : Int) (nI_toInt (by omega)) (by first | rfl | assumption | omega)) gX7_longestRun_X7_noSet rfl ⟨rfl, rfl⟩ yd_X7_noSet ⟨Nat.le_of_ble_eq_true rfl, Nat.le_of_ble_eq_true rfl⟩ rfl rfl (Nat.le_of_ble_eq_true rfl) dX7_longestRun_7 ?_
  rintro r1 ⟨F1, hs1, mv1, G1⟩ hu1
  obtain ⟨rfl, hv1⟩ := (hu1.1 (by omega))
  cases hv1
  refine zz_world (P' := (RP D C K (upd F 0 (nI 0)) hs mv G)) (fun _ h => h) ?_
  refine zz_ifB_eq 10 15 X.1 dX7_longestRun_10 (by decide) (fun h10 => ?_) (fun h10 => ?_)
  · skip
    refine zz_iconst 15 X.1 (v := (-1)) dX7_longestRun_15 (by decide) ?_
    refine zz_istore_n 16 X.1 (lv' := [(2, .int (-1)), (0, .ref (K 0)), (1, .int (nI s0))]) dX7_longestRun_16 (by decide) rfl ?_
    refine zz_iconst 17 X.1 (v := nI 0) dX7_longestRun_17 rfl ?_
    refine zz_istore_n 18 X.1 (lv' := [(3, .int (nI 0)), (2, .int (-1)), (0, .ref (K 0)), (1, .int (nI s0))]) dX7_longestRun_18 (by decide) rfl ?_
    refine zz_iconst 19 X.1 (v := nI 0) dX7_longestRun_19 rfl ?_
    refine zz_istore 20 X.1 (lv' := [(4, .int (nI 0)), (3, .int (nI 0)), (2, .int (-1)), (0, .ref (K 0)), (1, .int (nI s0))]) dX7_longestRun_20 (by decide) rfl ?_
    have C22 : ∀ (d : Nat) (i : Nat) (x2 : Int32) (n3 : Nat) (hi : i ≤ 1024) (hb : (x2, n3) = bst (hM hs s0) i) (hn3 : n3 ≤ 1024) (hd : 1024 - i < d), ZZ p l e rm_X7_longestRun s m args below meth c 0 0 Q (zz_A (RAd K) s.heap.size) (RP D C K (upd F 0 (nI 0)) hs mv G) 6 [(0, .ref (K 0)), (1, .int (nI s0)), (2, .int x2), (3, .int (nI n3)), (4, .int (nI i))] [] 22 := by
      intro d
      induction d with
      | zero => intro i x2 n3 hi hb hn3 hd; exact absurd hd (Nat.not_lt_zero _)
      | succ d ih22 =>
        intro i x2 n3 hi hb hn3 hd
        refine zz_iload 22 X.1 4 dX7_longestRun_22 rfl ?_
        refine zz_sipush 24 X.1 (v := nI 1024) dX7_longestRun_24 rfl ?_
        refine zz_icmp_ge 27 83 X.1 (nI_toInt (by omega)) (nI_toInt (by omega)) dX7_longestRun_27 (by decide) (fun h27 => ?_) (fun h27 => ?_)
        · skip
          refine zz_iload_n 83 X.1 2 dX7_longestRun_83 rfl ?_
          rw [← hQ]
          refine zz_iret 84 X.1 hr rfl hlk (upd F 0 (nI 0), hs, mv, G) ?_ (fun _ h _ => h) dX7_longestRun_84
          exact ⟨by rw [show i = 1024 by omega] at hb; rw [← hb], rfl⟩
        · skip
          refine zz_iconst 30 X.1 (v := nI 0) dX7_longestRun_30 rfl ?_
          refine zz_istore 31 X.1 (lv' := [(5, .int (nI 0)), (0, .ref (K 0)), (1, .int (nI s0)), (2, .int x2), (3, .int (nI n3)), (4, .int (nI i))]) dX7_longestRun_31 (by decide) rfl ?_
          have C33 : ∀ (d : Nat) (n5 : Nat) (hk : ∀ k, k < n5 → i + k < 1024 ∧ hM hs s0 (i + k) = true) (hk2 : n5 ≤ 1024 ∧ (bg (hM hs s0) i = false → n5 = 0)) (hd : 1024 - n5 < d), ZZ p l e rm_X7_longestRun s m args below meth c 0 0 Q (zz_A (RAd K) s.heap.size) (RP D C K (upd F 0 (nI 0)) hs mv G) 6 [(0, .ref (K 0)), (1, .int (nI s0)), (2, .int x2), (3, .int (nI n3)), (4, .int (nI i)), (5, .int (nI n5))] [] 33 := by
            intro d
            induction d with
            | zero => intro n5 hk hk2 hd; exact absurd hd (Nat.not_lt_zero _)
            | succ d ih33 =>
              intro n5 hk hk2 hd
              refine zz_aload_n 33 X.1 0 dX7_longestRun_33 rfl ?_
              refine zz_iload_n 34 X.1 1 dX7_longestRun_34 rfl ?_
              refine zz_iload 35 X.1 4 dX7_longestRun_35 rfl ?_
              refine rr_callVi 37 X hml (As := [.int (nI s0), .int (nI i)]) (kt_X7_begins l D C K hAp (upd F 0 (nI 0)) hs mv G s0 i (by first | rfl | assumption | omega) (by first | rfl | assumption | omega)) gX7_longestRun_X7_begins rfl ⟨rfl, rfl⟩ yd_X7_begins ⟨Nat.le_of_ble_eq_true rfl, Nat.le_of_ble_eq_true rfl⟩ rfl rfl (Nat.le_of_ble_eq_true rfl) dX7_longestRun_37 ?_
              rintro r2 ⟨F2, hs2, mv2, G2⟩ hu2
              obtain ⟨rfl, hv2⟩ := hu2
              cases hv2
              refine zz_world (P' := (RP D C K (upd F 0 (nI 0)) hs mv G)) (fun _ h => h) ?_
              refine zz_ifB_eq 40 62 X.1 dX7_longestRun_40 (by decide) (fun h40 => ?_) (fun h40 => ?_)
              · skip
                have he : n5 = (if bg (hM hs s0) i then rl (hM hs s0) i else 0) := by first | (rw [if_neg (by rw [h40]; decide)]; exact hk2.2 h40) | (rw [if_pos h40]; exact (rl_at (by omega) hk (fun hz => by have := h53; simp [hz] at this; exact this)).symm)
                refine zz_iload 62 X.1 5 dX7_longestRun_62 rfl ?_
                refine zz_iload_n 64 X.1 3 dX7_longestRun_64 rfl ?_
                refine zz_icmp_gt 65 71 X.1 (nI_toInt (by omega)) (nI_toInt (by omega)) dX7_longestRun_65 (by decide) (fun h65 => ?_) (fun h65 => ?_)
                · skip
                  refine zz_iload 71 X.1 5 dX7_longestRun_71 rfl ?_
                  refine zz_istore_n 73 X.1 (lv' := [(3, .int (nI n5)), (0, .ref (K 0)), (1, .int (nI s0)), (2, .int x2), (4, .int (nI i)), (5, .int (nI n5))]) dX7_longestRun_73 (by decide) rfl ?_
                  refine zz_iload 74 X.1 4 dX7_longestRun_74 rfl ?_
                  refine zz_istore_n 76 X.1 (lv' := [(2, .int (nI i)), (3, .int (nI n5)), (0, .ref (K 0)), (1, .int (nI s0)), (4, .int (nI i)), (5, .int (nI n5))]) dX7_longestRun_76 (by decide) rfl ?_
                  refine zz_iinc 77 X.1 4 (v := (nI (i + 1))) (lv' := [(4, .int (nI (i + 1))), (2, .int (nI i)), (3, .int (nI n5)), (0, .ref (K 0)), (1, .int (nI s0)), (5, .int (nI n5))]) dX7_longestRun_77 rfl (nI_add i 1) (by decide) rfl ?_
                  refine zz_goto 80 22 X.1 dX7_longestRun_80 (by decide) ?_
                  refine zz_lvs [3, 4, 1, 2, 0] rfl ?_
                  exact ih22 (i + 1) (nI i) n5 (by omega) (by have e : n5 = (if bg (hM hs s0) i then rl (hM hs s0) i else 0) := he; rw [bst, ← hb, ← e]; first | (rw [if_pos (by show n3 < n5; omega)]; done) | (rw [if_neg (by show ¬ n3 < n5; omega)]; done)) (by omega) (by omega)
                · skip
                  refine zz_goto 68 77 X.1 dX7_longestRun_68 (by decide) ?_
                  refine zz_iinc 77 X.1 4 (v := (nI (i + 1))) (lv' := [(4, .int (nI (i + 1))), (0, .ref (K 0)), (1, .int (nI s0)), (2, .int x2), (3, .int (nI n3)), (5, .int (nI n5))]) dX7_longestRun_77 rfl (nI_add i 1) (by decide) rfl ?_
                  refine zz_goto 80 22 X.1 dX7_longestRun_80 (by decide) ?_
                  refine zz_lvs [1, 2, 3, 4, 0] rfl ?_
                  exact ih22 (i + 1) x2 n3 (by omega) (by have e : n5 = (if bg (hM hs s0) i then rl (hM hs s0) i else 0) := he; rw [bst, ← hb, ← e]; first | (rw [if_pos (by show n3 < n5; omega)]; done) | (rw [if_neg (by show ¬ n3 < n5; omega)]; done)) (by omega) (by omega)
              · skip
                refine zz_aload_n 43 X.1 0 dX7_longestRun_43 rfl ?_
                refine zz_iload_n 44 X.1 1 dX7_longestRun_44 rfl ?_
                refine zz_iload 45 X.1 4 dX7_longestRun_45 rfl ?_
                refine zz_iload 47 X.1 5 dX7_longestRun_47 rfl ?_
                refine zz_iadd 49 X.1 (v := (nI (i + n5))) dX7_longestRun_49 (nI_add _ _) ?_
                refine rr_callVi 50 X hml (As := [.int (nI s0), .int (nI (i + n5))]) (kt_X7_isIn l D C K hAp (upd F 0 (nI 0)) hs mv G s0 (i + n5) (by first | rfl | assumption | omega) (by first | rfl | assumption | omega)) gX7_longestRun_X7_isIn rfl ⟨rfl, rfl⟩ yd_X7_isIn ⟨Nat.le_of_ble_eq_true rfl, Nat.le_of_ble_eq_true rfl⟩ rfl rfl (Nat.le_of_ble_eq_true rfl) dX7_longestRun_50 ?_
                rintro r3 ⟨F3, hs3, mv3, G3⟩ hu3
                obtain ⟨rfl, hv3⟩ := hu3
                cases hv3
                refine zz_world (P' := (RP D C K (upd F 0 (nI 0)) hs mv G)) (fun _ h => h) ?_
                refine zz_ifB_eq 53 62 X.1 dX7_longestRun_53 (by decide) (fun h53 => ?_) (fun h53 => ?_)
                · skip
                  have he : n5 = (if bg (hM hs s0) i then rl (hM hs s0) i else 0) := by first | (rw [if_neg (by rw [h40]; decide)]; exact hk2.2 h40) | (rw [if_pos h40]; exact (rl_at (by omega) hk (fun hz => by have := h53; simp [hz] at this; exact this)).symm)
                  refine zz_iload 62 X.1 5 dX7_longestRun_62 rfl ?_
                  refine zz_iload_n 64 X.1 3 dX7_longestRun_64 rfl ?_
                  refine zz_icmp_gt 65 71 X.1 (nI_toInt (by omega)) (nI_toInt (by omega)) dX7_longestRun_65 (by decide) (fun h65 => ?_) (fun h65 => ?_)
                  · skip
                    refine zz_iload 71 X.1 5 dX7_longestRun_71 rfl ?_
                    refine zz_istore_n 73 X.1 (lv' := [(3, .int (nI n5)), (0, .ref (K 0)), (1, .int (nI s0)), (2, .int x2), (4, .int (nI i)), (5, .int (nI n5))]) dX7_longestRun_73 (by decide) rfl ?_
                    refine zz_iload 74 X.1 4 dX7_longestRun_74 rfl ?_
                    refine zz_istore_n 76 X.1 (lv' := [(2, .int (nI i)), (3, .int (nI n5)), (0, .ref (K 0)), (1, .int (nI s0)), (4, .int (nI i)), (5, .int (nI n5))]) dX7_longestRun_76 (by decide) rfl ?_
                    refine zz_iinc 77 X.1 4 (v := (nI (i + 1))) (lv' := [(4, .int (nI (i + 1))), (2, .int (nI i)), (3, .int (nI n5)), (0, .ref (K 0)), (1, .int (nI s0)), (5, .int (nI n5))]) dX7_longestRun_77 rfl (nI_add i 1) (by decide) rfl ?_
                    refine zz_goto 80 22 X.1 dX7_longestRun_80 (by decide) ?_
                    refine zz_lvs [3, 4, 1, 2, 0] rfl ?_
                    exact ih22 (i + 1) (nI i) n5 (by omega) (by have e : n5 = (if bg (hM hs s0) i then rl (hM hs s0) i else 0) := he; rw [bst, ← hb, ← e]; first | (rw [if_pos (by show n3 < n5; omega)]; done) | (rw [if_neg (by show ¬ n3 < n5; omega)]; done)) (by omega) (by omega)
                  · skip
                    refine zz_goto 68 77 X.1 dX7_longestRun_68 (by decide) ?_
                    refine zz_iinc 77 X.1 4 (v := (nI (i + 1))) (lv' := [(4, .int (nI (i + 1))), (0, .ref (K 0)), (1, .int (nI s0)), (2, .int x2), (3, .int (nI n3)), (5, .int (nI n5))]) dX7_longestRun_77 rfl (nI_add i 1) (by decide) rfl ?_
                    refine zz_goto 80 22 X.1 dX7_longestRun_80 (by decide) ?_
                    refine zz_lvs [1, 2, 3, 4, 0] rfl ?_
                    exact ih22 (i + 1) x2 n3 (by omega) (by have e : n5 = (if bg (hM hs s0) i then rl (hM hs s0) i else 0) := he; rw [bst, ← hb, ← e]; first | (rw [if_pos (by show n3 < n5; omega)]; done) | (rw [if_neg (by show ¬ n3 < n5; omega)]; done)) (by omega) (by omega)
                · skip
                  refine zz_iinc 56 X.1 5 (v := (nI (n5 + 1))) (lv' := [(5, .int (nI (n5 + 1))), (0, .ref (K 0)), (1, .int (nI s0)), (2, .int x2), (3, .int (nI n3)), (4, .int (nI i))]) dX7_longestRun_56 rfl (nI_add n5 1) (by decide) rfl ?_
                  refine zz_goto 59 33 X.1 dX7_longestRun_59 (by decide) ?_
                  refine zz_lvs [1, 2, 3, 4, 5, 0] rfl ?_
                  exact ih33 (n5 + 1) (fun k h => by rcases Nat.lt_or_ge k n5 with z | z; exact hk k z; rw [show k = n5 by omega]; exact ⟨of_decide_eq_true (Bool.and_eq_true_iff.mp h53).1, (Bool.and_eq_true_iff.mp h53).2⟩) (by have := of_decide_eq_true (Bool.and_eq_true_iff.mp h53).1; exact ⟨by omega, fun z => by rw [z] at h40; cases h40⟩) (by have := of_decide_eq_true (Bool.and_eq_true_iff.mp h53).1; omega)
          refine zz_lvs [1, 2, 3, 4, 5, 0] rfl ?_
          exact C33 (1024 - 0 + 1) 0 (fun k h => by omega) (by omega) (Nat.lt_succ_self _)
    refine zz_lvs [3, 4, 2, 1, 0] rfl ?_
    exact C22 (1024 - 0 + 1) 0 (-1) 0 (by omega) (rfl) (by omega) (Nat.lt_succ_self _)
  · exact absurd h10 (by decide)
