abbrev rm_X7_in : Room := { frames := 0, cells := 0, slots := 0, locals := 0 }
theorem yd_X7_in : yX7_in.cls = RX7 ∧ yX7_in.cls ≠ "java/lang/invoke/MethodHandle" ∧ yX7_in.cls ≠ "java/lang/invoke/VarHandle" ∧ (parseMethodDescriptor yX7_in.desc).map (fun d => d.parameters.length) = some 3 := by decide +kernel
set_option maxHeartbeats 4000000 in
set_option maxRecDepth 100000 in
theorem kt_X7_in (l : Launch) (v0 : Int32) (v1 : Int32) (v2 : Int32) (a : Int) (b : Int) (c : Int) (h_a : v0.toInt = a) (h_b : v1.toInt = b) (h_c : v2.toInt = c) : SMi l yX7_in wsX7_in rm_X7_in [.int v0, .int v1, .int v2] (fun (r : Int32) => (b ≤ a ∧ a ≤ c → r = (bI true)) ∧ (¬ (b ≤ a ∧ a ≤ c) → r = (bI false))) := by
  refine SMi_of (lv := [(0, .int v0), (1, .int v1), (2, .int v2)]) (cc := cX7_in) (maxL := 3) (ret := (some .boolean)) rfl (by decide +kernel) (Nat.le_of_ble_eq_true rfl) rfl ?_
  intro p e s m args below meth c hc hts hown hml hr hlk
  have X : (p.tables.exec = Jvm.exec ∧ c.code = cX7_in) ∧ True := ⟨hc, trivial⟩
  generalize hQ : MQ below _ args s 0 0 _ = Q
  refine zz_iload_n 0 X.1 0 dX7_in_0 rfl ?_
  refine zz_iload_n 1 X.1 1 dX7_in_1 rfl ?_
  refine zz_icmp_lt 2 14 X.1 h_a h_b dX7_in_2 (by decide) (fun h2 => ?_) (fun h2 => ?_)
  · skip
    refine zz_iconst 14 X.1 (v := nI 0) dX7_in_14 rfl ?_
    refine zz_topi (bI false) rfl ?_
    rw [← hQ]
    refine zz_iret 15 X.1 hr (bI_nar _) hlk () ?_ (fun _ _ _ => trivial) dX7_in_15
    refine ⟨fun hc => ?_, fun hc => ?_⟩ <;> first | (exfalso; omega) | rfl
  · skip
    refine zz_iload_n 5 X.1 0 dX7_in_5 rfl ?_
    refine zz_iload_n 6 X.1 2 dX7_in_6 rfl ?_
    refine zz_icmp_gt 7 14 X.1 h_a h_c dX7_in_7 (by decide) (fun h7 => ?_) (fun h7 => ?_)
    · skip
      refine zz_iconst 14 X.1 (v := nI 0) dX7_in_14 rfl ?_
      refine zz_topi (bI false) rfl ?_
      rw [← hQ]
      refine zz_iret 15 X.1 hr (bI_nar _) hlk () ?_ (fun _ _ _ => trivial) dX7_in_15
      refine ⟨fun hc => ?_, fun hc => ?_⟩ <;> first | (exfalso; omega) | rfl
    · skip
      refine zz_iconst 10 X.1 (v := nI 1) dX7_in_10 rfl ?_
      refine zz_goto 11 15 X.1 dX7_in_11 (by decide) ?_
      refine zz_topi (bI true) rfl ?_
      rw [← hQ]
      refine zz_iret 15 X.1 hr (bI_nar _) hlk () ?_ (fun _ _ _ => trivial) dX7_in_15
      refine ⟨fun hc => ?_, fun hc => ?_⟩ <;> first | (exfalso; omega) | rfl

abbrev rm_X7_isRange : Room := { frames := 0, cells := 0, slots := 0, locals := 0 }
theorem yd_X7_isRange : yX7_isRange.cls = RX7 ∧ yX7_isRange.cls ≠ "java/lang/invoke/MethodHandle" ∧ yX7_isRange.cls ≠ "java/lang/invoke/VarHandle" ∧ (parseMethodDescriptor yX7_isRange.desc).map (fun d => d.parameters.length) = some 2 := by decide +kernel
set_option maxHeartbeats 4000000 in
set_option maxRecDepth 100000 in
theorem kt_X7_isRange (l : Launch) (v0 : Int32) (v1 : Int32) (a : Int) (b : Int) (h_a : v0.toInt = a) (h_b : v1.toInt = b) : SMi l yX7_isRange wsX7_isRange rm_X7_isRange [.int v0, .int v1] (fun (r : Int32) => (0 ≤ a ∧ a ≤ b → r = (bI true)) ∧ (¬ (0 ≤ a ∧ a ≤ b) → r = (bI false))) := by
  refine SMi_of (lv := [(0, .int v0), (1, .int v1)]) (cc := cX7_isRange) (maxL := 2) (ret := (some .boolean)) rfl (by decide +kernel) (Nat.le_of_ble_eq_true rfl) rfl ?_
  intro p e s m args below meth c hc hts hown hml hr hlk
  have X : (p.tables.exec = Jvm.exec ∧ c.code = cX7_isRange) ∧ True := ⟨hc, trivial⟩
  generalize hQ : MQ below _ args s 0 0 _ = Q
  refine zz_iload_n 0 X.1 0 dX7_isRange_0 rfl ?_
  refine zz_if_lt 1 13 X.1 h_a dX7_isRange_1 (by decide) (fun h1 => ?_) (fun h1 => ?_)
  · skip
    refine zz_iconst 13 X.1 (v := nI 0) dX7_isRange_13 rfl ?_
    refine zz_topi (bI false) rfl ?_
    rw [← hQ]
    refine zz_iret 14 X.1 hr (bI_nar _) hlk () ?_ (fun _ _ _ => trivial) dX7_isRange_14
    refine ⟨fun hc => ?_, fun hc => ?_⟩ <;> first | (exfalso; omega) | rfl
  · skip
    refine zz_iload_n 4 X.1 0 dX7_isRange_4 rfl ?_
    refine zz_iload_n 5 X.1 1 dX7_isRange_5 rfl ?_
    refine zz_icmp_gt 6 13 X.1 h_a h_b dX7_isRange_6 (by decide) (fun h6 => ?_) (fun h6 => ?_)
    · skip
      refine zz_iconst 13 X.1 (v := nI 0) dX7_isRange_13 rfl ?_
      refine zz_topi (bI false) rfl ?_
      rw [← hQ]
      refine zz_iret 14 X.1 hr (bI_nar _) hlk () ?_ (fun _ _ _ => trivial) dX7_isRange_14
      refine ⟨fun hc => ?_, fun hc => ?_⟩ <;> first | (exfalso; omega) | rfl
    · skip
      refine zz_iconst 9 X.1 (v := nI 1) dX7_isRange_9 rfl ?_
      refine zz_goto 10 14 X.1 dX7_isRange_10 (by decide) ?_
      refine zz_topi (bI true) rfl ?_
      rw [← hQ]
      refine zz_iret 14 X.1 hr (bI_nar _) hlk () ?_ (fun _ _ _ => trivial) dX7_isRange_14
      refine ⟨fun hc => ?_, fun hc => ?_⟩ <;> first | (exfalso; omega) | rfl

abbrev rm_X7_fails : Room := { frames := 0, cells := 0, slots := 0, locals := 0 }
theorem yd_X7_fails : yX7_fails.cls = RX7 ∧ yX7_fails.cls ≠ "java/lang/invoke/MethodHandle" ∧ yX7_fails.cls ≠ "java/lang/invoke/VarHandle" ∧ (parseMethodDescriptor yX7_fails.desc).map (fun d => d.parameters.length) = some 2 := by decide +kernel
set_option maxHeartbeats 4000000 in
set_option maxRecDepth 100000 in
theorem kt_X7_fails (l : Launch) (D : va_G) (C : Nat → ClassId) (K : Nat → Nat) (hAp : RAp K) (F : Nat → Int32) (hs mv : Nat → Bool) (G : Nat → Nat → Int32) (g : Bool) (k : Nat) (hF0 : F 0 = nI 0) (hk : 0 < k ∧ k < 100) : RMi l yX7_fails wsX7_fails rm_X7_fails D C K [.int (bI g), .int (nI k)] F hs mv G (fun (r : Int32) (u : MSt) => (g = true → r = (bI false) ∧ u = (F, hs, mv, G)) ∧ (g = false → r = (bI true) ∧ u = (upd F 0 (nI k), hs, mv, G))) := by
  refine RMi_of (lv := [(0, .ref (K 0)), (1, .int (bI g)), (2, .int (nI k))]) (cc := cX7_fails) (maxL := 3) (ret := (some .boolean)) rfl rfl (by decide +kernel) (Nat.le_of_ble_eq_true rfl) rfl ?_
  intro p e s m args below meth c X hml hr hlk
  generalize hQ : MQ below _ args s 0 0 _ = Q
  refine zz_iload_n 0 X.1 1 dX7_fails_0 rfl ?_
  refine zz_ifB_ne 1 16 X.1 dX7_fails_1 (by decide) (fun h1 => ?_) (fun h1 => ?_)
  · skip
    refine zz_aload_n 16 X.1 0 dX7_fails_16 rfl ?_
    refine rr_get 17 X 0 (by decide) (v := .int (F 0)) rfl (by decide +kernel) rfl dX7_fails_17 ?_
    refine zz_topi (nI 0) (hF0) ?_
    refine zz_if_eq 20 27 X.1 (nI_toInt (by omega)) dX7_fails_20 (by decide) (fun h20 => ?_) (fun h20 => ?_)
    · skip
      refine zz_iconst 27 X.1 (v := nI 0) dX7_fails_27 rfl ?_
      refine zz_topi (bI false) rfl ?_
      rw [← hQ]
      refine zz_iret 28 X.1 hr (bI_nar _) hlk (F, hs, mv, G) ?_ (fun _ h _ => h) dX7_fails_28
      refine ⟨fun hc => ?_, fun hc => ?_⟩ <;> first | (exact ⟨rfl, rfl⟩) | (exfalso; omega) | (simp_all; done)
    · exfalso; omega
  · skip
    refine zz_aload_n 4 X.1 0 dX7_fails_4 rfl ?_
    refine rr_get 5 X 0 (by decide) (v := .int (F 0)) rfl (by decide +kernel) rfl dX7_fails_5 ?_
    refine zz_topi (nI 0) (hF0) ?_
    refine zz_if_ne 8 16 X.1 (nI_toInt (by omega)) dX7_fails_8 (by decide) (fun h8 => ?_) (fun h8 => ?_)
    · exfalso; omega
    · skip
      refine zz_aload_n 11 X.1 0 dX7_fails_11 rfl ?_
      refine zz_iload_n 12 X.1 2 dX7_fails_12 rfl ?_
      refine rr_put 13 hAp X 0 (by decide) (F' := upd F 0 (nI k)) rfl (by decide +kernel) ⟨rfl, rfl⟩ (by decide +kernel) dX7_fails_13 ?_
      refine zz_aload_n 16 X.1 0 dX7_fails_16 rfl ?_
      refine rr_get 17 X 0 (by decide) (v := .int (nI k)) rfl (by decide +kernel) rfl dX7_fails_17 ?_
      refine zz_if_eq 20 27 X.1 (nI_toInt (by omega)) dX7_fails_20 (by decide) (fun h20 => ?_) (fun h20 => ?_)
      · skip
        refine zz_iconst 27 X.1 (v := nI 0) dX7_fails_27 rfl ?_
        refine zz_topi (bI false) rfl ?_
        rw [← hQ]
        refine zz_iret 28 X.1 hr (bI_nar _) hlk (upd F 0 (nI k), hs, mv, G) ?_ (fun _ h _ => h) dX7_fails_28
        refine ⟨fun hc => ?_, fun hc => ?_⟩ <;> first | (exact ⟨rfl, rfl⟩) | (exfalso; omega) | (simp_all; done)
      · skip
        refine zz_iconst 23 X.1 (v := nI 1) dX7_fails_23 rfl ?_
        refine zz_goto 24 28 X.1 dX7_fails_24 (by decide) ?_
        refine zz_topi (bI true) rfl ?_
        rw [← hQ]
        refine zz_iret 28 X.1 hr (bI_nar _) hlk (upd F 0 (nI k), hs, mv, G) ?_ (fun _ h _ => h) dX7_fails_28
        refine ⟨fun hc => ?_, fun hc => ?_⟩ <;> first | (exact ⟨rfl, rfl⟩) | (exfalso; omega) | (simp_all; done)

abbrev rm_X7_noSet : Room := { frames := 1, cells := 0, slots := 0, locals := 22 }
theorem yd_X7_noSet : yX7_noSet.cls = RX7 ∧ yX7_noSet.cls ≠ "java/lang/invoke/MethodHandle" ∧ yX7_noSet.cls ≠ "java/lang/invoke/VarHandle" ∧ (parseMethodDescriptor yX7_noSet.desc).map (fun d => d.parameters.length) = some 1 := by decide +kernel
set_option maxHeartbeats 4000000 in
set_option maxRecDepth 100000 in
theorem kt_X7_noSet (l : Launch) (D : va_G) (C : Nat → ClassId) (K : Nat → Nat) (hAp : RAp K) (F : Nat → Int32) (hs mv : Nat → Bool) (G : Nat → Nat → Int32) (x0 : Int32) (a : Int) (h_a : x0.toInt = a) (hF0 : F 0 = nI 0) : RMi l yX7_noSet wsX7_noSet rm_X7_noSet D C K [.int x0] F hs mv G (fun (r : Int32) (u : MSt) => (0 ≤ a ∧ a < 8 → r = (bI false) ∧ u = (F, hs, mv, G)) ∧ (¬ (0 ≤ a ∧ a < 8) → r = (bI true) ∧ u = (upd F 0 (nI 1), hs, mv, G))) := by
  refine RMi_of (lv := [(0, .ref (K 0)), (1, .int x0)]) (cc := cX7_noSet) (maxL := 2) (ret := (some .boolean)) rfl rfl (by decide +kernel) (Nat.le_of_ble_eq_true rfl) rfl ?_
  intro p e s m args below meth c X hml hr hlk
  generalize hQ : MQ below _ args s 0 0 _ = Q
  refine zz_aload_n 0 X.1 0 dX7_noSet_0 rfl ?_
  refine zz_iload_n 1 X.1 1 dX7_noSet_1 rfl ?_
  refine zz_iconst 2 X.1 (v := nI 0) dX7_noSet_2 rfl ?_
  refine zz_bipush 3 X.1 (v := nI 7) dX7_noSet_3 rfl ?_
  refine zz_callS0i 5 ⟨X.1.1, X.1.2, hml, X.2.2.2.1, X.2.1⟩ (fun q h => Or.inr h) RP_keep (As := [.int x0, .int (nI 0), .int (nI 7)]) (kt_X7_in l x0 (nI 0) (nI 7) a ((0 : Nat) : Int) ((7 : Nat) : Int) (h_a) (nI_toInt (by omega)) (nI_toInt (by omega))) gX7_noSet_X7_in rfl ⟨rfl, rfl⟩ yd_X7_in.2 ⟨Nat.le_of_ble_eq_true rfl, Nat.le_of_ble_eq_true rfl⟩ rfl rfl (Nat.le_of_ble_eq_true rfl) ⟨Nat.zero_le _, Nat.zero_le _⟩ dX7_noSet_5 ?_
  intro r1 hu1
  rcases (show (((0 : Nat) : Int) ≤ a ∧ a ≤ ((7 : Nat) : Int)) ∨ (¬ (((0 : Nat) : Int) ≤ a ∧ a ≤ ((7 : Nat) : Int))) by omega) with hc1 | hc1
  · skip
    obtain rfl := (hu1.1 hc1)
    refine zz_iconst 8 X.1 (v := nI 1) dX7_noSet_8 rfl ?_
    refine rr_callVi 9 X hml (As := [.int (bI true), .int (nI 1)]) (kt_X7_fails l D C K hAp F hs mv G true 1 (by first | rfl | assumption | omega) (by first | rfl | assumption | omega)) gX7_noSet_X7_fails rfl ⟨rfl, rfl⟩ yd_X7_fails ⟨Nat.le_of_ble_eq_true rfl, Nat.le_of_ble_eq_true rfl⟩ rfl rfl (Nat.le_of_ble_eq_true rfl) dX7_noSet_9 ?_
    rintro r2 ⟨F2, hs2, mv2, G2⟩ hu2
    obtain ⟨rfl, hv2⟩ := (hu2.1 (rfl))
    cases hv2
    refine zz_world (P' := (RP D C K F hs mv G)) (fun _ h => h) ?_
    rw [← hQ]
    refine zz_iret 12 X.1 hr (bI_nar _) hlk (F, hs, mv, G) ?_ (fun _ h _ => h) dX7_noSet_12
    refine ⟨fun hc => ?_, fun hc => ?_⟩ <;> first | (exact ⟨rfl, rfl⟩) | (exact rfl) | (exfalso; omega)
  · skip
    obtain rfl := (hu1.2 hc1)
    refine zz_iconst 8 X.1 (v := nI 1) dX7_noSet_8 rfl ?_
    refine rr_callVi 9 X hml (As := [.int (bI false), .int (nI 1)]) (kt_X7_fails l D C K hAp F hs mv G false 1 (by first | rfl | assumption | omega) (by first | rfl | assumption | omega)) gX7_noSet_X7_fails rfl ⟨rfl, rfl⟩ yd_X7_fails ⟨Nat.le_of_ble_eq_true rfl, Nat.le_of_ble_eq_true rfl⟩ rfl rfl (Nat.le_of_ble_eq_true rfl) dX7_noSet_9 ?_
    rintro r3 ⟨F3, hs3, mv3, G3⟩ hu3
    obtain ⟨rfl, hv3⟩ := (hu3.2 (rfl))
    cases hv3
    refine zz_world (P' := (RP D C K (upd F 0 (nI 1)) hs mv G)) (fun _ h => h) ?_
    rw [← hQ]
    refine zz_iret 12 X.1 hr (bI_nar _) hlk (upd F 0 (nI 1), hs, mv, G) ?_ (fun _ h _ => h) dX7_noSet_12
    refine ⟨fun hc => ?_, fun hc => ?_⟩ <;> first | (exact ⟨rfl, rfl⟩) | (exact rfl) | (exfalso; omega)

abbrev rm_X7_noSets : Room := { frames := 2, cells := 0, slots := 0, locals := 43 }
theorem yd_X7_noSets : yX7_noSets.cls = RX7 ∧ yX7_noSets.cls ≠ "java/lang/invoke/MethodHandle" ∧ yX7_noSets.cls ≠ "java/lang/invoke/VarHandle" ∧ (parseMethodDescriptor yX7_noSets.desc).map (fun d => d.parameters.length) = some 2 := by decide +kernel
set_option maxHeartbeats 4000000 in
set_option maxRecDepth 100000 in
theorem kt_X7_noSets (l : Launch) (D : va_G) (C : Nat → ClassId) (K : Nat → Nat) (hAp : RAp K) (F : Nat → Int32) (hs mv : Nat → Bool) (G : Nat → Nat → Int32) (x0 : Int32) (x1 : Int32) (a : Int) (b : Int) (h_a : x0.toInt = a) (h_b : x1.toInt = b) (hF0 : F 0 = nI 0) : RMi l yX7_noSets wsX7_noSets rm_X7_noSets D C K [.int x0, .int x1] F hs mv G (fun (r : Int32) (u : MSt) => ((0 ≤ a ∧ a < 8) ∧ 0 ≤ b ∧ b < 8 → r = (bI false) ∧ u = (F, hs, mv, G)) ∧ (¬ ((0 ≤ a ∧ a < 8) ∧ 0 ≤ b ∧ b < 8) → r = (bI true) ∧ u = (upd F 0 (nI 1), hs, mv, G))) := by
  refine RMi_of (lv := [(0, .ref (K 0)), (1, .int x0), (2, .int x1)]) (cc := cX7_noSets) (maxL := 3) (ret := (some .boolean)) rfl rfl (by decide +kernel) (Nat.le_of_ble_eq_true rfl) rfl ?_
  intro p e s m args below meth c X hml hr hlk
  generalize hQ : MQ below _ args s 0 0 _ = Q
  refine zz_aload_n 0 X.1 0 dX7_noSets_0 rfl ?_
  refine zz_iload_n 1 X.1 1 dX7_noSets_1 rfl ?_
  refine rr_callVi 2 X hml (As := [.int x0]) (kt_X7_noSet l D C K hAp F hs mv G x0 a (h_a) (by first | rfl | assumption | omega)) gX7_noSets_X7_noSet rfl ⟨rfl, rfl⟩ yd_X7_noSet ⟨Nat.le_of_ble_eq_true rfl, Nat.le_of_ble_eq_true rfl⟩ rfl rfl (Nat.le_of_ble_eq_true rfl) dX7_noSets_2 ?_
  rintro r1 ⟨F1, hs1, mv1, G1⟩ hu1
  rcases (show (0 ≤ a ∧ a < 8) ∨ (¬ (0 ≤ a ∧ a < 8)) by omega) with hc1 | hc1
  · skip
    obtain ⟨rfl, hv1⟩ := (hu1.1 hc1)
    cases hv1
    refine zz_world (P' := (RP D C K F hs mv G)) (fun _ h => h) ?_
    refine zz_ifB_ne 5 16 X.1 dX7_noSets_5 (by decide) (fun h5 => ?_) (fun h5 => ?_)
    · exact absurd h5 (by decide)
    · skip
      refine zz_aload_n 8 X.1 0 dX7_noSets_8 rfl ?_
      refine zz_iload_n 9 X.1 2 dX7_noSets_9 rfl ?_
      refine rr_callVi 10 X hml (As := [.int x1]) (kt_X7_noSet l D C K hAp F hs mv G x1 b (h_b) (by first | rfl | assumption | omega)) gX7_noSets_X7_noSet rfl ⟨rfl, rfl⟩ yd_X7_noSet ⟨Nat.le_of_ble_eq_true rfl, Nat.le_of_ble_eq_true rfl⟩ rfl rfl (Nat.le_of_ble_eq_true rfl) dX7_noSets_10 ?_
      rintro r2 ⟨F2, hs2, mv2, G2⟩ hu2
      rcases (show (0 ≤ b ∧ b < 8) ∨ (¬ (0 ≤ b ∧ b < 8)) by omega) with hc2 | hc2
      · skip
        obtain ⟨rfl, hv2⟩ := (hu2.1 hc2)
        cases hv2
        refine zz_world (P' := (RP D C K F hs mv G)) (fun _ h => h) ?_
        refine zz_ifB_eq 13 20 X.1 dX7_noSets_13 (by decide) (fun h13 => ?_) (fun h13 => ?_)
        · skip
          refine zz_iconst 20 X.1 (v := nI 0) dX7_noSets_20 rfl ?_
          refine zz_topi (bI false) rfl ?_
          rw [← hQ]
          refine zz_iret 21 X.1 hr (bI_nar _) hlk (F, hs, mv, G) ?_ (fun _ h _ => h) dX7_noSets_21
          refine ⟨fun hc => ?_, fun hc => ?_⟩ <;> first | (exact ⟨rfl, rfl⟩) | (exact rfl) | (exfalso; omega)
        · exact absurd h13 (by decide)
      · skip
        obtain ⟨rfl, hv2⟩ := (hu2.2 hc2)
        cases hv2
        refine zz_world (P' := (RP D C K (upd F 0 (nI 1)) hs mv G)) (fun _ h => h) ?_
        refine zz_ifB_eq 13 20 X.1 dX7_noSets_13 (by decide) (fun h13 => ?_) (fun h13 => ?_)
        · exact absurd h13 (by decide)
        · skip
          refine zz_iconst 16 X.1 (v := nI 1) dX7_noSets_16 rfl ?_
          refine zz_goto 17 21 X.1 dX7_noSets_17 (by decide) ?_
          refine zz_topi (bI true) rfl ?_
          rw [← hQ]
          refine zz_iret 21 X.1 hr (bI_nar _) hlk (upd F 0 (nI 1), hs, mv, G) ?_ (fun _ h _ => h) dX7_noSets_21
          refine ⟨fun hc => ?_, fun hc => ?_⟩ <;> first | (exact ⟨rfl, rfl⟩) | (exact rfl) | (exfalso; omega)
  · skip
    obtain ⟨rfl, hv1⟩ := (hu1.2 hc1)
    cases hv1
    refine zz_world (P' := (RP D C K (upd F 0 (nI 1)) hs mv G)) (fun _ h => h) ?_
    refine zz_ifB_ne 5 16 X.1 dX7_noSets_5 (by decide) (fun h5 => ?_) (fun h5 => ?_)
    · skip
      refine zz_iconst 16 X.1 (v := nI 1) dX7_noSets_16 rfl ?_
      refine zz_goto 17 21 X.1 dX7_noSets_17 (by decide) ?_
      refine zz_topi (bI true) rfl ?_
      rw [← hQ]
      refine zz_iret 21 X.1 hr (bI_nar _) hlk (upd F 0 (nI 1), hs, mv, G) ?_ (fun _ h _ => h) dX7_noSets_21
      refine ⟨fun hc => ?_, fun hc => ?_⟩ <;> first | (exact ⟨rfl, rfl⟩) | (exact rfl) | (exfalso; omega)
    · exact absurd h5 (by decide)

abbrev rm_X7_isBelow : Room := { frames := 0, cells := 0, slots := 0, locals := 0 }
theorem yd_X7_isBelow : yX7_isBelow.cls = RX7 ∧ yX7_isBelow.cls ≠ "java/lang/invoke/MethodHandle" ∧ yX7_isBelow.cls ≠ "java/lang/invoke/VarHandle" ∧ (parseMethodDescriptor yX7_isBelow.desc).map (fun d => d.parameters.length) = some 2 := by decide +kernel
set_option maxHeartbeats 4000000 in
set_option maxRecDepth 100000 in
theorem kt_X7_isBelow (l : Launch) (D : va_G) (C : Nat → ClassId) (K : Nat → Nat) (hAp : RAp K) (F : Nat → Int32) (hs mv : Nat → Bool) (G : Nat → Nat → Int32) (x0 : Int32) (x1 : Int32) (a : Int) (b : Int) (h_a : x0.toInt = a) (h_b : x1.toInt = b) (hF0 : F 0 = nI 0) : RMi l yX7_isBelow wsX7_isBelow rm_X7_isBelow D C K [.int x0, .int x1] F hs mv G (fun (r : Int32) (u : MSt) => (b ≤ a → r = (bI false) ∧ u = (F, hs, mv, G)) ∧ (a < b → r = (bI true) ∧ u = (upd (upd F 0 (nI 2)) 2 (F 2 + 1), hs, mv, G))) := by
  refine RMi_of (lv := [(0, .ref (K 0)), (1, .int x0), (2, .int x1)]) (cc := cX7_isBelow) (maxL := 3) (ret := (some .boolean)) rfl rfl (by decide +kernel) (Nat.le_of_ble_eq_true rfl) rfl ?_
  intro p e s m args below meth c X hml hr hlk
  generalize hQ : MQ below _ args s 0 0 _ = Q
  refine zz_aload_n 0 X.1 0 dX7_isBelow_0 rfl ?_
  refine rr_get 1 X 0 (by decide) (v := .int (F 0)) rfl (by decide +kernel) rfl dX7_isBelow_1 ?_
  refine zz_topi (nI 0) (hF0) ?_
  refine zz_if_ne 4 27 X.1 (nI_toInt (by omega)) dX7_isBelow_4 (by decide) (fun h4 => ?_) (fun h4 => ?_)
  · exfalso; omega
  · skip
    refine zz_iload_n 7 X.1 1 dX7_isBelow_7 rfl ?_
    refine zz_iload_n 8 X.1 2 dX7_isBelow_8 rfl ?_
    refine zz_icmp_ge 9 27 X.1 h_a h_b dX7_isBelow_9 (by decide) (fun h9 => ?_) (fun h9 => ?_)
    · skip
      refine zz_aload_n 27 X.1 0 dX7_isBelow_27 rfl ?_
      refine rr_get 28 X 0 (by decide) (v := .int (F 0)) rfl (by decide +kernel) rfl dX7_isBelow_28 ?_
      refine zz_topi (nI 0) (hF0) ?_
      refine zz_if_eq 31 38 X.1 (nI_toInt (by omega)) dX7_isBelow_31 (by decide) (fun h31 => ?_) (fun h31 => ?_)
      · skip
        refine zz_iconst 38 X.1 (v := nI 0) dX7_isBelow_38 rfl ?_
        refine zz_topi (bI false) rfl ?_
        rw [← hQ]
        refine zz_iret 39 X.1 hr (bI_nar _) hlk (F, hs, mv, G) ?_ (fun _ h _ => h) dX7_isBelow_39
        refine ⟨fun hc => ?_, fun hc => ?_⟩ <;> first | (exact ⟨rfl, rfl⟩) | (exact rfl) | (exfalso; omega)
      · exfalso; omega
    · skip
      refine zz_aload_n 12 X.1 0 dX7_isBelow_12 rfl ?_
      refine zz_dup 13 X.1 dX7_isBelow_13 rfl ?_
      refine rr_get 14 X 2 (by decide) (v := .int (F 2)) rfl (by decide +kernel) rfl dX7_isBelow_14 ?_
      refine zz_iconst 17 X.1 (v := nI 1) dX7_isBelow_17 rfl ?_
      refine zz_iadd 18 X.1 (v := ((F 2) + (nI 1))) dX7_isBelow_18 rfl ?_
      refine rr_put 19 hAp X 2 (by decide) (F' := upd F 2 ((F 2) + (nI 1))) rfl (by decide +kernel) ⟨rfl, rfl⟩ (by decide +kernel) dX7_isBelow_19 ?_
      refine zz_aload_n 22 X.1 0 dX7_isBelow_22 rfl ?_
      refine zz_iconst 23 X.1 (v := nI 2) dX7_isBelow_23 rfl ?_
      refine rr_put 24 hAp X 0 (by decide) (F' := upd (upd F 0 (nI 2)) 2 ((F 2) + (nI 1))) rfl (by decide +kernel) ⟨rfl, rfl⟩ (by decide +kernel) dX7_isBelow_24 ?_
      refine zz_aload_n 27 X.1 0 dX7_isBelow_27 rfl ?_
      refine rr_get 28 X 0 (by decide) (v := .int (nI 2)) rfl (by decide +kernel) rfl dX7_isBelow_28 ?_
      refine zz_if_eq 31 38 X.1 (nI_toInt (by omega)) dX7_isBelow_31 (by decide) (fun h31 => ?_) (fun h31 => ?_)
      · exfalso; omega
      · skip
        refine zz_iconst 34 X.1 (v := nI 1) dX7_isBelow_34 rfl ?_
        refine zz_goto 35 39 X.1 dX7_isBelow_35 (by decide) ?_
        refine zz_topi (bI true) rfl ?_
        rw [← hQ]
        refine zz_iret 39 X.1 hr (bI_nar _) hlk (upd (upd F 0 (nI 2)) 2 ((F 2) + (nI 1)), hs, mv, G) ?_ (fun _ h _ => h) dX7_isBelow_39
        refine ⟨fun hc => ?_, fun hc => ?_⟩ <;> first | (exact ⟨rfl, rfl⟩) | (exact rfl) | (exfalso; omega)

abbrev rm_X7_noRange : Room := { frames := 1, cells := 0, slots := 0, locals := 21 }
theorem yd_X7_noRange : yX7_noRange.cls = RX7 ∧ yX7_noRange.cls ≠ "java/lang/invoke/MethodHandle" ∧ yX7_noRange.cls ≠ "java/lang/invoke/VarHandle" ∧ (parseMethodDescriptor yX7_noRange.desc).map (fun d => d.parameters.length) = some 2 := by decide +kernel
set_option maxHeartbeats 4000000 in
set_option maxRecDepth 100000 in
theorem kt_X7_noRange (l : Launch) (D : va_G) (C : Nat → ClassId) (K : Nat → Nat) (hAp : RAp K) (F : Nat → Int32) (hs mv : Nat → Bool) (G : Nat → Nat → Int32) (x0 : Int32) (x1 : Int32) (a : Int) (b : Int) (h_a : x0.toInt = a) (h_b : x1.toInt = b) (hF0 : F 0 = nI 0) : RMi l yX7_noRange wsX7_noRange rm_X7_noRange D C K [.int x0, .int x1] F hs mv G (fun (r : Int32) (u : MSt) => (0 ≤ a ∧ a ≤ b → r = (bI false) ∧ u = (F, hs, mv, G)) ∧ (¬ (0 ≤ a ∧ a ≤ b) → r = (bI true) ∧ u = (upd (upd F 0 (nI 2)) 2 (F 2 + 1), hs, mv, G))) := by
  refine RMi_of (lv := [(0, .ref (K 0)), (1, .int x0), (2, .int x1)]) (cc := cX7_noRange) (maxL := 3) (ret := (some .boolean)) rfl rfl (by decide +kernel) (Nat.le_of_ble_eq_true rfl) rfl ?_
  intro p e s m args below meth c X hml hr hlk
  generalize hQ : MQ below _ args s 0 0 _ = Q
  refine zz_aload_n 0 X.1 0 dX7_noRange_0 rfl ?_
  refine rr_get 1 X 0 (by decide) (v := .int (F 0)) rfl (by decide +kernel) rfl dX7_noRange_1 ?_
  refine zz_topi (nI 0) (hF0) ?_
  refine zz_if_ne 4 30 X.1 (nI_toInt (by omega)) dX7_noRange_4 (by decide) (fun h4 => ?_) (fun h4 => ?_)
  · exfalso; omega
  · skip
    refine zz_iload_n 7 X.1 1 dX7_noRange_7 rfl ?_
    refine zz_iload_n 8 X.1 2 dX7_noRange_8 rfl ?_
    refine zz_callS0i 9 ⟨X.1.1, X.1.2, hml, X.2.2.2.1, X.2.1⟩ (fun q h => Or.inr h) RP_keep (As := [.int x0, .int x1]) (kt_X7_isRange l x0 x1 a b (h_a) (h_b)) gX7_noRange_X7_isRange rfl ⟨rfl, rfl⟩ yd_X7_isRange.2 ⟨Nat.le_of_ble_eq_true rfl, Nat.le_of_ble_eq_true rfl⟩ rfl rfl (Nat.le_of_ble_eq_true rfl) ⟨Nat.zero_le _, Nat.zero_le _⟩ dX7_noRange_9 ?_
    intro r1 hu1
    rcases (show (0 ≤ a ∧ a ≤ b) ∨ (¬ (0 ≤ a ∧ a ≤ b)) by omega) with hc1 | hc1
    · skip
      obtain rfl := (hu1.1 hc1)
      refine zz_ifB_ne 12 30 X.1 dX7_noRange_12 (by decide) (fun h12 => ?_) (fun h12 => ?_)
      · skip
        refine zz_aload_n 30 X.1 0 dX7_noRange_30 rfl ?_
        refine rr_get 31 X 0 (by decide) (v := .int (F 0)) rfl (by decide +kernel) rfl dX7_noRange_31 ?_
        refine zz_topi (nI 0) (hF0) ?_
        refine zz_if_eq 34 41 X.1 (nI_toInt (by omega)) dX7_noRange_34 (by decide) (fun h34 => ?_) (fun h34 => ?_)
        · skip
          refine zz_iconst 41 X.1 (v := nI 0) dX7_noRange_41 rfl ?_
          refine zz_topi (bI false) rfl ?_
          rw [← hQ]
          refine zz_iret 42 X.1 hr (bI_nar _) hlk (F, hs, mv, G) ?_ (fun _ h _ => h) dX7_noRange_42
          refine ⟨fun hc => ?_, fun hc => ?_⟩ <;> first | (exact ⟨rfl, rfl⟩) | (exact rfl) | (exfalso; omega)
        · exfalso; omega
      · exact absurd h12 (by decide)
    · skip
      obtain rfl := (hu1.2 hc1)
      refine zz_ifB_ne 12 30 X.1 dX7_noRange_12 (by decide) (fun h12 => ?_) (fun h12 => ?_)
      · exact absurd h12 (by decide)
      · skip
        refine zz_aload_n 15 X.1 0 dX7_noRange_15 rfl ?_
        refine zz_dup 16 X.1 dX7_noRange_16 rfl ?_
        refine rr_get 17 X 2 (by decide) (v := .int (F 2)) rfl (by decide +kernel) rfl dX7_noRange_17 ?_
        refine zz_iconst 20 X.1 (v := nI 1) dX7_noRange_20 rfl ?_
        refine zz_iadd 21 X.1 (v := ((F 2) + (nI 1))) dX7_noRange_21 rfl ?_
        refine rr_put 22 hAp X 2 (by decide) (F' := upd F 2 ((F 2) + (nI 1))) rfl (by decide +kernel) ⟨rfl, rfl⟩ (by decide +kernel) dX7_noRange_22 ?_
        refine zz_aload_n 25 X.1 0 dX7_noRange_25 rfl ?_
        refine zz_iconst 26 X.1 (v := nI 2) dX7_noRange_26 rfl ?_
        refine rr_put 27 hAp X 0 (by decide) (F' := upd (upd F 0 (nI 2)) 2 ((F 2) + (nI 1))) rfl (by decide +kernel) ⟨rfl, rfl⟩ (by decide +kernel) dX7_noRange_27 ?_
        refine zz_aload_n 30 X.1 0 dX7_noRange_30 rfl ?_
        refine rr_get 31 X 0 (by decide) (v := .int (nI 2)) rfl (by decide +kernel) rfl dX7_noRange_31 ?_
        refine zz_if_eq 34 41 X.1 (nI_toInt (by omega)) dX7_noRange_34 (by decide) (fun h34 => ?_) (fun h34 => ?_)
        · exfalso; omega
        · skip
          refine zz_iconst 37 X.1 (v := nI 1) dX7_noRange_37 rfl ?_
          refine zz_goto 38 42 X.1 dX7_noRange_38 (by decide) ?_
          refine zz_topi (bI true) rfl ?_
          rw [← hQ]
          refine zz_iret 42 X.1 hr (bI_nar _) hlk (upd (upd F 0 (nI 2)) 2 ((F 2) + (nI 1)), hs, mv, G) ?_ (fun _ h _ => h) dX7_noRange_42
          refine ⟨fun hc => ?_, fun hc => ?_⟩ <;> first | (exact ⟨rfl, rfl⟩) | (exact rfl) | (exfalso; omega)

abbrev rm_X7_noMember : Room := { frames := 2, cells := 0, slots := 0, locals := 43 }
theorem yd_X7_noMember : yX7_noMember.cls = RX7 ∧ yX7_noMember.cls ≠ "java/lang/invoke/MethodHandle" ∧ yX7_noMember.cls ≠ "java/lang/invoke/VarHandle" ∧ (parseMethodDescriptor yX7_noMember.desc).map (fun d => d.parameters.length) = some 2 := by decide +kernel
set_option maxHeartbeats 4000000 in
set_option maxRecDepth 100000 in
theorem kt_X7_noMember (l : Launch) (D : va_G) (C : Nat → ClassId) (K : Nat → Nat) (hAp : RAp K) (F : Nat → Int32) (hs mv : Nat → Bool) (G : Nat → Nat → Int32) (x0 : Int32) (x1 : Int32) (a : Int) (b : Int) (h_a : x0.toInt = a) (h_b : x1.toInt = b) (hF0 : F 0 = nI 0) : RMi l yX7_noMember wsX7_noMember rm_X7_noMember D C K [.int x0, .int x1] F hs mv G (fun (r : Int32) (u : MSt) => ((0 ≤ a ∧ a < 8) ∧ 0 ≤ b ∧ b < 1024 → r = (bI false) ∧ u = (F, hs, mv, G)) ∧ (¬ (0 ≤ a ∧ a < 8) ∨ 1024 ≤ b → r = (bI true) ∧ u = (upd F 0 (nI 1), hs, mv, G)) ∧ ((0 ≤ a ∧ a < 8) ∧ b < 0 → r = (bI true) ∧ u = (upd (upd F 0 (nI 2)) 2 (F 2 + 1), hs, mv, G))) := by
  refine RMi_of (lv := [(0, .ref (K 0)), (1, .int x0), (2, .int x1)]) (cc := cX7_noMember) (maxL := 3) (ret := (some .boolean)) rfl rfl (by decide +kernel) (Nat.le_of_ble_eq_true rfl) rfl ?_
  intro p e s m args below meth c X hml hr hlk
  generalize hQ : MQ below _ args s 0 0 _ = Q
  refine zz_aload_n 0 X.1 0 dX7_noMember_0 rfl ?_
  refine zz_iload_n 1 X.1 1 dX7_noMember_1 rfl ?_
  refine rr_callVi 2 X hml (As := [.int x0]) (kt_X7_noSet l D C K hAp F hs mv G x0 a (h_a) (by first | rfl | assumption | omega)) gX7_noMember_X7_noSet rfl ⟨rfl, rfl⟩ yd_X7_noSet ⟨Nat.le_of_ble_eq_true rfl, Nat.le_of_ble_eq_true rfl⟩ rfl rfl (Nat.le_of_ble_eq_true rfl) dX7_noMember_2 ?_
  rintro r1 ⟨F1, hs1, mv1, G1⟩ hu1
  rcases (show (0 ≤ a ∧ a < 8) ∨ (¬ (0 ≤ a ∧ a < 8)) by omega) with hc1 | hc1
  · skip
    obtain ⟨rfl, hv1⟩ := (hu1.1 hc1)
    cases hv1
    refine zz_world (P' := (RP D C K F hs mv G)) (fun _ h => h) ?_
    refine zz_ifB_ne 5 37 X.1 dX7_noMember_5 (by decide) (fun h5 => ?_) (fun h5 => ?_)
    · exact absurd h5 (by decide)
    · skip
      refine zz_aload_n 8 X.1 0 dX7_noMember_8 rfl ?_
      refine zz_iload_n 9 X.1 2 dX7_noMember_9 rfl ?_
      refine zz_sipush 10 X.1 (v := nI 1024) dX7_noMember_10 rfl ?_
      refine zz_icmp_ge 13 20 X.1 h_b (nI_toInt (by omega)) dX7_noMember_13 (by decide) (fun h13 => ?_) (fun h13 => ?_)
      · skip
        refine zz_iconst 20 X.1 (v := nI 0) dX7_noMember_20 rfl ?_
        refine zz_iconst 21 X.1 (v := nI 1) dX7_noMember_21 rfl ?_
        refine rr_callVi 22 X hml (As := [.int (bI false), .int (nI 1)]) (kt_X7_fails l D C K hAp F hs mv G false 1 (by first | rfl | assumption | omega) (by first | rfl | assumption | omega)) gX7_noMember_X7_fails rfl ⟨rfl, rfl⟩ yd_X7_fails ⟨Nat.le_of_ble_eq_true rfl, Nat.le_of_ble_eq_true rfl⟩ rfl rfl (Nat.le_of_ble_eq_true rfl) dX7_noMember_22 ?_
        rintro r2 ⟨F2, hs2, mv2, G2⟩ hu2
        obtain ⟨rfl, hv2⟩ := (hu2.2 (rfl))
        cases hv2
        refine zz_world (P' := (RP D C K (upd F 0 (nI 1)) hs mv G)) (fun _ h => h) ?_
        refine zz_ifB_ne 25 37 X.1 dX7_noMember_25 (by decide) (fun h25 => ?_) (fun h25 => ?_)
        · skip
          refine zz_iconst 37 X.1 (v := nI 1) dX7_noMember_37 rfl ?_
          refine zz_goto 38 42 X.1 dX7_noMember_38 (by decide) ?_
          refine zz_topi (bI true) rfl ?_
          rw [← hQ]
          refine zz_iret 42 X.1 hr (bI_nar _) hlk (upd F 0 (nI 1), hs, mv, G) ?_ (fun _ h _ => h) dX7_noMember_42
          refine ⟨fun hc => ?_, fun hc => ?_, fun hc => ?_⟩ <;> first | (exact ⟨rfl, rfl⟩) | (exact rfl) | (exfalso; omega)
        · exact absurd h25 (by decide)
      · skip
        refine zz_iconst 16 X.1 (v := nI 1) dX7_noMember_16 rfl ?_
        refine zz_goto 17 21 X.1 dX7_noMember_17 (by decide) ?_
        refine zz_iconst 21 X.1 (v := nI 1) dX7_noMember_21 rfl ?_
        refine rr_callVi 22 X hml (As := [.int (bI true), .int (nI 1)]) (kt_X7_fails l D C K hAp F hs mv G true 1 (by first | rfl | assumption | omega) (by first | rfl | assumption | omega)) gX7_noMember_X7_fails rfl ⟨rfl, rfl⟩ yd_X7_fails ⟨Nat.le_of_ble_eq_true rfl, Nat.le_of_ble_eq_true rfl⟩ rfl rfl (Nat.le_of_ble_eq_true rfl) dX7_noMember_22 ?_
        rintro r3 ⟨F3, hs3, mv3, G3⟩ hu3
        obtain ⟨rfl, hv3⟩ := (hu3.1 (rfl))
        cases hv3
        refine zz_world (P' := (RP D C K F hs mv G)) (fun _ h => h) ?_
        refine zz_ifB_ne 25 37 X.1 dX7_noMember_25 (by decide) (fun h25 => ?_) (fun h25 => ?_)
        · exact absurd h25 (by decide)
        · skip
          refine zz_aload_n 28 X.1 0 dX7_noMember_28 rfl ?_
          refine zz_iload_n 29 X.1 2 dX7_noMember_29 rfl ?_
          refine zz_iconst 30 X.1 (v := nI 0) dX7_noMember_30 rfl ?_
          refine rr_callVi 31 X hml (As := [.int x1, .int (nI 0)]) (kt_X7_isBelow l D C K hAp F hs mv G x1 (nI 0) b ((0 : Nat) : Int) (h_b) (nI_toInt (by omega)) (by first | rfl | assumption | omega)) gX7_noMember_X7_isBelow rfl ⟨rfl, rfl⟩ yd_X7_isBelow ⟨Nat.le_of_ble_eq_true rfl, Nat.le_of_ble_eq_true rfl⟩ rfl rfl (Nat.le_of_ble_eq_true rfl) dX7_noMember_31 ?_
          rintro r4 ⟨F4, hs4, mv4, G4⟩ hu4
          rcases (show (((0 : Nat) : Int) ≤ b) ∨ (b < ((0 : Nat) : Int)) by omega) with hc4 | hc4
          · skip
            obtain ⟨rfl, hv4⟩ := (hu4.1 hc4)
            cases hv4
            refine zz_world (P' := (RP D C K F hs mv G)) (fun _ h => h) ?_
            refine zz_ifB_eq 34 41 X.1 dX7_noMember_34 (by decide) (fun h34 => ?_) (fun h34 => ?_)
            · skip
              refine zz_iconst 41 X.1 (v := nI 0) dX7_noMember_41 rfl ?_
              refine zz_topi (bI false) rfl ?_
              rw [← hQ]
              refine zz_iret 42 X.1 hr (bI_nar _) hlk (F, hs, mv, G) ?_ (fun _ h _ => h) dX7_noMember_42
              refine ⟨fun hc => ?_, fun hc => ?_, fun hc => ?_⟩ <;> first | (exact ⟨rfl, rfl⟩) | (exact rfl) | (exfalso; omega)
            · exact absurd h34 (by decide)
          · skip
            obtain ⟨rfl, hv4⟩ := (hu4.2 hc4)
            cases hv4
            refine zz_world (P' := (RP D C K (upd (upd F 0 (nI 2)) 2 ((F 2) + 1)) hs mv G)) (fun _ h => h) ?_
            refine zz_ifB_eq 34 41 X.1 dX7_noMember_34 (by decide) (fun h34 => ?_) (fun h34 => ?_)
            · exact absurd h34 (by decide)
            · skip
              refine zz_iconst 37 X.1 (v := nI 1) dX7_noMember_37 rfl ?_
              refine zz_goto 38 42 X.1 dX7_noMember_38 (by decide) ?_
              refine zz_topi (bI true) rfl ?_
              rw [← hQ]
              refine zz_iret 42 X.1 hr (bI_nar _) hlk (upd (upd F 0 (nI 2)) 2 ((F 2) + 1), hs, mv, G) ?_ (fun _ h _ => h) dX7_noMember_42
              refine ⟨fun hc => ?_, fun hc => ?_, fun hc => ?_⟩ <;> first | (exact ⟨rfl, rfl⟩) | (exact rfl) | (exfalso; omega)
  · skip
    obtain ⟨rfl, hv1⟩ := (hu1.2 hc1)
    cases hv1
    refine zz_world (P' := (RP D C K (upd F 0 (nI 1)) hs mv G)) (fun _ h => h) ?_
    refine zz_ifB_ne 5 37 X.1 dX7_noMember_5 (by decide) (fun h5 => ?_) (fun h5 => ?_)
    · skip
      refine zz_iconst 37 X.1 (v := nI 1) dX7_noMember_37 rfl ?_
      refine zz_goto 38 42 X.1 dX7_noMember_38 (by decide) ?_
      refine zz_topi (bI true) rfl ?_
      rw [← hQ]
      refine zz_iret 42 X.1 hr (bI_nar _) hlk (upd F 0 (nI 1), hs, mv, G) ?_ (fun _ h _ => h) dX7_noMember_42
      refine ⟨fun hc => ?_, fun hc => ?_, fun hc => ?_⟩ <;> first | (exact ⟨rfl, rfl⟩) | (exact rfl) | (exfalso; omega)
    · exact absurd h5 (by decide)

abbrev rm_X7_noPlaces : Room := { frames := 2, cells := 0, slots := 0, locals := 43 }
theorem yd_X7_noPlaces : yX7_noPlaces.cls = RX7 ∧ yX7_noPlaces.cls ≠ "java/lang/invoke/MethodHandle" ∧ yX7_noPlaces.cls ≠ "java/lang/invoke/VarHandle" ∧ (parseMethodDescriptor yX7_noPlaces.desc).map (fun d => d.parameters.length) = some 3 := by decide +kernel
set_option maxHeartbeats 4000000 in
set_option maxRecDepth 100000 in
theorem kt_X7_noPlaces (l : Launch) (D : va_G) (C : Nat → ClassId) (K : Nat → Nat) (hAp : RAp K) (F : Nat → Int32) (hs mv : Nat → Bool) (G : Nat → Nat → Int32) (x0 : Int32) (x1 : Int32) (x2 : Int32) (a : Int) (b : Int) (d : Int) (h_a : x0.toInt = a) (h_b : x1.toInt = b) (h_d : x2.toInt = d) (hF0 : F 0 = nI 0) : RMi l yX7_noPlaces wsX7_noPlaces rm_X7_noPlaces D C K [.int x0, .int x1, .int x2] F hs mv G (fun (r : Int32) (u : MSt) => ((0 ≤ a ∧ a < 8) ∧ 0 ≤ b ∧ b ≤ d ∧ d ≤ 1024 → r = (bI false) ∧ u = (F, hs, mv, G)) ∧ (¬ (0 ≤ a ∧ a < 8) ∨ 1024 < d → r = (bI true) ∧ u = (upd F 0 (nI 1), hs, mv, G)) ∧ ((0 ≤ a ∧ a < 8) ∧ d ≤ 1024 ∧ ¬ (0 ≤ b ∧ b ≤ d) → r = (bI true) ∧ u = (upd (upd F 0 (nI 2)) 2 (F 2 + 1), hs, mv, G))) := by
  refine RMi_of (lv := [(0, .ref (K 0)), (1, .int x0), (2, .int x1), (3, .int x2)]) (cc := cX7_noPlaces) (maxL := 4) (ret := (some .boolean)) rfl rfl (by decide +kernel) (Nat.le_of_ble_eq_true rfl) rfl ?_
  intro p e s m args below meth c X hml hr hlk
  generalize hQ : MQ below _ args s 0 0 _ = Q
  refine zz_aload_n 0 X.1 0 dX7_noPlaces_0 rfl ?_
  refine zz_iload_n 1 X.1 1 dX7_noPlaces_1 rfl ?_
  refine rr_callVi 2 X hml (As := [.int x0]) (kt_X7_noSet l D C K hAp F hs mv G x0 a (h_a) (by first | rfl | assumption | omega)) gX7_noPlaces_X7_noSet rfl ⟨rfl, rfl⟩ yd_X7_noSet ⟨Nat.le_of_ble_eq_true rfl, Nat.le_of_ble_eq_true rfl⟩ rfl rfl (Nat.le_of_ble_eq_true rfl) dX7_noPlaces_2 ?_
  rintro r1 ⟨F1, hs1, mv1, G1⟩ hu1
  rcases (show (0 ≤ a ∧ a < 8) ∨ (¬ (0 ≤ a ∧ a < 8)) by omega) with hc1 | hc1
  · skip
    obtain ⟨rfl, hv1⟩ := (hu1.1 hc1)
    cases hv1
    refine zz_world (P' := (RP D C K F hs mv G)) (fun _ h => h) ?_
    refine zz_ifB_ne 5 37 X.1 dX7_noPlaces_5 (by decide) (fun h5 => ?_) (fun h5 => ?_)
    · exact absurd h5 (by decide)
    · skip
      refine zz_aload_n 8 X.1 0 dX7_noPlaces_8 rfl ?_
      refine zz_iload_n 9 X.1 3 dX7_noPlaces_9 rfl ?_
      refine zz_sipush 10 X.1 (v := nI 1024) dX7_noPlaces_10 rfl ?_
      refine zz_icmp_gt 13 20 X.1 h_d (nI_toInt (by omega)) dX7_noPlaces_13 (by decide) (fun h13 => ?_) (fun h13 => ?_)
      · skip
        refine zz_iconst 20 X.1 (v := nI 0) dX7_noPlaces_20 rfl ?_
        refine zz_iconst 21 X.1 (v := nI 1) dX7_noPlaces_21 rfl ?_
        refine rr_callVi 22 X hml (As := [.int (bI false), .int (nI 1)]) (kt_X7_fails l D C K hAp F hs mv G false 1 (by first | rfl | assumption | omega) (by first | rfl | assumption | omega)) gX7_noPlaces_X7_fails rfl ⟨rfl, rfl⟩ yd_X7_fails ⟨Nat.le_of_ble_eq_true rfl, Nat.le_of_ble_eq_true rfl⟩ rfl rfl (Nat.le_of_ble_eq_true rfl) dX7_noPlaces_22 ?_
        rintro r2 ⟨F2, hs2, mv2, G2⟩ hu2
        obtain ⟨rfl, hv2⟩ := (hu2.2 (rfl))
        cases hv2
        refine zz_world (P' := (RP D C K (upd F 0 (nI 1)) hs mv G)) (fun _ h => h) ?_
        refine zz_ifB_ne 25 37 X.1 dX7_noPlaces_25 (by decide) (fun h25 => ?_) (fun h25 => ?_)
        · skip
          refine zz_iconst 37 X.1 (v := nI 1) dX7_noPlaces_37 rfl ?_
          refine zz_goto 38 42 X.1 dX7_noPlaces_38 (by decide) ?_
          refine zz_topi (bI true) rfl ?_
          rw [← hQ]
          refine zz_iret 42 X.1 hr (bI_nar _) hlk (upd F 0 (nI 1), hs, mv, G) ?_ (fun _ h _ => h) dX7_noPlaces_42
          refine ⟨fun hc => ?_, fun hc => ?_, fun hc => ?_⟩ <;> first | (exact ⟨rfl, rfl⟩) | (exact rfl) | (exfalso; omega)
        · exact absurd h25 (by decide)
      · skip
        refine zz_iconst 16 X.1 (v := nI 1) dX7_noPlaces_16 rfl ?_
        refine zz_goto 17 21 X.1 dX7_noPlaces_17 (by decide) ?_
        refine zz_iconst 21 X.1 (v := nI 1) dX7_noPlaces_21 rfl ?_
        refine rr_callVi 22 X hml (As := [.int (bI true), .int (nI 1)]) (kt_X7_fails l D C K hAp F hs mv G true 1 (by first | rfl | assumption | omega) (by first | rfl | assumption | omega)) gX7_noPlaces_X7_fails rfl ⟨rfl, rfl⟩ yd_X7_fails ⟨Nat.le_of_ble_eq_true rfl, Nat.le_of_ble_eq_true rfl⟩ rfl rfl (Nat.le_of_ble_eq_true rfl) dX7_noPlaces_22 ?_
        rintro r3 ⟨F3, hs3, mv3, G3⟩ hu3
        obtain ⟨rfl, hv3⟩ := (hu3.1 (rfl))
        cases hv3
        refine zz_world (P' := (RP D C K F hs mv G)) (fun _ h => h) ?_
        refine zz_ifB_ne 25 37 X.1 dX7_noPlaces_25 (by decide) (fun h25 => ?_) (fun h25 => ?_)
        · exact absurd h25 (by decide)
        · skip
          refine zz_aload_n 28 X.1 0 dX7_noPlaces_28 rfl ?_
          refine zz_iload_n 29 X.1 2 dX7_noPlaces_29 rfl ?_
          refine zz_iload_n 30 X.1 3 dX7_noPlaces_30 rfl ?_
          refine rr_callVi 31 X hml (As := [.int x1, .int x2]) (kt_X7_noRange l D C K hAp F hs mv G x1 x2 b d (h_b) (h_d) (by first | rfl | assumption | omega)) gX7_noPlaces_X7_noRange rfl ⟨rfl, rfl⟩ yd_X7_noRange ⟨Nat.le_of_ble_eq_true rfl, Nat.le_of_ble_eq_true rfl⟩ rfl rfl (Nat.le_of_ble_eq_true rfl) dX7_noPlaces_31 ?_
          rintro r4 ⟨F4, hs4, mv4, G4⟩ hu4
          rcases (show (0 ≤ b ∧ b ≤ d) ∨ (¬ (0 ≤ b ∧ b ≤ d)) by omega) with hc4 | hc4
          · skip
            obtain ⟨rfl, hv4⟩ := (hu4.1 hc4)
            cases hv4
            refine zz_world (P' := (RP D C K F hs mv G)) (fun _ h => h) ?_
            refine zz_ifB_eq 34 41 X.1 dX7_noPlaces_34 (by decide) (fun h34 => ?_) (fun h34 => ?_)
            · skip
              refine zz_iconst 41 X.1 (v := nI 0) dX7_noPlaces_41 rfl ?_
              refine zz_topi (bI false) rfl ?_
              rw [← hQ]
              refine zz_iret 42 X.1 hr (bI_nar _) hlk (F, hs, mv, G) ?_ (fun _ h _ => h) dX7_noPlaces_42
              refine ⟨fun hc => ?_, fun hc => ?_, fun hc => ?_⟩ <;> first | (exact ⟨rfl, rfl⟩) | (exact rfl) | (exfalso; omega)
            · exact absurd h34 (by decide)
          · skip
            obtain ⟨rfl, hv4⟩ := (hu4.2 hc4)
            cases hv4
            refine zz_world (P' := (RP D C K (upd (upd F 0 (nI 2)) 2 ((F 2) + 1)) hs mv G)) (fun _ h => h) ?_
            refine zz_ifB_eq 34 41 X.1 dX7_noPlaces_34 (by decide) (fun h34 => ?_) (fun h34 => ?_)
            · exact absurd h34 (by decide)
            · skip
              refine zz_iconst 37 X.1 (v := nI 1) dX7_noPlaces_37 rfl ?_
              refine zz_goto 38 42 X.1 dX7_noPlaces_38 (by decide) ?_
              refine zz_topi (bI true) rfl ?_
              rw [← hQ]
              refine zz_iret 42 X.1 hr (bI_nar _) hlk (upd (upd F 0 (nI 2)) 2 ((F 2) + 1), hs, mv, G) ?_ (fun _ h _ => h) dX7_noPlaces_42
              refine ⟨fun hc => ?_, fun hc => ?_, fun hc => ?_⟩ <;> first | (exact ⟨rfl, rfl⟩) | (exact rfl) | (exfalso; omega)
  · skip
    obtain ⟨rfl, hv1⟩ := (hu1.2 hc1)
    cases hv1
    refine zz_world (P' := (RP D C K (upd F 0 (nI 1)) hs mv G)) (fun _ h => h) ?_
    refine zz_ifB_ne 5 37 X.1 dX7_noPlaces_5 (by decide) (fun h5 => ?_) (fun h5 => ?_)
    · skip
      refine zz_iconst 37 X.1 (v := nI 1) dX7_noPlaces_37 rfl ?_
      refine zz_goto 38 42 X.1 dX7_noPlaces_38 (by decide) ?_
      refine zz_topi (bI true) rfl ?_
      rw [← hQ]
      refine zz_iret 42 X.1 hr (bI_nar _) hlk (upd F 0 (nI 1), hs, mv, G) ?_ (fun _ h _ => h) dX7_noPlaces_42
      refine ⟨fun hc => ?_, fun hc => ?_, fun hc => ?_⟩ <;> first | (exact ⟨rfl, rfl⟩) | (exact rfl) | (exfalso; omega)
    · exact absurd h5 (by decide)

abbrev rm_X7_many : Room := { frames := 0, cells := 0, slots := 0, locals := 0 }
theorem yd_X7_many : yX7_many.cls = RX7 ∧ yX7_many.cls ≠ "java/lang/invoke/MethodHandle" ∧ yX7_many.cls ≠ "java/lang/invoke/VarHandle" ∧ (parseMethodDescriptor yX7_many.desc).map (fun d => d.parameters.length) = some 1 := by decide +kernel
set_option maxHeartbeats 4000000 in
set_option maxRecDepth 100000 in
theorem kt_X7_many (l : Launch) (D : va_G) (C : Nat → ClassId) (K : Nat → Nat) (hAp : RAp K) (F : Nat → Int32) (hs mv : Nat → Bool) (G : Nat → Nat → Int32) (s0 : Nat) (hs0 : s0 < 8) : RMi l yX7_many wsX7_many rm_X7_many D C K [.int (nI s0)] F hs mv G (fun (r : Int32) (u : MSt) => r = (nI (ct (hM hs s0) 1024)) ∧ u = (F, hs, mv, G)) := by
  refine RMi_of (lv := [(0, .ref (K 0)), (1, .int (nI s0))]) (cc := cX7_many) (maxL := 4) (ret := (some .int)) rfl rfl (by decide +kernel) (Nat.le_of_ble_eq_true rfl) rfl ?_
  intro p e s m args below meth c X hml hr hlk
  generalize hQ : MQ below _ args s 0 0 _ = Q
  refine zz_iconst 0 X.1 (v := nI 0) dX7_many_0 rfl ?_
  refine zz_istore_n 1 X.1 (lv' := [(2, .int (nI 0)), (0, .ref (K 0)), (1, .int (nI s0))]) dX7_many_1 (by decide) rfl ?_
  refine zz_iconst 2 X.1 (v := nI 0) dX7_many_2 rfl ?_
  refine zz_istore_n 3 X.1 (lv' := [(3, .int (nI 0)), (2, .int (nI 0)), (0, .ref (K 0)), (1, .int (nI s0))]) dX7_many_3 (by decide) rfl ?_
  have C4 : ∀ (d : Nat) (i : Nat) (n2 : Nat) (hi : i ≤ 1024) (hn : n2 = ct (hM hs s0) i) (hd : 1024 - i < d), ZZ p l e rm_X7_many s m args below meth c 0 0 Q (zz_A (RAd K) s.heap.size) (RP D C K F hs mv G) 4 [(0, .ref (K 0)), (1, .int (nI s0)), (2, .int (nI n2)), (3, .int (nI i))] [] 4 := by
    intro d
    induction d with
    | zero => intro i n2 hi hn hd; exact absurd hd (Nat.not_lt_zero _)
    | succ d ih4 =>
      intro i n2 hi hn hd
      refine zz_iload_n 4 X.1 3 dX7_many_4 rfl ?_
      refine zz_sipush 5 X.1 (v := nI 1024) dX7_many_5 rfl ?_
      refine zz_icmp_ge 8 40 X.1 (nI_toInt (by omega)) (nI_toInt (by omega)) dX7_many_8 (by decide) (fun h8 => ?_) (fun h8 => ?_)
      · skip
        refine zz_iload_n 40 X.1 2 dX7_many_40 rfl ?_
        rw [← hQ]
        refine zz_iret 41 X.1 hr rfl hlk (F, hs, mv, G) ?_ (fun _ h _ => h) dX7_many_41
        have : i = 1024 := by omega
        subst this; subst hn; exact ⟨rfl, rfl⟩
      · skip
        refine zz_iload_n 11 X.1 2 dX7_many_11 rfl ?_
        refine zz_aload_n 12 X.1 0 dX7_many_12 rfl ?_
        refine rr_get 13 X 1 (by decide) (v := .ref (K 1)) rfl (by decide +kernel) rfl dX7_many_13 ?_
        refine zz_sipush 16 X.1 (v := nI 1024) dX7_many_16 rfl ?_
        refine zz_iload_n 19 X.1 1 dX7_many_19 rfl ?_
        refine zz_imul 20 X.1 (v := (nI (1024 * s0))) dX7_many_20 (pk_mul _ _) ?_
        refine zz_iload_n 21 X.1 3 dX7_many_21 rfl ?_
        refine zz_iadd 22 X.1 (v := (nI ((1024 * s0) + i))) dX7_many_22 (nI_add _ _) ?_
        refine rr_hld 23 X (by omega) dX7_many_23 ?_
        refine zz_ifB_eq 24 31 X.1 dX7_many_24 (by decide) (fun h24 => ?_) (fun h24 => ?_)
        · skip
          refine zz_iconst 31 X.1 (v := nI 0) dX7_many_31 rfl ?_
          refine zz_iadd 32 X.1 (v := (nI (n2 + 0))) dX7_many_32 (nI_add _ _) ?_
          refine zz_istore_n 33 X.1 (lv' := [(2, .int (nI (n2 + 0))), (0, .ref (K 0)), (1, .int (nI s0)), (3, .int (nI i))]) dX7_many_33 (by decide) rfl ?_
          refine zz_iinc 34 X.1 3 (v := (nI (i + 1))) (lv' := [(3, .int (nI (i + 1))), (2, .int (nI (n2 + 0))), (0, .ref (K 0)), (1, .int (nI s0))]) dX7_many_34 rfl (nI_add i 1) (by decide) rfl ?_
          refine zz_goto 37 4 X.1 dX7_many_37 (by decide) ?_
          refine zz_lvs [2, 3, 1, 0] rfl ?_
          exact ih4 (i + 1) (n2 + 0) (by omega) (by subst hn; simp [ct, hM, h24]) (by omega)
        · skip
          refine zz_iconst 27 X.1 (v := nI 1) dX7_many_27 rfl ?_
          refine zz_goto 28 32 X.1 dX7_many_28 (by decide) ?_
          refine zz_iadd 32 X.1 (v := (nI (n2 + 1))) dX7_many_32 (nI_add _ _) ?_
          refine zz_istore_n 33 X.1 (lv' := [(2, .int (nI (n2 + 1))), (0, .ref (K 0)), (1, .int (nI s0)), (3, .int (nI i))]) dX7_many_33 (by decide) rfl ?_
          refine zz_iinc 34 X.1 3 (v := (nI (i + 1))) (lv' := [(3, .int (nI (i + 1))), (2, .int (nI (n2 + 1))), (0, .ref (K 0)), (1, .int (nI s0))]) dX7_many_34 rfl (nI_add i 1) (by decide) rfl ?_
          refine zz_goto 37 4 X.1 dX7_many_37 (by decide) ?_
          refine zz_lvs [2, 3, 1, 0] rfl ?_
          exact ih4 (i + 1) (n2 + 1) (by omega) (by subst hn; simp [ct, hM, h24]) (by omega)
  refine zz_lvs [2, 3, 1, 0] rfl ?_
  exact C4 (1024 - 0 + 1) 0 0 (by omega) (rfl) (Nat.lt_succ_self _)
