abbrev rm_X6_setOf : Room := { frames := 0, cells := 0, slots := 0, locals := 0 }
theorem yd_X6_setOf : yX6_setOf.cls = RX6 ∧ yX6_setOf.cls ≠ "java/lang/invoke/MethodHandle" ∧ yX6_setOf.cls ≠ "java/lang/invoke/VarHandle" ∧ (parseMethodDescriptor yX6_setOf.desc).map (fun d => d.parameters.length) = some 1 := by decide +kernel
set_option maxHeartbeats 4000000 in
set_option maxRecDepth 100000 in
theorem kt_X6_setOf (l : Launch) (D : va_G) (C : Nat → ClassId) (K : Nat → Nat) (hAp : DAp K) (F : Nat → Int32) (hs : Nat → Bool) (G T : Nat → Nat → Int32) (s0 : Nat) (hs0 : s0 < 8) : CMr l yX6_setOf wsX6_setOf rm_X6_setOf D C K (0) (20 + s0) [.int (nI s0)] F hs G T (fun (u : CSt) => u = (F, hs, G, T)) := by
  refine CMr_of (lv := [(0, .ref (K 0)), (1, .int (nI s0))]) (cc := cX6_setOf) (maxL := 2) (ret := (some (.object "NumberSetDesk$Members"))) rfl (by decide +kernel) (Nat.le_of_ble_eq_true rfl) rfl ?_
  intro p e s m args below meth c X hml hr hlk
  generalize hQ : MQ below _ args s 0 0 _ = Q
  refine zz_iload_n 0 X.1 1 dX6_setOf_0 rfl ?_
  refine zz_if_lt 1 10 X.1 (nI_toInt (by omega)) dX6_setOf_1 (by decide) (fun h1 => ?_) (fun h1 => ?_)
  · exfalso; omega
  · skip
    refine zz_iload_n 4 X.1 1 dX6_setOf_4 rfl ?_
    refine zz_bipush 5 X.1 (v := nI 8) dX6_setOf_5 rfl ?_
    refine zz_icmp_lt 7 20 X.1 (nI_toInt (by omega)) (nI_toInt (by omega)) dX6_setOf_7 (by decide) (fun h7 => ?_) (fun h7 => ?_)
    · skip
      refine zz_aload_n 20 X.1 0 dX6_setOf_20 rfl ?_
      refine dd_get0 21 X (by decide +kernel) 0 (by decide) (v := .ref (K 1)) rfl (by decide +kernel) rfl dX6_setOf_21 ?_
      refine zz_iload_n 24 X.1 1 dX6_setOf_24 rfl ?_
      refine dd_ald1 25 X (i := s0) (by omega) dX6_setOf_25 ?_
      rw [← hQ]
      refine zz_aret 26 X.1 hr (Or.inl ⟨_, rfl⟩) hlk (F, hs, G, T) ?_ (fun _ h _ => ⟨rfl, h⟩) dX6_setOf_26
      exact rfl
    · exfalso; omega
abbrev rx_X6_setOf : Room := { frames := 6, cells := 1, slots := 6, locals := 90 }
abbrev rm_X6_setAskedAt : Room := { frames := 1, cells := 0, slots := 0, locals := 21 }
theorem yd_X6_setAskedAt : yX6_setAskedAt.cls = RX6 ∧ yX6_setAskedAt.cls ≠ "java/lang/invoke/MethodHandle" ∧ yX6_setAskedAt.cls ≠ "java/lang/invoke/VarHandle" ∧ (parseMethodDescriptor yX6_setAskedAt.desc).map (fun d => d.parameters.length) = some 3 := by decide +kernel
set_option maxHeartbeats 4000000 in
set_option maxRecDepth 100000 in
theorem kt_X6_setAskedAt (l : Launch) (D : va_G) (C : Nat → ClassId) (K : Nat → Nat) (hAp : DAp K) (F : Nat → Int32) (hs : Nat → Bool) (G T : Nat → Nat → Int32) (s0 : Nat) (x1 : Int32) (x2 : Int32) (b : Int) (e0 : Int) (h_b : x1.toInt = b) (h_e0 : x2.toInt = e0) (hs0 : s0 < 8) (hle : e0 ≤ b) : CMr l yX6_setAskedAt wsX6_setAskedAt rm_X6_setAskedAt D C K (0) (20 + s0) [.int (nI s0), .int x1, .int x2] F hs G T (fun (u : CSt) => u = (F, hs, G, T)) := by
  refine CMr_of (lv := [(0, .ref (K 0)), (1, .int (nI s0)), (2, .int x1), (3, .int x2)]) (cc := cX6_setAskedAt) (maxL := 5) (ret := (some (.object "NumberSetDesk$Members"))) rfl (by decide +kernel) (Nat.le_of_ble_eq_true rfl) rfl ?_
  intro p e s m args below meth c X hml hr hlk
  generalize hQ : MQ below _ args s 0 0 _ = Q
  refine zz_aload_n 0 X.1 0 dX6_setAskedAt_0 rfl ?_
  refine zz_iload_n 1 X.1 1 dX6_setAskedAt_1 rfl ?_
  refine dd_callVr 2 X hml (th := 0) (As := [.int (nI s0)]) (kt_X6_setOf l D C K hAp F hs G T s0 (by first | rfl | assumption | omega)) gX6_setAskedAt_X6_setOf rfl ⟨rfl, rfl⟩ (dr_0 X) yd_X6_setOf ⟨Nat.le_of_ble_eq_true rfl, Nat.le_of_ble_eq_true rfl⟩ rfl rfl (Nat.le_of_ble_eq_true rfl) ⟨Nat.zero_le _, Nat.zero_le _⟩ dX6_setAskedAt_2 ?_
  rintro ⟨F1, hs1, G1, T1⟩ hu1
  have hv1 := hu1
  cases hv1
  refine zz_world (P' := (DP D C K F (WH hs) G T)) (fun _ h => h) ?_
  refine zz_astore 5 X.1 (lv' := [(4, .ref (K (20 + s0))), (0, .ref (K 0)), (1, .int (nI s0)), (2, .int x1), (3, .int x2)]) dX6_setAskedAt_5 (by decide) rfl ?_
  refine zz_iload_n 7 X.1 3 dX6_setAskedAt_7 rfl ?_
  refine zz_iload_n 8 X.1 4 dX6_setAskedAt_8 rfl ?_
  refine zz_icmp_ge 9 32 X.1 h_b h_e0 dX6_setAskedAt_9 (by decide) (fun h9 => ?_) (fun h9 => ?_)
  · skip
    refine zz_aload 32 X.1 0 dX6_setAskedAt_32 rfl ?_
    rw [← hQ]
    refine zz_aret 34 X.1 hr (Or.inl ⟨_, rfl⟩) hlk (F, hs, G, T) ?_ (fun _ h _ => ⟨rfl, h⟩) dX6_setAskedAt_34
    exact rfl
  · exfalso; omega
abbrev rx_X6_setAskedAt : Room := { frames := 7, cells := 1, slots := 6, locals := 111 }
set_option maxHeartbeats 4000000 in
set_option maxRecDepth 100000 in
theorem kt_X6_setAskedAt_x2 (l : Launch) (hl : l.stackTraces = false) (D : va_G) (C : Nat → ClassId) (K : Nat → Nat) (hAp : DAp K) (F : Nat → Int32) (hs : Nat → Bool) (G T : Nat → Nat → Int32) (s0 : Nat) (x1 : Int32) (x2 : Int32) (b : Int) (e0 : Int) (h_b : x1.toInt = b) (h_e0 : x2.toInt = e0) (hs0 : s0 < 8) (hlt : b < e0) : CX l yX6_setAskedAt wsX6_setAskedAt rx_X6_setAskedAt D C K (0) [.int (nI s0), .int x1, .int x2] F hs G T "java/lang/IndexOutOfBoundsException" (upd F 2 (F 2 + 1), hs, G, T) := by
  refine CX_of (lv := [(0, .ref (K 0)), (1, .int (nI s0)), (2, .int x1), (3, .int x2)]) (cc := cX6_setAskedAt) (maxL := 5) (ret := (some (.object "NumberSetDesk$Members"))) rfl (by decide +kernel) (Nat.le_of_ble_eq_true rfl) rfl ?_
  intro p e s m args below meth c X hA ht hml hr hlk
  generalize hQ : vx_MQ below _ _ args s 1 6 _ = Q
  refine zz_aload_n 0 X.1 0 dX6_setAskedAt_0 rfl ?_
  refine zz_iload_n 1 X.1 1 dX6_setAskedAt_1 rfl ?_
  refine dd_callVr 2 X hml (th := 0) (As := [.int (nI s0)]) (kt_X6_setOf l D C K hAp F hs G T s0 (by first | rfl | assumption | omega)) gX6_setAskedAt_X6_setOf rfl ⟨rfl, rfl⟩ (dr_0 X) yd_X6_setOf ⟨Nat.le_of_ble_eq_true rfl, Nat.le_of_ble_eq_true rfl⟩ rfl rfl (Nat.le_of_ble_eq_true rfl) ⟨Nat.zero_le _, Nat.zero_le _⟩ dX6_setAskedAt_2 ?_
  rintro ⟨F1, hs1, G1, T1⟩ hu1
  have hv1 := hu1
  cases hv1
  refine zz_world (P' := (DP D C K F (WH hs) G T)) (fun _ h => h) ?_
  refine zz_astore 5 X.1 (lv' := [(4, .ref (K (20 + s0))), (0, .ref (K 0)), (1, .int (nI s0)), (2, .int x1), (3, .int x2)]) dX6_setAskedAt_5 (by decide) rfl ?_
  refine zz_iload_n 7 X.1 3 dX6_setAskedAt_7 rfl ?_
  refine zz_iload_n 8 X.1 4 dX6_setAskedAt_8 rfl ?_
  refine zz_icmp_ge 9 32 X.1 h_b h_e0 dX6_setAskedAt_9 (by decide) (fun h9 => ?_) (fun h9 => ?_)
  · exfalso; omega
  · skip
    refine zz_aload_n 12 X.1 1 dX6_setAskedAt_12 rfl ?_
    refine zz_dup 13 X.1 dX6_setAskedAt_13 rfl ?_
    refine dd_get0 14 X (by decide +kernel) 6 (by decide) (v := .int (F 2)) rfl (by decide +kernel) rfl dX6_setAskedAt_14 ?_
    refine zz_iconst 17 X.1 (v := nI 1) dX6_setAskedAt_17 rfl ?_
    refine zz_iadd 18 X.1 (v := ((F 2) + (nI 1))) dX6_setAskedAt_18 rfl ?_
    refine dd_put0 19 hAp X (by decide +kernel) 6 (by decide) (F' := upd F 2 ((F 2) + (nI 1))) rfl (by decide +kernel) ⟨rfl, rfl⟩ (by decide +kernel) dX6_setAskedAt_19 ?_
    rw [← hQ]
    refine dd_throw 22 X hA ht hml hlk hl (text := "the index is too small") (names := ["java/lang/RuntimeException", "java/lang/Exception"]) (ik := 242) (is := 244) (ic := 246) (by decide +kernel) (by decide +kernel) (by decide +kernel) (by decide +kernel) (by decide +kernel) (by decide +kernel) (by decide +kernel) (by decide +kernel) ⟨dX6_setAskedAt_22, dX6_setAskedAt_25, dX6_setAskedAt_26, dX6_setAskedAt_28, dX6_setAskedAt_31⟩ (by decide) ?_
    rfl
abbrev rm_X6_setToFillAt : Room := { frames := 2, cells := 0, slots := 0, locals := 45 }
theorem yd_X6_setToFillAt : yX6_setToFillAt.cls = RX6 ∧ yX6_setToFillAt.cls ≠ "java/lang/invoke/MethodHandle" ∧ yX6_setToFillAt.cls ≠ "java/lang/invoke/VarHandle" ∧ (parseMethodDescriptor yX6_setToFillAt.desc).map (fun d => d.parameters.length) = some 2 := by decide +kernel
set_option maxHeartbeats 4000000 in
set_option maxRecDepth 100000 in
theorem kt_X6_setToFillAt (l : Launch) (D : va_G) (C : Nat → ClassId) (K : Nat → Nat) (hAp : DAp K) (F : Nat → Int32) (hs : Nat → Bool) (G T : Nat → Nat → Int32) (s0 : Nat) (i0 : Nat) (hs0 : s0 < 8) (hi0 : i0 < 1024) : CMr l yX6_setToFillAt wsX6_setToFillAt rm_X6_setToFillAt D C K (0) (20 + s0) [.int (nI s0), .int (nI i0)] F hs G T (fun (u : CSt) => u = (F, hs, G, T)) := by
  refine CMr_of (lv := [(0, .ref (K 0)), (1, .int (nI s0)), (2, .int (nI i0))]) (cc := cX6_setToFillAt) (maxL := 3) (ret := (some (.object "NumberSetDesk$Members"))) rfl (by decide +kernel) (Nat.le_of_ble_eq_true rfl) rfl ?_
  intro p e s m args below meth c X hml hr hlk
  generalize hQ : MQ below _ args s 0 0 _ = Q
  refine zz_iload_n 0 X.1 2 dX6_setToFillAt_0 rfl ?_
  refine zz_sipush 1 X.1 (v := nI 1023) dX6_setToFillAt_1 rfl ?_
  refine zz_icmp_le 4 17 X.1 (nI_toInt (by omega)) (nI_toInt (by omega)) dX6_setToFillAt_4 (by decide) (fun h4 => ?_) (fun h4 => ?_)
  · skip
    refine zz_aload_n 17 X.1 0 dX6_setToFillAt_17 rfl ?_
    refine zz_iload_n 18 X.1 1 dX6_setToFillAt_18 rfl ?_
    refine zz_iload_n 19 X.1 2 dX6_setToFillAt_19 rfl ?_
    refine zz_iconst 20 X.1 (v := nI 0) dX6_setToFillAt_20 rfl ?_
    refine dd_callVr 21 X hml (th := 0) (As := [.int (nI s0), .int (nI i0), .int (nI 0)]) (kt_X6_setAskedAt l D C K hAp F hs G T s0 (nI i0) (nI 0) ((i0 : Nat) : Int) ((0 : Nat) : Int) (nI_toInt (by omega)) (nI_toInt (by omega)) (by first | rfl | assumption | omega) (by first | rfl | assumption | omega)) gX6_setToFillAt_X6_setAskedAt rfl ⟨rfl, rfl⟩ (dr_0 X) yd_X6_setAskedAt ⟨Nat.le_of_ble_eq_true rfl, Nat.le_of_ble_eq_true rfl⟩ rfl rfl (Nat.le_of_ble_eq_true rfl) ⟨Nat.zero_le _, Nat.zero_le _⟩ dX6_setToFillAt_21 ?_
    rintro ⟨F1, hs1, G1, T1⟩ hu1
    have hv1 := hu1
    cases hv1
    refine zz_world (P' := (DP D C K F (WH hs) G T)) (fun _ h => h) ?_
    rw [← hQ]
    refine zz_aret 24 X.1 hr (Or.inl ⟨_, rfl⟩) hlk (F, hs, G, T) ?_ (fun _ h _ => ⟨rfl, h⟩) dX6_setToFillAt_24
    exact rfl
  · exfalso; omega
abbrev rx_X6_setToFillAt : Room := { frames := 8, cells := 1, slots := 6, locals := 135 }
set_option maxHeartbeats 4000000 in
set_option maxRecDepth 100000 in
theorem kt_X6_setToFillAt_x2 (l : Launch) (hl : l.stackTraces = false) (D : va_G) (C : Nat → ClassId) (K : Nat → Nat) (hAp : DAp K) (F : Nat → Int32) (hs : Nat → Bool) (G T : Nat → Nat → Int32) (s0 : Nat) (x1 : Int32) (b : Int) (h_b : x1.toInt = b) (hs0 : s0 < 8) (hlt : b < 0) : CX l yX6_setToFillAt wsX6_setToFillAt rx_X6_setToFillAt D C K (0) [.int (nI s0), .int x1] F hs G T "java/lang/IndexOutOfBoundsException" (upd F 2 (F 2 + 1), hs, G, T) := by
  refine CX_of (lv := [(0, .ref (K 0)), (1, .int (nI s0)), (2, .int x1)]) (cc := cX6_setToFillAt) (maxL := 3) (ret := (some (.object "NumberSetDesk$Members"))) rfl (by decide +kernel) (Nat.le_of_ble_eq_true rfl) rfl ?_
  intro p e s m args below meth c X hA ht hml hr hlk
  generalize hQ : vx_MQ below _ _ args s 1 6 _ = Q
  refine zz_iload_n 0 X.1 2 dX6_setToFillAt_0 rfl ?_
  refine zz_sipush 1 X.1 (v := nI 1023) dX6_setToFillAt_1 rfl ?_
  refine zz_icmp_le 4 17 X.1 h_b (nI_toInt (by omega)) dX6_setToFillAt_4 (by decide) (fun h4 => ?_) (fun h4 => ?_)
  · skip
    refine zz_aload_n 17 X.1 0 dX6_setToFillAt_17 rfl ?_
    refine zz_iload_n 18 X.1 1 dX6_setToFillAt_18 rfl ?_
    refine zz_iload_n 19 X.1 2 dX6_setToFillAt_19 rfl ?_
    refine zz_iconst 20 X.1 (v := nI 0) dX6_setToFillAt_20 rfl ?_
    rw [← hQ]
    exact dd_callX 21 X hA ht hml hlk (th := 0) (As := [.int (nI s0), .int x1, .int (nI 0)]) (kt_X6_setAskedAt_x2 l hl D C K hAp F hs G T s0 x1 (nI 0) b ((0 : Nat) : Int) (h_b) (nI_toInt (by omega)) (by first | rfl | assumption | omega) (by first | rfl | assumption | omega)) gX6_setToFillAt_X6_setAskedAt rfl ⟨rfl, rfl⟩ (dr_0 X) yd_X6_setAskedAt ⟨Nat.le_of_ble_eq_true rfl, Nat.le_of_ble_eq_true rfl⟩ rfl rfl (Nat.le_of_ble_eq_true rfl) ⟨Nat.le_of_ble_eq_true rfl, Nat.le_of_ble_eq_true rfl⟩ dX6_setToFillAt_21
  · exfalso; omega
abbrev rm_X6_setAskedIn : Room := { frames := 1, cells := 0, slots := 0, locals := 21 }
theorem yd_X6_setAskedIn : yX6_setAskedIn.cls = RX6 ∧ yX6_setAskedIn.cls ≠ "java/lang/invoke/MethodHandle" ∧ yX6_setAskedIn.cls ≠ "java/lang/invoke/VarHandle" ∧ (parseMethodDescriptor yX6_setAskedIn.desc).map (fun d => d.parameters.length) = some 3 := by decide +kernel
set_option maxHeartbeats 4000000 in
set_option maxRecDepth 100000 in
theorem kt_X6_setAskedIn (l : Launch) (D : va_G) (C : Nat → ClassId) (K : Nat → Nat) (hAp : DAp K) (F : Nat → Int32) (hs : Nat → Bool) (G T : Nat → Nat → Int32) (s0 : Nat) (f : Nat) (t : Nat) (hs0 : s0 < 8) (hft : f ≤ t ∧ t < 2 ^ 31) : CMr l yX6_setAskedIn wsX6_setAskedIn rm_X6_setAskedIn D C K (0) (20 + s0) [.int (nI s0), .int (nI f), .int (nI t)] F hs G T (fun (u : CSt) => u = (F, hs, G, T)) := by
  refine CMr_of (lv := [(0, .ref (K 0)), (1, .int (nI s0)), (2, .int (nI f)), (3, .int (nI t))]) (cc := cX6_setAskedIn) (maxL := 5) (ret := (some (.object "NumberSetDesk$Members"))) rfl (by decide +kernel) (Nat.le_of_ble_eq_true rfl) rfl ?_
  intro p e s m args below meth c X hml hr hlk
  generalize hQ : MQ below _ args s 0 0 _ = Q
  refine zz_aload_n 0 X.1 0 dX6_setAskedIn_0 rfl ?_
  refine zz_iload_n 1 X.1 1 dX6_setAskedIn_1 rfl ?_
  refine dd_callVr 2 X hml (th := 0) (As := [.int (nI s0)]) (kt_X6_setOf l D C K hAp F hs G T s0 (by first | rfl | assumption | omega)) gX6_setAskedIn_X6_setOf rfl ⟨rfl, rfl⟩ (dr_0 X) yd_X6_setOf ⟨Nat.le_of_ble_eq_true rfl, Nat.le_of_ble_eq_true rfl⟩ rfl rfl (Nat.le_of_ble_eq_true rfl) ⟨Nat.zero_le _, Nat.zero_le _⟩ dX6_setAskedIn_2 ?_
  rintro ⟨F1, hs1, G1, T1⟩ hu1
  have hv1 := hu1
  cases hv1
  refine zz_world (P' := (DP D C K F (WH hs) G T)) (fun _ h => h) ?_
  refine zz_astore 5 X.1 (lv' := [(4, .ref (K (20 + s0))), (0, .ref (K 0)), (1, .int (nI s0)), (2, .int (nI f)), (3, .int (nI t))]) dX6_setAskedIn_5 (by decide) rfl ?_
  refine zz_iload_n 7 X.1 3 dX6_setAskedIn_7 rfl ?_
  refine zz_if_lt 8 20 X.1 (nI_toInt (by omega)) dX6_setAskedIn_8 (by decide) (fun h8 => ?_) (fun h8 => ?_)
  · exfalso; omega
  · skip
    refine zz_iload_n 11 X.1 4 dX6_setAskedIn_11 rfl ?_
    refine zz_if_lt 12 20 X.1 (nI_toInt (by omega)) dX6_setAskedIn_12 (by decide) (fun h12 => ?_) (fun h12 => ?_)
    · exfalso; omega
    · skip
      refine zz_iload_n 15 X.1 3 dX6_setAskedIn_15 rfl ?_
      refine zz_iload_n 16 X.1 4 dX6_setAskedIn_16 rfl ?_
      refine zz_icmp_le 17 40 X.1 (nI_toInt (by omega)) (nI_toInt (by omega)) dX6_setAskedIn_17 (by decide) (fun h17 => ?_) (fun h17 => ?_)
      · skip
        refine zz_aload 40 X.1 0 dX6_setAskedIn_40 rfl ?_
        rw [← hQ]
        refine zz_aret 42 X.1 hr (Or.inl ⟨_, rfl⟩) hlk (F, hs, G, T) ?_ (fun _ h _ => ⟨rfl, h⟩) dX6_setAskedIn_42
        exact rfl
      · exfalso; omega
abbrev rx_X6_setAskedIn : Room := { frames := 7, cells := 1, slots := 6, locals := 111 }
set_option maxHeartbeats 4000000 in
set_option maxRecDepth 100000 in
theorem kt_X6_setAskedIn_x2 (l : Launch) (hl : l.stackTraces = false) (D : va_G) (C : Nat → ClassId) (K : Nat → Nat) (hAp : DAp K) (F : Nat → Int32) (hs : Nat → Bool) (G T : Nat → Nat → Int32) (s0 : Nat) (x1 : Int32) (x2 : Int32) (b : Int) (d : Int) (h_b : x1.toInt = b) (h_d : x2.toInt = d) (hs0 : s0 < 8) (hno : ¬ (0 ≤ b ∧ b ≤ d)) : CX l yX6_setAskedIn wsX6_setAskedIn rx_X6_setAskedIn D C K (0) [.int (nI s0), .int x1, .int x2] F hs G T "java/lang/IndexOutOfBoundsException" (upd F 2 (F 2 + 1), hs, G, T) := by
  refine CX_of (lv := [(0, .ref (K 0)), (1, .int (nI s0)), (2, .int x1), (3, .int x2)]) (cc := cX6_setAskedIn) (maxL := 5) (ret := (some (.object "NumberSetDesk$Members"))) rfl (by decide +kernel) (Nat.le_of_ble_eq_true rfl) rfl ?_
  intro p e s m args below meth c X hA ht hml hr hlk
  generalize hQ : vx_MQ below _ _ args s 1 6 _ = Q
  refine zz_aload_n 0 X.1 0 dX6_setAskedIn_0 rfl ?_
  refine zz_iload_n 1 X.1 1 dX6_setAskedIn_1 rfl ?_
  refine dd_callVr 2 X hml (th := 0) (As := [.int (nI s0)]) (kt_X6_setOf l D C K hAp F hs G T s0 (by first | rfl | assumption | omega)) gX6_setAskedIn_X6_setOf rfl ⟨rfl, rfl⟩ (dr_0 X) yd_X6_setOf ⟨Nat.le_of_ble_eq_true rfl, Nat.le_of_ble_eq_true rfl⟩ rfl rfl (Nat.le_of_ble_eq_true rfl) ⟨Nat.zero_le _, Nat.zero_le _⟩ dX6_setAskedIn_2 ?_
  rintro ⟨F1, hs1, G1, T1⟩ hu1
  have hv1 := hu1
  cases hv1
  refine zz_world (P' := (DP D C K F (WH hs) G T)) (fun _ h => h) ?_
  refine zz_astore 5 X.1 (lv' := [(4, .ref (K (20 + s0))), (0, .ref (K 0)), (1, .int (nI s0)), (2, .int x1), (3, .int x2)]) dX6_setAskedIn_5 (by decide) rfl ?_
  refine zz_iload_n 7 X.1 3 dX6_setAskedIn_7 rfl ?_
  refine zz_if_lt 8 20 X.1 h_b dX6_setAskedIn_8 (by decide) (fun h8 => ?_) (fun h8 => ?_)
  · skip
    refine zz_aload_n 20 X.1 1 dX6_setAskedIn_20 rfl ?_
    refine zz_dup 21 X.1 dX6_setAskedIn_21 rfl ?_
    refine dd_get0 22 X (by decide +kernel) 6 (by decide) (v := .int (F 2)) rfl (by decide +kernel) rfl dX6_setAskedIn_22 ?_
    refine zz_iconst 25 X.1 (v := nI 1) dX6_setAskedIn_25 rfl ?_
    refine zz_iadd 26 X.1 (v := ((F 2) + (nI 1))) dX6_setAskedIn_26 rfl ?_
    refine dd_put0 27 hAp X (by decide +kernel) 6 (by decide) (F' := upd F 2 ((F 2) + (nI 1))) rfl (by decide +kernel) ⟨rfl, rfl⟩ (by decide +kernel) dX6_setAskedIn_27 ?_
    rw [← hQ]
    refine dd_throw 30 X hA ht hml hlk hl (text := "the numbers are no range") (names := ["java/lang/RuntimeException", "java/lang/Exception"]) (ik := 242) (is := 249) (ic := 246) (by decide +kernel) (by decide +kernel) (by decide +kernel) (by decide +kernel) (by decide +kernel) (by decide +kernel) (by decide +kernel) (by decide +kernel) ⟨dX6_setAskedIn_30, dX6_setAskedIn_33, dX6_setAskedIn_34, dX6_setAskedIn_36, dX6_setAskedIn_39⟩ (by decide) ?_
    rfl
  · skip
    refine zz_iload_n 11 X.1 4 dX6_setAskedIn_11 rfl ?_
    refine zz_if_lt 12 20 X.1 h_d dX6_setAskedIn_12 (by decide) (fun h12 => ?_) (fun h12 => ?_)
    · skip
      refine zz_aload_n 20 X.1 1 dX6_setAskedIn_20 rfl ?_
      refine zz_dup 21 X.1 dX6_setAskedIn_21 rfl ?_
      refine dd_get0 22 X (by decide +kernel) 6 (by decide) (v := .int (F 2)) rfl (by decide +kernel) rfl dX6_setAskedIn_22 ?_
      refine zz_iconst 25 X.1 (v := nI 1) dX6_setAskedIn_25 rfl ?_
      refine zz_iadd 26 X.1 (v := ((F 2) + (nI 1))) dX6_setAskedIn_26 rfl ?_
      refine dd_put0 27 hAp X (by decide +kernel) 6 (by decide) (F' := upd F 2 ((F 2) + (nI 1))) rfl (by decide +kernel) ⟨rfl, rfl⟩ (by decide +kernel) dX6_setAskedIn_27 ?_
      rw [← hQ]
      refine dd_throw 30 X hA ht hml hlk hl (text := "the numbers are no range") (names := ["java/lang/RuntimeException", "java/lang/Exception"]) (ik := 242) (is := 249) (ic := 246) (by decide +kernel) (by decide +kernel) (by decide +kernel) (by decide +kernel) (by decide +kernel) (by decide +kernel) (by decide +kernel) (by decide +kernel) ⟨dX6_setAskedIn_30, dX6_setAskedIn_33, dX6_setAskedIn_34, dX6_setAskedIn_36, dX6_setAskedIn_39⟩ (by decide) ?_
      rfl
    · skip
      refine zz_iload_n 15 X.1 3 dX6_setAskedIn_15 rfl ?_
      refine zz_iload_n 16 X.1 4 dX6_setAskedIn_16 rfl ?_
      refine zz_icmp_le 17 40 X.1 h_b h_d dX6_setAskedIn_17 (by decide) (fun h17 => ?_) (fun h17 => ?_)
      · exfalso; omega
      · skip
        refine zz_aload_n 20 X.1 1 dX6_setAskedIn_20 rfl ?_
        refine zz_dup 21 X.1 dX6_setAskedIn_21 rfl ?_
        refine dd_get0 22 X (by decide +kernel) 6 (by decide) (v := .int (F 2)) rfl (by decide +kernel) rfl dX6_setAskedIn_22 ?_
        refine zz_iconst 25 X.1 (v := nI 1) dX6_setAskedIn_25 rfl ?_
        refine zz_iadd 26 X.1 (v := ((F 2) + (nI 1))) dX6_setAskedIn_26 rfl ?_
        refine dd_put0 27 hAp X (by decide +kernel) 6 (by decide) (F' := upd F 2 ((F 2) + (nI 1))) rfl (by decide +kernel) ⟨rfl, rfl⟩ (by decide +kernel) dX6_setAskedIn_27 ?_
        rw [← hQ]
        refine dd_throw 30 X hA ht hml hlk hl (text := "the numbers are no range") (names := ["java/lang/RuntimeException", "java/lang/Exception"]) (ik := 242) (is := 249) (ic := 246) (by decide +kernel) (by decide +kernel) (by decide +kernel) (by decide +kernel) (by decide +kernel) (by decide +kernel) (by decide +kernel) (by decide +kernel) ⟨dX6_setAskedIn_30, dX6_setAskedIn_33, dX6_setAskedIn_34, dX6_setAskedIn_36, dX6_setAskedIn_39⟩ (by decide) ?_
        rfl
abbrev rm_X6_setToFillIn : Room := { frames := 2, cells := 0, slots := 0, locals := 45 }
theorem yd_X6_setToFillIn : yX6_setToFillIn.cls = RX6 ∧ yX6_setToFillIn.cls ≠ "java/lang/invoke/MethodHandle" ∧ yX6_setToFillIn.cls ≠ "java/lang/invoke/VarHandle" ∧ (parseMethodDescriptor yX6_setToFillIn.desc).map (fun d => d.parameters.length) = some 3 := by decide +kernel
set_option maxHeartbeats 4000000 in
set_option maxRecDepth 100000 in
theorem kt_X6_setToFillIn (l : Launch) (D : va_G) (C : Nat → ClassId) (K : Nat → Nat) (hAp : DAp K) (F : Nat → Int32) (hs : Nat → Bool) (G T : Nat → Nat → Int32) (s0 : Nat) (f : Nat) (t : Nat) (hs0 : s0 < 8) (hft : f ≤ t ∧ t ≤ 1024) : CMr l yX6_setToFillIn wsX6_setToFillIn rm_X6_setToFillIn D C K (0) (20 + s0) [.int (nI s0), .int (nI f), .int (nI t)] F hs G T (fun (u : CSt) => u = (F, hs, G, T)) := by
  refine CMr_of (lv := [(0, .ref (K 0)), (1, .int (nI s0)), (2, .int (nI f)), (3, .int (nI t))]) (cc := cX6_setToFillIn) (maxL := 4) (ret := (some (.object "NumberSetDesk$Members"))) rfl (by decide +kernel) (Nat.le_of_ble_eq_true rfl) rfl ?_
  intro p e s m args below meth c X hml hr hlk
  generalize hQ : MQ below _ args s 0 0 _ = Q
  refine zz_iload_n 0 X.1 3 dX6_setToFillIn_0 rfl ?_
  refine zz_sipush 1 X.1 (v := nI 1024) dX6_setToFillIn_1 rfl ?_
  refine zz_icmp_le 4 17 X.1 (nI_toInt (by omega)) (nI_toInt (by omega)) dX6_setToFillIn_4 (by decide) (fun h4 => ?_) (fun h4 => ?_)
  · skip
    refine zz_aload_n 17 X.1 0 dX6_setToFillIn_17 rfl ?_
    refine zz_iload_n 18 X.1 1 dX6_setToFillIn_18 rfl ?_
    refine zz_iload_n 19 X.1 2 dX6_setToFillIn_19 rfl ?_
    refine zz_iload_n 20 X.1 3 dX6_setToFillIn_20 rfl ?_
    refine dd_callVr 21 X hml (th := 0) (As := [.int (nI s0), .int (nI f), .int (nI t)]) (kt_X6_setAskedIn l D C K hAp F hs G T s0 f t (by first | rfl | assumption | omega) (by first | rfl | assumption | omega)) gX6_setToFillIn_X6_setAskedIn rfl ⟨rfl, rfl⟩ (dr_0 X) yd_X6_setAskedIn ⟨Nat.le_of_ble_eq_true rfl, Nat.le_of_ble_eq_true rfl⟩ rfl rfl (Nat.le_of_ble_eq_true rfl) ⟨Nat.zero_le _, Nat.zero_le _⟩ dX6_setToFillIn_21 ?_
    rintro ⟨F1, hs1, G1, T1⟩ hu1
    have hv1 := hu1
    cases hv1
    refine zz_world (P' := (DP D C K F (WH hs) G T)) (fun _ h => h) ?_
    rw [← hQ]
    refine zz_aret 24 X.1 hr (Or.inl ⟨_, rfl⟩) hlk (F, hs, G, T) ?_ (fun _ h _ => ⟨rfl, h⟩) dX6_setToFillIn_24
    exact rfl
  · exfalso; omega
abbrev rx_X6_setToFillIn : Room := { frames := 8, cells := 1, slots := 6, locals := 135 }
set_option maxHeartbeats 4000000 in
set_option maxRecDepth 100000 in
theorem kt_X6_setToFillIn_x2 (l : Launch) (hl : l.stackTraces = false) (D : va_G) (C : Nat → ClassId) (K : Nat → Nat) (hAp : DAp K) (F : Nat → Int32) (hs : Nat → Bool) (G T : Nat → Nat → Int32) (s0 : Nat) (x1 : Int32) (x2 : Int32) (b : Int) (d : Int) (h_b : x1.toInt = b) (h_d : x2.toInt = d) (hs0 : s0 < 8) (hno : ¬ (0 ≤ b ∧ b ≤ d)) (hd4 : d ≤ 1024) : CX l yX6_setToFillIn wsX6_setToFillIn rx_X6_setToFillIn D C K (0) [.int (nI s0), .int x1, .int x2] F hs G T "java/lang/IndexOutOfBoundsException" (upd F 2 (F 2 + 1), hs, G, T) := by
  refine CX_of (lv := [(0, .ref (K 0)), (1, .int (nI s0)), (2, .int x1), (3, .int x2)]) (cc := cX6_setToFillIn) (maxL := 4) (ret := (some (.object "NumberSetDesk$Members"))) rfl (by decide +kernel) (Nat.le_of_ble_eq_true rfl) rfl ?_
  intro p e s m args below meth c X hA ht hml hr hlk
  generalize hQ : vx_MQ below _ _ args s 1 6 _ = Q
  refine zz_iload_n 0 X.1 3 dX6_setToFillIn_0 rfl ?_
  refine zz_sipush 1 X.1 (v := nI 1024) dX6_setToFillIn_1 rfl ?_
  refine zz_icmp_le 4 17 X.1 h_d (nI_toInt (by omega)) dX6_setToFillIn_4 (by decide) (fun h4 => ?_) (fun h4 => ?_)
  · skip
    refine zz_aload_n 17 X.1 0 dX6_setToFillIn_17 rfl ?_
    refine zz_iload_n 18 X.1 1 dX6_setToFillIn_18 rfl ?_
    refine zz_iload_n 19 X.1 2 dX6_setToFillIn_19 rfl ?_
    refine zz_iload_n 20 X.1 3 dX6_setToFillIn_20 rfl ?_
    rw [← hQ]
    exact dd_callX 21 X hA ht hml hlk (th := 0) (As := [.int (nI s0), .int x1, .int x2]) (kt_X6_setAskedIn_x2 l hl D C K hAp F hs G T s0 x1 x2 b d (h_b) (h_d) (by first | rfl | assumption | omega) (by first | rfl | assumption | omega)) gX6_setToFillIn_X6_setAskedIn rfl ⟨rfl, rfl⟩ (dr_0 X) yd_X6_setAskedIn ⟨Nat.le_of_ble_eq_true rfl, Nat.le_of_ble_eq_true rfl⟩ rfl rfl (Nat.le_of_ble_eq_true rfl) ⟨Nat.le_of_ble_eq_true rfl, Nat.le_of_ble_eq_true rfl⟩ dX6_setToFillIn_21
  · exfalso; omega
abbrev rm_X6_checkNumber : Room := { frames := 0, cells := 0, slots := 0, locals := 0 }
theorem yd_X6_checkNumber : yX6_checkNumber.cls = RX6 ∧ yX6_checkNumber.cls ≠ "java/lang/invoke/MethodHandle" ∧ yX6_checkNumber.cls ≠ "java/lang/invoke/VarHandle" ∧ (parseMethodDescriptor yX6_checkNumber.desc).map (fun d => d.parameters.length) = some 3 := by decide +kernel
set_option maxHeartbeats 4000000 in
set_option maxRecDepth 100000 in
theorem kt_X6_checkNumber (l : Launch) (x0 : Int32) (x1 : Int32) (x2 : Int32) (a : Int) (b : Int) (d : Int) (h_a : x0.toInt = a) (h_b : x1.toInt = b) (h_d : x2.toInt = d) (hok : b ≤ a ∧ a ≤ d) : SMv l yX6_checkNumber wsX6_checkNumber rm_X6_checkNumber [.int x0, .int x1, .int x2] (True) := by
  refine SMv_of (lv := [(0, .int x0), (1, .int x1), (2, .int x2)]) (cc := cX6_checkNumber) (maxL := 3) (ret := none) rfl (by decide +kernel) (Nat.le_of_ble_eq_true rfl) rfl ?_
  intro p e s m args below meth c hc hts hown hml hr hlk
  have X : (p.tables.exec = Jvm.exec ∧ c.code = cX6_checkNumber) ∧ True := ⟨hc, trivial⟩
  generalize hQ : MQ below _ args s 0 0 _ = Q
  refine zz_iload_n 0 X.1 0 dX6_checkNumber_0 rfl ?_
  refine zz_iload_n 1 X.1 1 dX6_checkNumber_1 rfl ?_
  refine zz_icmp_lt 2 10 X.1 h_a h_b dX6_checkNumber_2 (by decide) (fun h2 => ?_) (fun h2 => ?_)
  · exfalso; omega
  · skip
    refine zz_iload_n 5 X.1 0 dX6_checkNumber_5 rfl ?_
    refine zz_iload_n 6 X.1 2 dX6_checkNumber_6 rfl ?_
    refine zz_icmp_le 7 20 X.1 h_a h_d dX6_checkNumber_7 (by decide) (fun h7 => ?_) (fun h7 => ?_)
    · skip
      rw [← hQ]
      refine zz_vret 20 X.1 hr hlk () ?_ (fun _ _ _ => trivial) dX6_checkNumber_20
      exact trivial
    · exfalso; omega
abbrev rx_X6_checkNumber : Room := { frames := 6, cells := 1, slots := 6, locals := 90 }
set_option maxHeartbeats 4000000 in
set_option maxRecDepth 100000 in
theorem kt_X6_checkNumber_x (l : Launch) (hl : l.stackTraces = false) (x0 : Int32) (x1 : Int32) (x2 : Int32) (a : Int) (b : Int) (d : Int) (h_a : x0.toInt = a) (h_b : x1.toInt = b) (h_d : x2.toInt = d) (hno : ¬ (b ≤ a ∧ a ≤ d)) : SX l yX6_checkNumber wsX6_checkNumber rx_X6_checkNumber [.int x0, .int x1, .int x2] "java/lang/IllegalArgumentException" := by
  refine SX_of (lv := [(0, .int x0), (1, .int x1), (2, .int x2)]) (cc := cX6_checkNumber) (maxL := 3) (ret := none) rfl (by decide +kernel) (Nat.le_of_ble_eq_true rfl) rfl ?_
  intro p e s m args below meth c hc hts hown hA ht hml hr hlk
  have X : (p.tables.exec = Jvm.exec ∧ c.code = cX6_checkNumber) ∧ True := ⟨hc, trivial⟩
  generalize hQ : vx_MQ below _ _ args s 1 6 _ = Q
  refine zz_iload_n 0 X.1 0 dX6_checkNumber_0 rfl ?_
  refine zz_iload_n 1 X.1 1 dX6_checkNumber_1 rfl ?_
  refine zz_icmp_lt 2 10 X.1 h_a h_b dX6_checkNumber_2 (by decide) (fun h2 => ?_) (fun h2 => ?_)
  · skip
    rw [← hQ]
    refine zz_throwT 10 X.1 hts hown hA ht hml hlk hl (text := "the number is out of range") (names := ["java/lang/RuntimeException", "java/lang/Exception"]) (ik := 84) (is := 253) (ic := 88) (by decide +kernel) (by decide +kernel) (by decide +kernel) (by decide +kernel) (by decide +kernel) (by decide +kernel) (by decide +kernel) (by decide +kernel) ⟨dX6_checkNumber_10, dX6_checkNumber_13, dX6_checkNumber_14, dX6_checkNumber_16, dX6_checkNumber_19⟩ (by decide)
  · skip
    refine zz_iload_n 5 X.1 0 dX6_checkNumber_5 rfl ?_
    refine zz_iload_n 6 X.1 2 dX6_checkNumber_6 rfl ?_
    refine zz_icmp_le 7 20 X.1 h_a h_d dX6_checkNumber_7 (by decide) (fun h7 => ?_) (fun h7 => ?_)
    · exfalso; omega
    · skip
      rw [← hQ]
      refine zz_throwT 10 X.1 hts hown hA ht hml hlk hl (text := "the number is out of range") (names := ["java/lang/RuntimeException", "java/lang/Exception"]) (ik := 84) (is := 253) (ic := 88) (by decide +kernel) (by decide +kernel) (by decide +kernel) (by decide +kernel) (by decide +kernel) (by decide +kernel) (by decide +kernel) (by decide +kernel) ⟨dX6_checkNumber_10, dX6_checkNumber_13, dX6_checkNumber_14, dX6_checkNumber_16, dX6_checkNumber_19⟩ (by decide)
abbrev rm_X6_checkPlace : Room := { frames := 0, cells := 0, slots := 0, locals := 0 }
theorem yd_X6_checkPlace : yX6_checkPlace.cls = RX6 ∧ yX6_checkPlace.cls ≠ "java/lang/invoke/MethodHandle" ∧ yX6_checkPlace.cls ≠ "java/lang/invoke/VarHandle" ∧ (parseMethodDescriptor yX6_checkPlace.desc).map (fun d => d.parameters.length) = some 2 := by decide +kernel
set_option maxHeartbeats 4000000 in
set_option maxRecDepth 100000 in
theorem kt_X6_checkPlace (l : Launch) (x0 : Int32) (x1 : Int32) (a : Int) (b : Int) (h_a : x0.toInt = a) (h_b : x1.toInt = b) (hok : 0 ≤ a ∧ a < b) : SMv l yX6_checkPlace wsX6_checkPlace rm_X6_checkPlace [.int x0, .int x1] (True) := by
  refine SMv_of (lv := [(0, .int x0), (1, .int x1)]) (cc := cX6_checkPlace) (maxL := 2) (ret := none) rfl (by decide +kernel) (Nat.le_of_ble_eq_true rfl) rfl ?_
  intro p e s m args below meth c hc hts hown hml hr hlk
  have X : (p.tables.exec = Jvm.exec ∧ c.code = cX6_checkPlace) ∧ True := ⟨hc, trivial⟩
  generalize hQ : MQ below _ args s 0 0 _ = Q
  refine zz_iload_n 0 X.1 0 dX6_checkPlace_0 rfl ?_
  refine zz_if_lt 1 9 X.1 h_a dX6_checkPlace_1 (by decide) (fun h1 => ?_) (fun h1 => ?_)
  · exfalso; omega
  · skip
    refine zz_iload_n 4 X.1 0 dX6_checkPlace_4 rfl ?_
    refine zz_iload_n 5 X.1 1 dX6_checkPlace_5 rfl ?_
    refine zz_icmp_lt 6 19 X.1 h_a h_b dX6_checkPlace_6 (by decide) (fun h6 => ?_) (fun h6 => ?_)
    · skip
      rw [← hQ]
      refine zz_vret 19 X.1 hr hlk () ?_ (fun _ _ _ => trivial) dX6_checkPlace_19
      exact trivial
    · exfalso; omega
abbrev rx_X6_checkPlace : Room := { frames := 6, cells := 1, slots := 6, locals := 90 }
