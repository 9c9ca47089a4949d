abbrev rm_X6_combine : Room := { frames := 4, cells := 0, slots := 0, locals := 89 }
theorem yd_X6_combine : yX6_combine.cls = RX6 ∧ yX6_combine.cls ≠ "java/lang/invoke/MethodHandle" ∧ yX6_combine.cls ≠ "java/lang/invoke/VarHandle" ∧ (parseMethodDescriptor yX6_combine.desc).map (fun d => d.parameters.length) = some 3 := by decide +kernel
set_option maxHeartbeats 4000000 in
set_option maxRecDepth 100000 in
theorem kt_X6_combine (l : Launch) (D : va_G) (C : Nat → ClassId) (K : Nat → Nat) (hAp : DAp K) (F : Nat → Int32) (hs : Nat → Bool) (G T : Nat → Nat → Int32) (s0 : Nat) (o0 : Nat) (sg : Nat) (hs0 : s0 < 8) (ho0 : o0 < 8) (hsg : sg = 38 ∨ sg = 124 ∨ sg = 126 ∨ sg = 33 ∨ sg = 61) : CMi l yX6_combine wsX6_combine rm_X6_combine D C K (0)  [.int (nI s0), .int (nI sg), .int (nI o0)] F hs G T (fun (r : Int32) (u : CSt) => r = (nI (ct (fun i => pJ sg (hM hs s0 i) (hM hs o0 i)) 1024)) ∧ u = (F, sS hs s0 (fun i => pJ sg (hM hs s0 i) (hM hs o0 i)), G, T)) := by
  refine CMi_of (lv := [(0, .ref (K 0)), (1, .int (nI s0)), (2, .int (nI sg)), (3, .int (nI o0))]) (cc := cX6_combine) (maxL := 5) (ret := (some .int)) rfl (by decide +kernel) (Nat.le_of_ble_eq_true rfl) rfl ?_
  intro p e s m args below meth c X hml hr hlk
  generalize hQ : MQ below _ args s 0 0 _ = Q
  refine zz_aload_n 0 X.1 0 dX6_combine_0 rfl ?_
  refine zz_iload_n 1 X.1 1 dX6_combine_1 rfl ?_
  refine dd_callVr 2 X hml (th := 0) (As := [.int (nI s0)]) (kt_X6_setOf l D C K hAp F hs G T s0 (by first | rfl | assumption | omega)) gX6_combine_X6_setOf rfl ⟨rfl, rfl⟩ (dr_0 X) yd_X6_setOf ⟨Nat.le_of_ble_eq_true rfl, Nat.le_of_ble_eq_true rfl⟩ rfl rfl (Nat.le_of_ble_eq_true rfl) ⟨Nat.zero_le _, Nat.zero_le _⟩ dX6_combine_2 ?_
  rintro ⟨F1, hs1, G1, T1⟩ hu1
  have hv1 := hu1
  cases hv1
  refine zz_world (P' := (DP D C K F (WH hs) G T)) (fun _ h => h) ?_
  refine zz_astore 5 X.1 (lv' := [(4, .ref (K (20 + s0))), (0, .ref (K 0)), (1, .int (nI s0)), (2, .int (nI sg)), (3, .int (nI o0))]) dX6_combine_5 (by decide) rfl ?_
  refine zz_aload 7 X.1 0 dX6_combine_7 rfl ?_
  refine zz_aload_n 9 X.1 1 dX6_combine_9 rfl ?_
  refine zz_iload_n 10 X.1 4 dX6_combine_10 rfl ?_
  refine dd_callVr 11 X hml (th := 0) (As := [.int (nI o0)]) (kt_X6_setOf l D C K hAp F hs G T o0 (by first | rfl | assumption | omega)) gX6_combine_X6_setOf rfl ⟨rfl, rfl⟩ (dr_0 X) yd_X6_setOf ⟨Nat.le_of_ble_eq_true rfl, Nat.le_of_ble_eq_true rfl⟩ rfl rfl (Nat.le_of_ble_eq_true rfl) ⟨Nat.zero_le _, Nat.zero_le _⟩ dX6_combine_11 ?_
  rintro ⟨F2, hs2, G2, T2⟩ hu2
  have hv2 := hu2
  cases hv2
  refine zz_world (P' := (DP D C K F (WH hs) G T)) (fun _ h => h) ?_
  refine zz_iload_n 14 X.1 3 dX6_combine_14 rfl ?_
  refine dd_callVv 15 X hml (th := 20 + s0) (As := [.ref (K (20 + o0)), .int (nI sg)]) (kt_X0_combineWith l D C K hAp F hs G T s0 o0 sg (by first | rfl | assumption | omega) (by first | rfl | assumption | omega) (by first | rfl | assumption | omega)) gX6_combine_X0_combineWith rfl ⟨rfl, rfl⟩ (dr_M X (i := s0) (by omega)) yd_X0_combineWith ⟨Nat.le_of_ble_eq_true rfl, Nat.le_of_ble_eq_true rfl⟩ rfl rfl (Nat.le_of_ble_eq_true rfl) ⟨Nat.zero_le _, Nat.zero_le _⟩ dX6_combine_15 ?_
  rintro ⟨F3, hs3, G3, T3⟩ hu3
  have hv3 := hu3
  cases hv3
  refine zz_world (P' := (DP D C K F (WH (sS hs s0 (fun i => pJ sg (hM hs s0 i) (hM hs o0 i)))) G T)) (fun _ h => h) ?_
  refine zz_aload 18 X.1 0 dX6_combine_18 rfl ?_
  refine dd_callVi 20 X hml (th := 20 + s0) (As := []) (kt_X0_size l D C K hAp F (sS hs s0 (fun i => pJ sg (hM hs s0 i) (hM hs o0 i))) G T s0 (by first | rfl | assumption | omega)) gX6_combine_X0_size rfl ⟨rfl, rfl⟩ (dr_M X (i := s0) (by omega)) yd_X0_size ⟨Nat.le_of_ble_eq_true rfl, Nat.le_of_ble_eq_true rfl⟩ rfl rfl (Nat.le_of_ble_eq_true rfl) ⟨Nat.zero_le _, Nat.zero_le _⟩ dX6_combine_20 ?_
  rintro r4 ⟨F4, hs4, G4, T4⟩ hu4
  obtain ⟨rfl, hv4⟩ := hu4
  cases hv4
  refine zz_world (P' := (DP D C K F (WH (sS hs s0 (fun i => pJ sg (hM hs s0 i) (hM hs o0 i)))) G T)) (fun _ h => h) ?_
  rw [← hQ]
  refine zz_iret 23 X.1 hr rfl hlk (F, sS hs s0 (fun i => pJ sg (hM hs s0 i) (hM hs o0 i)), G, T) ?_ (fun _ h _ => h) dX6_combine_23
  exact ⟨by rw [ct_sS], rfl⟩
abbrev rx_X6_combine : Room := { frames := 7, cells := 1, slots := 6, locals := 111 }
abbrev rm_X6_intersect : Room := { frames := 5, cells := 0, slots := 0, locals := 113 }
theorem yd_X6_intersect : yX6_intersect.cls = RX6 ∧ yX6_intersect.cls ≠ "java/lang/invoke/MethodHandle" ∧ yX6_intersect.cls ≠ "java/lang/invoke/VarHandle" ∧ (parseMethodDescriptor yX6_intersect.desc).map (fun d => d.parameters.length) = some 2 := by decide +kernel
set_option maxHeartbeats 4000000 in
set_option maxRecDepth 100000 in
theorem kt_X6_intersect_ok (l : Launch) (D : va_G) (C : Nat → ClassId) (K : Nat → Nat) (hAp : DAp K) (F : Nat → Int32) (hs : Nat → Bool) (G T : Nat → Nat → Int32) (s0 : Nat) (o0 : Nat) (hs0 : s0 < 8) (ho0 : o0 < 8) : CMi l yX6_intersect wsX6_intersect rm_X6_intersect D C K (0)  [.int (nI s0), .int (nI o0)] F hs G T (fun (r : Int32) (u : CSt) => r = (nI (ct (fun i => pJ 38 (hM hs s0 i) (hM hs o0 i)) 1024)) ∧ u = (F, sS hs s0 (fun i => pJ 38 (hM hs s0 i) (hM hs o0 i)), G, T)) := by
  refine CMi_of (lv := [(0, .ref (K 0)), (1, .int (nI s0)), (2, .int (nI o0))]) (cc := cX6_intersect) (maxL := 3) (ret := (some .int)) rfl (by decide +kernel) (Nat.le_of_ble_eq_true rfl) rfl ?_
  intro p e s m args below meth c X hml hr hlk
  generalize hQ : MQ below _ args s 0 0 _ = Q
  refine zz_aload_n 0 X.1 0 dX6_intersect_0 rfl ?_
  refine zz_iload_n 1 X.1 1 dX6_intersect_1 rfl ?_
  refine zz_bipush 2 X.1 (v := nI 38) dX6_intersect_2 rfl ?_
  refine zz_iload_n 4 X.1 2 dX6_intersect_4 rfl ?_
  refine dd_callVi 5 X hml (th := 0) (As := [.int (nI s0), .int (nI 38), .int (nI o0)]) (kt_X6_combine l D C K hAp F hs G T s0 o0 38 (by first | rfl | assumption | omega) (by first | rfl | assumption | omega) (by first | rfl | assumption | omega)) gX6_intersect_X6_combine rfl ⟨rfl, rfl⟩ (dr_0 X) yd_X6_combine ⟨Nat.le_of_ble_eq_true rfl, Nat.le_of_ble_eq_true rfl⟩ rfl rfl (Nat.le_of_ble_eq_true rfl) ⟨Nat.zero_le _, Nat.zero_le _⟩ dX6_intersect_5 ?_
  rintro r1 ⟨F1, hs1, G1, T1⟩ hu1
  obtain ⟨rfl, hv1⟩ := hu1
  cases hv1
  refine zz_world (P' := (DP D C K F (WH (sS hs s0 (fun i => pJ 38 (hM hs s0 i) (hM hs o0 i)))) G T)) (fun _ h => h) ?_
  rw [← hQ]
  refine zz_iret 8 X.1 hr rfl hlk (F, sS hs s0 (fun i => pJ 38 (hM hs s0 i) (hM hs o0 i)), G, T) ?_ (fun _ h _ => h) dX6_intersect_8
  exact ⟨rfl, rfl⟩
abbrev rx_X6_intersect : Room := { frames := 8, cells := 1, slots := 6, locals := 135 }
abbrev rm_X6_unite : Room := { frames := 5, cells := 0, slots := 0, locals := 113 }
theorem yd_X6_unite : yX6_unite.cls = RX6 ∧ yX6_unite.cls ≠ "java/lang/invoke/MethodHandle" ∧ yX6_unite.cls ≠ "java/lang/invoke/VarHandle" ∧ (parseMethodDescriptor yX6_unite.desc).map (fun d => d.parameters.length) = some 2 := by decide +kernel
set_option maxHeartbeats 4000000 in
set_option maxRecDepth 100000 in
theorem kt_X6_unite_ok (l : Launch) (D : va_G) (C : Nat → ClassId) (K : Nat → Nat) (hAp : DAp K) (F : Nat → Int32) (hs : Nat → Bool) (G T : Nat → Nat → Int32) (s0 : Nat) (o0 : Nat) (hs0 : s0 < 8) (ho0 : o0 < 8) : CMi l yX6_unite wsX6_unite rm_X6_unite D C K (0)  [.int (nI s0), .int (nI o0)] F hs G T (fun (r : Int32) (u : CSt) => r = (nI (ct (fun i => pJ 124 (hM hs s0 i) (hM hs o0 i)) 1024)) ∧ u = (F, sS hs s0 (fun i => pJ 124 (hM hs s0 i) (hM hs o0 i)), G, T)) := by
  refine CMi_of (lv := [(0, .ref (K 0)), (1, .int (nI s0)), (2, .int (nI o0))]) (cc := cX6_unite) (maxL := 3) (ret := (some .int)) rfl (by decide +kernel) (Nat.le_of_ble_eq_true rfl) rfl ?_
  intro p e s m args below meth c X hml hr hlk
  generalize hQ : MQ below _ args s 0 0 _ = Q
  refine zz_aload_n 0 X.1 0 dX6_unite_0 rfl ?_
  refine zz_iload_n 1 X.1 1 dX6_unite_1 rfl ?_
  refine zz_bipush 2 X.1 (v := nI 124) dX6_unite_2 rfl ?_
  refine zz_iload_n 4 X.1 2 dX6_unite_4 rfl ?_
  refine dd_callVi 5 X hml (th := 0) (As := [.int (nI s0), .int (nI 124), .int (nI o0)]) (kt_X6_combine l D C K hAp F hs G T s0 o0 124 (by first | rfl | assumption | omega) (by first | rfl | assumption | omega) (by first | rfl | assumption | omega)) gX6_unite_X6_combine rfl ⟨rfl, rfl⟩ (dr_0 X) yd_X6_combine ⟨Nat.le_of_ble_eq_true rfl, Nat.le_of_ble_eq_true rfl⟩ rfl rfl (Nat.le_of_ble_eq_true rfl) ⟨Nat.zero_le _, Nat.zero_le _⟩ dX6_unite_5 ?_
  rintro r1 ⟨F1, hs1, G1, T1⟩ hu1
  obtain ⟨rfl, hv1⟩ := hu1
  cases hv1
  refine zz_world (P' := (DP D C K F (WH (sS hs s0 (fun i => pJ 124 (hM hs s0 i) (hM hs o0 i)))) G T)) (fun _ h => h) ?_
  rw [← hQ]
  refine zz_iret 8 X.1 hr rfl hlk (F, sS hs s0 (fun i => pJ 124 (hM hs s0 i) (hM hs o0 i)), G, T) ?_ (fun _ h _ => h) dX6_unite_8
  exact ⟨rfl, rfl⟩
abbrev rx_X6_unite : Room := { frames := 8, cells := 1, slots := 6, locals := 135 }
abbrev rm_X6_differ : Room := { frames := 5, cells := 0, slots := 0, locals := 113 }
theorem yd_X6_differ : yX6_differ.cls = RX6 ∧ yX6_differ.cls ≠ "java/lang/invoke/MethodHandle" ∧ yX6_differ.cls ≠ "java/lang/invoke/VarHandle" ∧ (parseMethodDescriptor yX6_differ.desc).map (fun d => d.parameters.length) = some 2 := by decide +kernel
set_option maxHeartbeats 4000000 in
set_option maxRecDepth 100000 in
theorem kt_X6_differ_ok (l : Launch) (D : va_G) (C : Nat → ClassId) (K : Nat → Nat) (hAp : DAp K) (F : Nat → Int32) (hs : Nat → Bool) (G T : Nat → Nat → Int32) (s0 : Nat) (o0 : Nat) (hs0 : s0 < 8) (ho0 : o0 < 8) : CMi l yX6_differ wsX6_differ rm_X6_differ D C K (0)  [.int (nI s0), .int (nI o0)] F hs G T (fun (r : Int32) (u : CSt) => r = (nI (ct (fun i => pJ 126 (hM hs s0 i) (hM hs o0 i)) 1024)) ∧ u = (F, sS hs s0 (fun i => pJ 126 (hM hs s0 i) (hM hs o0 i)), G, T)) := by
  refine CMi_of (lv := [(0, .ref (K 0)), (1, .int (nI s0)), (2, .int (nI o0))]) (cc := cX6_differ) (maxL := 3) (ret := (some .int)) rfl (by decide +kernel) (Nat.le_of_ble_eq_true rfl) rfl ?_
  intro p e s m args below meth c X hml hr hlk
  generalize hQ : MQ below _ args s 0 0 _ = Q
  refine zz_aload_n 0 X.1 0 dX6_differ_0 rfl ?_
  refine zz_iload_n 1 X.1 1 dX6_differ_1 rfl ?_
  refine zz_bipush 2 X.1 (v := nI 126) dX6_differ_2 rfl ?_
  refine zz_iload_n 4 X.1 2 dX6_differ_4 rfl ?_
  refine dd_callVi 5 X hml (th := 0) (As := [.int (nI s0), .int (nI 126), .int (nI o0)]) (kt_X6_combine l D C K hAp F hs G T s0 o0 126 (by first | rfl | assumption | omega) (by first | rfl | assumption | omega) (by first | rfl | assumption | omega)) gX6_differ_X6_combine rfl ⟨rfl, rfl⟩ (dr_0 X) yd_X6_combine ⟨Nat.le_of_ble_eq_true rfl, Nat.le_of_ble_eq_true rfl⟩ rfl rfl (Nat.le_of_ble_eq_true rfl) ⟨Nat.zero_le _, Nat.zero_le _⟩ dX6_differ_5 ?_
  rintro r1 ⟨F1, hs1, G1, T1⟩ hu1
  obtain ⟨rfl, hv1⟩ := hu1
  cases hv1
  refine zz_world (P' := (DP D C K F (WH (sS hs s0 (fun i => pJ 126 (hM hs s0 i) (hM hs o0 i)))) G T)) (fun _ h => h) ?_
  rw [← hQ]
  refine zz_iret 8 X.1 hr rfl hlk (F, sS hs s0 (fun i => pJ 126 (hM hs s0 i) (hM hs o0 i)), G, T) ?_ (fun _ h _ => h) dX6_differ_8
  exact ⟨rfl, rfl⟩
abbrev rx_X6_differ : Room := { frames := 8, cells := 1, slots := 6, locals := 135 }
abbrev rm_X6_subtract : Room := { frames := 5, cells := 0, slots := 0, locals := 113 }
theorem yd_X6_subtract : yX6_subtract.cls = RX6 ∧ yX6_subtract.cls ≠ "java/lang/invoke/MethodHandle" ∧ yX6_subtract.cls ≠ "java/lang/invoke/VarHandle" ∧ (parseMethodDescriptor yX6_subtract.desc).map (fun d => d.parameters.length) = some 2 := by decide +kernel
set_option maxHeartbeats 4000000 in
set_option maxRecDepth 100000 in
theorem kt_X6_subtract_ok (l : Launch) (D : va_G) (C : Nat → ClassId) (K : Nat → Nat) (hAp : DAp K) (F : Nat → Int32) (hs : Nat → Bool) (G T : Nat → Nat → Int32) (s0 : Nat) (o0 : Nat) (hs0 : s0 < 8) (ho0 : o0 < 8) : CMi l yX6_subtract wsX6_subtract rm_X6_subtract D C K (0)  [.int (nI s0), .int (nI o0)] F hs G T (fun (r : Int32) (u : CSt) => r = (nI (ct (fun i => pJ 33 (hM hs s0 i) (hM hs o0 i)) 1024)) ∧ u = (F, sS hs s0 (fun i => pJ 33 (hM hs s0 i) (hM hs o0 i)), G, T)) := by
  refine CMi_of (lv := [(0, .ref (K 0)), (1, .int (nI s0)), (2, .int (nI o0))]) (cc := cX6_subtract) (maxL := 3) (ret := (some .int)) rfl (by decide +kernel) (Nat.le_of_ble_eq_true rfl) rfl ?_
  intro p e s m args below meth c X hml hr hlk
  generalize hQ : MQ below _ args s 0 0 _ = Q
  refine zz_aload_n 0 X.1 0 dX6_subtract_0 rfl ?_
  refine zz_iload_n 1 X.1 1 dX6_subtract_1 rfl ?_
  refine zz_bipush 2 X.1 (v := nI 33) dX6_subtract_2 rfl ?_
  refine zz_iload_n 4 X.1 2 dX6_subtract_4 rfl ?_
  refine dd_callVi 5 X hml (th := 0) (As := [.int (nI s0), .int (nI 33), .int (nI o0)]) (kt_X6_combine l D C K hAp F hs G T s0 o0 33 (by first | rfl | assumption | omega) (by first | rfl | assumption | omega) (by first | rfl | assumption | omega)) gX6_subtract_X6_combine rfl ⟨rfl, rfl⟩ (dr_0 X) yd_X6_combine ⟨Nat.le_of_ble_eq_true rfl, Nat.le_of_ble_eq_true rfl⟩ rfl rfl (Nat.le_of_ble_eq_true rfl) ⟨Nat.zero_le _, Nat.zero_le _⟩ dX6_subtract_5 ?_
  rintro r1 ⟨F1, hs1, G1, T1⟩ hu1
  obtain ⟨rfl, hv1⟩ := hu1
  cases hv1
  refine zz_world (P' := (DP D C K F (WH (sS hs s0 (fun i => pJ 33 (hM hs s0 i) (hM hs o0 i)))) G T)) (fun _ h => h) ?_
  rw [← hQ]
  refine zz_iret 8 X.1 hr rfl hlk (F, sS hs s0 (fun i => pJ 33 (hM hs s0 i) (hM hs o0 i)), G, T) ?_ (fun _ h _ => h) dX6_subtract_8
  exact ⟨rfl, rfl⟩
abbrev rx_X6_subtract : Room := { frames := 8, cells := 1, slots := 6, locals := 135 }
abbrev rm_X6_copy : Room := { frames := 5, cells := 0, slots := 0, locals := 113 }
theorem yd_X6_copy : yX6_copy.cls = RX6 ∧ yX6_copy.cls ≠ "java/lang/invoke/MethodHandle" ∧ yX6_copy.cls ≠ "java/lang/invoke/VarHandle" ∧ (parseMethodDescriptor yX6_copy.desc).map (fun d => d.parameters.length) = some 2 := by decide +kernel
set_option maxHeartbeats 4000000 in
set_option maxRecDepth 100000 in
theorem kt_X6_copy_ok (l : Launch) (D : va_G) (C : Nat → ClassId) (K : Nat → Nat) (hAp : DAp K) (F : Nat → Int32) (hs : Nat → Bool) (G T : Nat → Nat → Int32) (s0 : Nat) (o0 : Nat) (hs0 : s0 < 8) (ho0 : o0 < 8) : CMi l yX6_copy wsX6_copy rm_X6_copy D C K (0)  [.int (nI s0), .int (nI o0)] F hs G T (fun (r : Int32) (u : CSt) => r = (nI (ct (fun i => pJ 61 (hM hs s0 i) (hM hs o0 i)) 1024)) ∧ u = (F, sS hs s0 (fun i => pJ 61 (hM hs s0 i) (hM hs o0 i)), G, T)) := by
  refine CMi_of (lv := [(0, .ref (K 0)), (1, .int (nI s0)), (2, .int (nI o0))]) (cc := cX6_copy) (maxL := 3) (ret := (some .int)) rfl (by decide +kernel) (Nat.le_of_ble_eq_true rfl) rfl ?_
  intro p e s m args below meth c X hml hr hlk
  generalize hQ : MQ below _ args s 0 0 _ = Q
  refine zz_aload_n 0 X.1 0 dX6_copy_0 rfl ?_
  refine zz_iload_n 1 X.1 1 dX6_copy_1 rfl ?_
  refine zz_bipush 2 X.1 (v := nI 61) dX6_copy_2 rfl ?_
  refine zz_iload_n 4 X.1 2 dX6_copy_4 rfl ?_
  refine dd_callVi 5 X hml (th := 0) (As := [.int (nI s0), .int (nI 61), .int (nI o0)]) (kt_X6_combine l D C K hAp F hs G T s0 o0 61 (by first | rfl | assumption | omega) (by first | rfl | assumption | omega) (by first | rfl | assumption | omega)) gX6_copy_X6_combine rfl ⟨rfl, rfl⟩ (dr_0 X) yd_X6_combine ⟨Nat.le_of_ble_eq_true rfl, Nat.le_of_ble_eq_true rfl⟩ rfl rfl (Nat.le_of_ble_eq_true rfl) ⟨Nat.zero_le _, Nat.zero_le _⟩ dX6_copy_5 ?_
  rintro r1 ⟨F1, hs1, G1, T1⟩ hu1
  obtain ⟨rfl, hv1⟩ := hu1
  cases hv1
  refine zz_world (P' := (DP D C K F (WH (sS hs s0 (fun i => pJ 61 (hM hs s0 i) (hM hs o0 i)))) G T)) (fun _ h => h) ?_
  rw [← hQ]
  refine zz_iret 8 X.1 hr rfl hlk (F, sS hs s0 (fun i => pJ 61 (hM hs s0 i) (hM hs o0 i)), G, T) ?_ (fun _ h _ => h) dX6_copy_8
  exact ⟨rfl, rfl⟩
abbrev rx_X6_copy : Room := { frames := 8, cells := 1, slots := 6, locals := 135 }
abbrev rm_X6_takePart : Room := { frames := 4, cells := 0, slots := 0, locals := 89 }
theorem yd_X6_takePart : yX6_takePart.cls = RX6 ∧ yX6_takePart.cls ≠ "java/lang/invoke/MethodHandle" ∧ yX6_takePart.cls ≠ "java/lang/invoke/VarHandle" ∧ (parseMethodDescriptor yX6_takePart.desc).map (fun d => d.parameters.length) = some 4 := by decide +kernel
set_option maxHeartbeats 4000000 in
set_option maxRecDepth 100000 in
theorem kt_X6_takePart_ok (l : Launch) (D : va_G) (C : Nat → ClassId) (K : Nat → Nat) (hAp : DAp K) (F : Nat → Int32) (hs : Nat → Bool) (G T : Nat → Nat → Int32) (s0 : Nat) (o0 : Nat) (f : Nat) (t : Nat) (hs0 : s0 < 8) (ho0 : o0 < 8) (hft : f ≤ t ∧ t < 2 ^ 31) : CMi l yX6_takePart wsX6_takePart rm_X6_takePart D C K (0)  [.int (nI s0), .int (nI o0), .int (nI f), .int (nI t)] F hs G T (fun (r : Int32) (u : CSt) => r = (nI (ct (pT (hM hs o0) f t) 1024)) ∧ u = (F, sS hs s0 (pT (hM hs o0) f t), G, T)) := by
  refine CMi_of (lv := [(0, .ref (K 0)), (1, .int (nI s0)), (2, .int (nI o0)), (3, .int (nI f)), (4, .int (nI t))]) (cc := cX6_takePart) (maxL := 7) (ret := (some .int)) rfl (by decide +kernel) (Nat.le_of_ble_eq_true rfl) rfl ?_
  intro p e s m args below meth c X hml hr hlk
  generalize hQ : MQ below _ args s 0 0 _ = Q
  refine zz_aload_n 0 X.1 0 dX6_takePart_0 rfl ?_
  refine zz_iload_n 1 X.1 1 dX6_takePart_1 rfl ?_
  refine dd_callVr 2 X hml (th := 0) (As := [.int (nI s0)]) (kt_X6_setOf l D C K hAp F hs G T s0 (by first | rfl | assumption | omega)) gX6_takePart_X6_setOf rfl ⟨rfl, rfl⟩ (dr_0 X) yd_X6_setOf ⟨Nat.le_of_ble_eq_true rfl, Nat.le_of_ble_eq_true rfl⟩ rfl rfl (Nat.le_of_ble_eq_true rfl) ⟨Nat.zero_le _, Nat.zero_le _⟩ dX6_takePart_2 ?_
  rintro ⟨F1, hs1, G1, T1⟩ hu1
  have hv1 := hu1
  cases hv1
  refine zz_world (P' := (DP D C K F (WH hs) G T)) (fun _ h => h) ?_
  refine zz_astore 5 X.1 (lv' := [(5, .ref (K (20 + s0))), (0, .ref (K 0)), (1, .int (nI s0)), (2, .int (nI o0)), (3, .int (nI f)), (4, .int (nI t))]) dX6_takePart_5 (by decide) rfl ?_
  refine zz_aload_n 7 X.1 1 dX6_takePart_7 rfl ?_
  refine zz_iload_n 8 X.1 3 dX6_takePart_8 rfl ?_
  refine zz_iload_n 9 X.1 4 dX6_takePart_9 rfl ?_
  refine zz_iload 10 X.1 5 dX6_takePart_10 rfl ?_
  refine dd_callVr 12 X hml (th := 0) (As := [.int (nI o0), .int (nI f), .int (nI t)]) (kt_X6_setAskedIn l D C K hAp F hs G T o0 f t (by first | rfl | assumption | omega) (by first | rfl | assumption | omega)) gX6_takePart_X6_setAskedIn rfl ⟨rfl, rfl⟩ (dr_0 X) yd_X6_setAskedIn ⟨Nat.le_of_ble_eq_true rfl, Nat.le_of_ble_eq_true rfl⟩ rfl rfl (Nat.le_of_ble_eq_true rfl) ⟨Nat.zero_le _, Nat.zero_le _⟩ dX6_takePart_12 ?_
  rintro ⟨F2, hs2, G2, T2⟩ hu2
  have hv2 := hu2
  cases hv2
  refine zz_world (P' := (DP D C K F (WH hs) G T)) (fun _ h => h) ?_
  refine zz_astore 15 X.1 (lv' := [(6, .ref (K (20 + o0))), (5, .ref (K (20 + s0))), (0, .ref (K 0)), (1, .int (nI s0)), (2, .int (nI o0)), (3, .int (nI f)), (4, .int (nI t))]) dX6_takePart_15 (by decide) rfl ?_
  refine zz_aload 17 X.1 1 dX6_takePart_17 rfl ?_
  refine zz_aload 19 X.1 0 dX6_takePart_19 rfl ?_
  refine zz_iload_n 21 X.1 5 dX6_takePart_21 rfl ?_
  refine zz_iload 22 X.1 6 dX6_takePart_22 rfl ?_
  refine dd_callVv 24 X hml (th := 20 + s0) (As := [.ref (K (20 + o0)), .int (nI f), .int (nI t)]) (kt_X0_becomePart l D C K hAp F hs G T s0 o0 f t (by first | rfl | assumption | omega) (by first | rfl | assumption | omega) (by first | rfl | assumption | omega)) gX6_takePart_X0_becomePart rfl ⟨rfl, rfl⟩ (dr_M X (i := s0) (by omega)) yd_X0_becomePart ⟨Nat.le_of_ble_eq_true rfl, Nat.le_of_ble_eq_true rfl⟩ rfl rfl (Nat.le_of_ble_eq_true rfl) ⟨Nat.zero_le _, Nat.zero_le _⟩ dX6_takePart_24 ?_
  rintro ⟨F3, hs3, G3, T3⟩ hu3
  have hv3 := hu3
  cases hv3
  refine zz_world (P' := (DP D C K F (WH (sS hs s0 (pT (hM hs o0) f t))) G T)) (fun _ h => h) ?_
  refine zz_aload 27 X.1 1 dX6_takePart_27 rfl ?_
  refine dd_callVi 29 X hml (th := 20 + s0) (As := []) (kt_X0_size l D C K hAp F (sS hs s0 (pT (hM hs o0) f t)) G T s0 (by first | rfl | assumption | omega)) gX6_takePart_X0_size rfl ⟨rfl, rfl⟩ (dr_M X (i := s0) (by omega)) yd_X0_size ⟨Nat.le_of_ble_eq_true rfl, Nat.le_of_ble_eq_true rfl⟩ rfl rfl (Nat.le_of_ble_eq_true rfl) ⟨Nat.zero_le _, Nat.zero_le _⟩ dX6_takePart_29 ?_
  rintro r4 ⟨F4, hs4, G4, T4⟩ hu4
  obtain ⟨rfl, hv4⟩ := hu4
  cases hv4
  refine zz_world (P' := (DP D C K F (WH (sS hs s0 (pT (hM hs o0) f t))) G T)) (fun _ h => h) ?_
  rw [← hQ]
  refine zz_iret 32 X.1 hr rfl hlk (F, sS hs s0 (pT (hM hs o0) f t), G, T) ?_ (fun _ h _ => h) dX6_takePart_32
  exact ⟨by rw [ct_sS], rfl⟩
abbrev rx_X6_takePart : Room := { frames := 8, cells := 1, slots := 6, locals := 135 }
abbrev rm_X6_shift : Room := { frames := 4, cells := 0, slots := 0, locals := 89 }
theorem yd_X6_shift : yX6_shift.cls = RX6 ∧ yX6_shift.cls ≠ "java/lang/invoke/MethodHandle" ∧ yX6_shift.cls ≠ "java/lang/invoke/VarHandle" ∧ (parseMethodDescriptor yX6_shift.desc).map (fun d => d.parameters.length) = some 2 := by decide +kernel
set_option maxHeartbeats 4000000 in
set_option maxRecDepth 100000 in
theorem kt_X6_shift_ok (l : Launch) (D : va_G) (C : Nat → ClassId) (K : Nat → Nat) (hAp : DAp K) (F : Nat → Int32) (hs : Nat → Bool) (G T : Nat → Nat → Int32) (s0 : Nat) (x1 : Int32) (b : Int) (h_b : x1.toInt = b) (hs0 : s0 < 8) (hbb : -1023 ≤ b ∧ b ≤ 1023) : CMi l yX6_shift wsX6_shift rm_X6_shift D C K (0)  [.int (nI s0), .int x1] F hs G T (fun (r : Int32) (u : CSt) => r = (nI (ct (pH (hM hs s0) b) 1024)) ∧ u = (F, sS hs s0 (pH (hM hs s0) b), G, T)) := by
  refine CMi_of (lv := [(0, .ref (K 0)), (1, .int (nI s0)), (2, .int x1)]) (cc := cX6_shift) (maxL := 4) (ret := (some .int)) rfl (by decide +kernel) (Nat.le_of_ble_eq_true rfl) rfl ?_
  intro p e s m args below meth c X hml hr hlk
  generalize hQ : MQ below _ args s 0 0 _ = Q
  refine zz_aload_n 0 X.1 0 dX6_shift_0 rfl ?_
  refine zz_iload_n 1 X.1 1 dX6_shift_1 rfl ?_
  refine dd_callVr 2 X hml (th := 0) (As := [.int (nI s0)]) (kt_X6_setOf l D C K hAp F hs G T s0 (by first | rfl | assumption | omega)) gX6_shift_X6_setOf rfl ⟨rfl, rfl⟩ (dr_0 X) yd_X6_setOf ⟨Nat.le_of_ble_eq_true rfl, Nat.le_of_ble_eq_true rfl⟩ rfl rfl (Nat.le_of_ble_eq_true rfl) ⟨Nat.zero_le _, Nat.zero_le _⟩ dX6_shift_2 ?_
  rintro ⟨F1, hs1, G1, T1⟩ hu1
  have hv1 := hu1
  cases hv1
  refine zz_world (P' := (DP D C K F (WH hs) G T)) (fun _ h => h) ?_
  refine zz_astore_n 5 X.1 (lv' := [(3, .ref (K (20 + s0))), (0, .ref (K 0)), (1, .int (nI s0)), (2, .int x1)]) dX6_shift_5 (by decide) rfl ?_
  refine zz_iload_n 6 X.1 3 dX6_shift_6 rfl ?_
  refine zz_sipush 7 X.1 (v := (-1023)) dX6_shift_7 (by decide) ?_
  refine zz_sipush 10 X.1 (v := nI 1023) dX6_shift_10 rfl ?_
  refine zz_callS0v 13 ⟨X.1.1, X.1.2, hml, X.2.2.1, X.2.1⟩ (fun q h => Or.inr h) DP_keep (As := [.int x1, .int (-1023), .int (nI 1023)]) (kt_X6_checkNumber l x1 (-1023) (nI 1023) b (-1023) ((1023 : Nat) : Int) (h_b) ((by decide : (-1023 : Int32).toInt = -1023)) (nI_toInt (by omega)) (by first | rfl | assumption | omega)) gX6_shift_X6_checkNumber rfl ⟨rfl, rfl⟩ yd_X6_checkNumber.2 ⟨Nat.le_of_ble_eq_true rfl, Nat.le_of_ble_eq_true rfl⟩ rfl rfl (Nat.le_of_ble_eq_true rfl) ⟨Nat.zero_le _, Nat.zero_le _⟩ dX6_shift_13 ?_
  intro hu2
  refine zz_iload_n 16 X.1 3 dX6_shift_16 rfl ?_
  refine zz_if_le 17 28 X.1 h_b dX6_shift_17 (by decide) (fun h17 => ?_) (fun h17 => ?_)
  · skip
    refine zz_aload_n 28 X.1 0 dX6_shift_28 rfl ?_
    refine zz_aload_n 29 X.1 0 dX6_shift_29 rfl ?_
    refine zz_iload_n 30 X.1 3 dX6_shift_30 rfl ?_
    refine zz_ineg 31 X.1 (v := (nI ((-b).toNat))) dX6_shift_31 (zi_of ((zi_neg h_b (by omega)).trans (by omega))) ?_
    refine zz_sipush 32 X.1 (v := nI 1024) dX6_shift_32 rfl ?_
    refine dd_callVv 35 X hml (th := 20 + s0) (As := [.ref (K (20 + s0)), .int (nI ((-b).toNat)), .int (nI 1024)]) (kt_X0_becomePart l D C K hAp F hs G T s0 s0 ((-b).toNat) 1024 (by first | rfl | assumption | omega) (by first | rfl | assumption | omega) (by first | rfl | assumption | omega)) gX6_shift_X0_becomePart rfl ⟨rfl, rfl⟩ (dr_M X (i := s0) (by omega)) yd_X0_becomePart ⟨Nat.le_of_ble_eq_true rfl, Nat.le_of_ble_eq_true rfl⟩ rfl rfl (Nat.le_of_ble_eq_true rfl) ⟨Nat.zero_le _, Nat.zero_le _⟩ dX6_shift_35 ?_
    rintro ⟨F3, hs3, G3, T3⟩ hu3
    have hv3 := hu3
    cases hv3
    refine zz_world (P' := (DP D C K F (WH (sS hs s0 (pT (hM hs s0) ((-b).toNat) 1024))) G T)) (fun _ h => h) ?_
    refine zz_world (P' := (DP D C K F (WH (sS hs s0 (pH (hM hs s0) b))) G T)) (dp_hs (by first | (rw [hb1]; done) | exact pT_H (by omega))) ?_
    refine zz_aload_n 38 X.1 0 dX6_shift_38 rfl ?_
    refine dd_callVi 39 X hml (th := 20 + s0) (As := []) (kt_X0_size l D C K hAp F (sS hs s0 (pH (hM hs s0) b)) G T s0 (by first | rfl | assumption | omega)) gX6_shift_X0_size rfl ⟨rfl, rfl⟩ (dr_M X (i := s0) (by omega)) yd_X0_size ⟨Nat.le_of_ble_eq_true rfl, Nat.le_of_ble_eq_true rfl⟩ rfl rfl (Nat.le_of_ble_eq_true rfl) ⟨Nat.zero_le _, Nat.zero_le _⟩ dX6_shift_39 ?_
    rintro r4 ⟨F4, hs4, G4, T4⟩ hu4
    obtain ⟨rfl, hv4⟩ := hu4
    cases hv4
    refine zz_world (P' := (DP D C K F (WH (sS hs s0 (pH (hM hs s0) b))) G T)) (fun _ h => h) ?_
    rw [← hQ]
    refine zz_iret 42 X.1 hr rfl hlk (F, sS hs s0 (pH (hM hs s0) b), G, T) ?_ (fun _ h _ => h) dX6_shift_42
    exact ⟨by rw [ct_sS], rfl⟩
  · skip
    obtain ⟨bb, rfl, hb1, hb2⟩ := zi_ofm h_b (by omega)
    refine zz_aload_n 20 X.1 0 dX6_shift_20 rfl ?_
    refine zz_iload_n 21 X.1 3 dX6_shift_21 rfl ?_
    refine dd_callVv 22 X hml (th := 20 + s0) (As := [.int (nI bb)]) (kt_X0_moveUp l D C K hAp F hs G T s0 bb (by first | rfl | assumption | omega) (by first | rfl | assumption | omega)) gX6_shift_X0_moveUp rfl ⟨rfl, rfl⟩ (dr_M X (i := s0) (by omega)) yd_X0_moveUp ⟨Nat.le_of_ble_eq_true rfl, Nat.le_of_ble_eq_true rfl⟩ rfl rfl (Nat.le_of_ble_eq_true rfl) ⟨Nat.zero_le _, Nat.zero_le _⟩ dX6_shift_22 ?_
    rintro ⟨F5, hs5, G5, T5⟩ hu5
    have hv5 := hu5
    cases hv5
    refine zz_world (P' := (DP D C K F (WH (sS hs s0 (pH (hM hs s0) (bb : Int)))) G T)) (fun _ h => h) ?_
    refine zz_goto 25 38 X.1 dX6_shift_25 (by decide) ?_
    refine zz_world (P' := (DP D C K F (WH (sS hs s0 (pH (hM hs s0) b))) G T)) (dp_hs (by first | (rw [hb1]; done) | exact pT_H (by omega))) ?_
    refine zz_aload_n 38 X.1 0 dX6_shift_38 rfl ?_
    refine dd_callVi 39 X hml (th := 20 + s0) (As := []) (kt_X0_size l D C K hAp F (sS hs s0 (pH (hM hs s0) b)) G T s0 (by first | rfl | assumption | omega)) gX6_shift_X0_size rfl ⟨rfl, rfl⟩ (dr_M X (i := s0) (by omega)) yd_X0_size ⟨Nat.le_of_ble_eq_true rfl, Nat.le_of_ble_eq_true rfl⟩ rfl rfl (Nat.le_of_ble_eq_true rfl) ⟨Nat.zero_le _, Nat.zero_le _⟩ dX6_shift_39 ?_
    rintro r6 ⟨F6, hs6, G6, T6⟩ hu6
    obtain ⟨rfl, hv6⟩ := hu6
    cases hv6
    refine zz_world (P' := (DP D C K F (WH (sS hs s0 (pH (hM hs s0) b))) G T)) (fun _ h => h) ?_
    rw [← hQ]
    refine zz_iret 42 X.1 hr rfl hlk (F, sS hs s0 (pH (hM hs s0) b), G, T) ?_ (fun _ h _ => h) dX6_shift_42
    exact ⟨by rw [ct_sS], rfl⟩
abbrev rx_X6_shift : Room := { frames := 7, cells := 1, slots := 6, locals := 112 }
abbrev rm_X6_sieve : Room := { frames := 5, cells := 0, slots := 0, locals := 110 }
theorem yd_X6_sieve : yX6_sieve.cls = RX6 ∧ yX6_sieve.cls ≠ "java/lang/invoke/MethodHandle" ∧ yX6_sieve.cls ≠ "java/lang/invoke/VarHandle" ∧ (parseMethodDescriptor yX6_sieve.desc).map (fun d => d.parameters.length) = some 2 := by decide +kernel
set_option maxHeartbeats 4000000 in
set_option maxRecDepth 100000 in
theorem kt_X6_sieve_ok (l : Launch) (D : va_G) (C : Nat → ClassId) (K : Nat → Nat) (hAp : DAp K) (F : Nat → Int32) (hs : Nat → Bool) (G T : Nat → Nat → Int32) (s0 : Nat) (t : Nat) (hs0 : s0 < 8) (ht : t ≤ 1024) : CMi l yX6_sieve wsX6_sieve rm_X6_sieve D C K (0)  [.int (nI s0), .int (nI t)] F hs G T (fun (r : Int32) (u : CSt) => r = (nI (ct (fun i => decide (i < t) && pr i) 1024)) ∧ u = (F, sS hs s0 (fun i => decide (i < t) && pr i), G, T)) := by
  refine CMi_of (lv := [(0, .ref (K 0)), (1, .int (nI s0)), (2, .int (nI t))]) (cc := cX6_sieve) (maxL := 4) (ret := (some .int)) rfl (by decide +kernel) (Nat.le_of_ble_eq_true rfl) rfl ?_
  intro p e s m args below meth c X hml hr hlk
  generalize hQ : MQ below _ args s 0 0 _ = Q
  refine zz_aload_n 0 X.1 0 dX6_sieve_0 rfl ?_
  refine zz_iload_n 1 X.1 1 dX6_sieve_1 rfl ?_
  refine dd_callVr 2 X hml (th := 0) (As := [.int (nI s0)]) (kt_X6_setOf l D C K hAp F hs G T s0 (by first | rfl | assumption | omega)) gX6_sieve_X6_setOf rfl ⟨rfl, rfl⟩ (dr_0 X) yd_X6_setOf ⟨Nat.le_of_ble_eq_true rfl, Nat.le_of_ble_eq_true rfl⟩ rfl rfl (Nat.le_of_ble_eq_true rfl) ⟨Nat.zero_le _, Nat.zero_le _⟩ dX6_sieve_2 ?_
  rintro ⟨F1, hs1, G1, T1⟩ hu1
  have hv1 := hu1
  cases hv1
  refine zz_world (P' := (DP D C K F (WH hs) G T)) (fun _ h => h) ?_
  refine zz_astore_n 5 X.1 (lv' := [(3, .ref (K (20 + s0))), (0, .ref (K 0)), (1, .int (nI s0)), (2, .int (nI t))]) dX6_sieve_5 (by decide) rfl ?_
  refine zz_iload_n 6 X.1 3 dX6_sieve_6 rfl ?_
  refine zz_iconst 7 X.1 (v := nI 0) dX6_sieve_7 rfl ?_
  refine zz_sipush 8 X.1 (v := nI 1024) dX6_sieve_8 rfl ?_
  refine zz_callS0v 11 ⟨X.1.1, X.1.2, hml, X.2.2.1, X.2.1⟩ (fun q h => Or.inr h) DP_keep (As := [.int (nI t), .int (nI 0), .int (nI 1024)]) (kt_X6_checkNumber l (nI t) (nI 0) (nI 1024) ((t : Nat) : Int) ((0 : Nat) : Int) ((1024 : Nat) : Int) (nI_toInt (by omega)) (nI_toInt (by omega)) (nI_toInt (by omega)) (by first | rfl | assumption | omega)) gX6_sieve_X6_checkNumber rfl ⟨rfl, rfl⟩ yd_X6_checkNumber.2 ⟨Nat.le_of_ble_eq_true rfl, Nat.le_of_ble_eq_true rfl⟩ rfl rfl (Nat.le_of_ble_eq_true rfl) ⟨Nat.zero_le _, Nat.zero_le _⟩ dX6_sieve_11 ?_
  intro hu2
  refine zz_aload_n 14 X.1 0 dX6_sieve_14 rfl ?_
  refine zz_iload_n 15 X.1 3 dX6_sieve_15 rfl ?_
  refine dd_callVv 16 X hml (th := 20 + s0) (As := [.int (nI t)]) (kt_X0_becomePrimes l D C K hAp F hs G T s0 t (by first | rfl | assumption | omega) (by first | rfl | assumption | omega)) gX6_sieve_X0_becomePrimes rfl ⟨rfl, rfl⟩ (dr_M X (i := s0) (by omega)) yd_X0_becomePrimes ⟨Nat.le_of_ble_eq_true rfl, Nat.le_of_ble_eq_true rfl⟩ rfl rfl (Nat.le_of_ble_eq_true rfl) ⟨Nat.zero_le _, Nat.zero_le _⟩ dX6_sieve_16 ?_
  rintro ⟨F3, hs3, G3, T3⟩ hu3
  have hv3 := hu3
  cases hv3
  refine zz_world (P' := (DP D C K F (WH (sS hs s0 (fun i => decide (i < t) && pr i))) G T)) (fun _ h => h) ?_
  refine zz_aload_n 19 X.1 0 dX6_sieve_19 rfl ?_
  refine dd_callVi 20 X hml (th := 20 + s0) (As := []) (kt_X0_size l D C K hAp F (sS hs s0 (fun i => decide (i < t) && pr i)) G T s0 (by first | rfl | assumption | omega)) gX6_sieve_X0_size rfl ⟨rfl, rfl⟩ (dr_M X (i := s0) (by omega)) yd_X0_size ⟨Nat.le_of_ble_eq_true rfl, Nat.le_of_ble_eq_true rfl⟩ rfl rfl (Nat.le_of_ble_eq_true rfl) ⟨Nat.zero_le _, Nat.zero_le _⟩ dX6_sieve_20 ?_
  rintro r4 ⟨F4, hs4, G4, T4⟩ hu4
  obtain ⟨rfl, hv4⟩ := hu4
  cases hv4
  refine zz_world (P' := (DP D C K F (WH (sS hs s0 (fun i => decide (i < t) && pr i))) G T)) (fun _ h => h) ?_
  rw [← hQ]
  refine zz_iret 23 X.1 hr rfl hlk (F, sS hs s0 (fun i => decide (i < t) && pr i), G, T) ?_ (fun _ h _ => h) dX6_sieve_23
  exact ⟨by rw [ct_sS], rfl⟩
abbrev rx_X6_sieve : Room := { frames := 7, cells := 1, slots := 6, locals := 112 }
abbrev rm_X6_loadWords : Room := { frames := 5, cells := 0, slots := 0, locals := 114 }
theorem yd_X6_loadWords : yX6_loadWords.cls = RX6 ∧ yX6_loadWords.cls ≠ "java/lang/invoke/MethodHandle" ∧ yX6_loadWords.cls ≠ "java/lang/invoke/VarHandle" ∧ (parseMethodDescriptor yX6_loadWords.desc).map (fun d => d.parameters.length) = some 4 := by decide +kernel
set_option maxHeartbeats 4000000 in
set_option maxRecDepth 100000 in
theorem kt_X6_loadWords_ok (l : Launch) (D : va_G) (C : Nat → ClassId) (K : Nat → Nat) (hAp : DAp K) (F : Nat → Int32) (hs : Nat → Bool) (G T : Nat → Nat → Int32) (s0 : Nat) (a0 : Int64) (a1 : Int64) (a2 : Int64) (hs0 : s0 < 8) : CMi l yX6_loadWords wsX6_loadWords rm_X6_loadWords D C K (0)  [.int (nI s0), .long a0, .long a1, .long a2] F hs G T (fun (r : Int32) (u : CSt) => r = (nI (ln (pW3 a0 a1 a2) 1024)) ∧ u = (F, sS hs s0 (pW3 a0 a1 a2), G, T)) := by
  refine CMi_of (lv := [(0, .ref (K 0)), (1, .int (nI s0)), (2, .long a0), (4, .long a1), (6, .long a2)]) (cc := cX6_loadWords) (maxL := 9) (ret := (some .int)) rfl (by decide +kernel) (Nat.le_of_ble_eq_true rfl) rfl ?_
  intro p e s m args below meth c X hml hr hlk
  generalize hQ : MQ below _ args s 0 0 _ = Q
  refine zz_aload_n 0 X.1 0 dX6_loadWords_0 rfl ?_
  refine zz_iload_n 1 X.1 1 dX6_loadWords_1 rfl ?_
  refine dd_callVr 2 X hml (th := 0) (As := [.int (nI s0)]) (kt_X6_setOf l D C K hAp F hs G T s0 (by first | rfl | assumption | omega)) gX6_loadWords_X6_setOf rfl ⟨rfl, rfl⟩ (dr_0 X) yd_X6_setOf ⟨Nat.le_of_ble_eq_true rfl, Nat.le_of_ble_eq_true rfl⟩ rfl rfl (Nat.le_of_ble_eq_true rfl) ⟨Nat.zero_le _, Nat.zero_le _⟩ dX6_loadWords_2 ?_
  rintro ⟨F1, hs1, G1, T1⟩ hu1
  have hv1 := hu1
  cases hv1
  refine zz_world (P' := (DP D C K F (WH hs) G T)) (fun _ h => h) ?_
  refine zz_astore 5 X.1 (lv' := [(8, .ref (K (20 + s0))), (0, .ref (K 0)), (1, .int (nI s0)), (2, .long a0), (4, .long a1), (6, .long a2)]) dX6_loadWords_5 (by decide) rfl ?_
  refine zz_aload 7 X.1 0 dX6_loadWords_7 rfl ?_
  refine zz_lload_n 9 X.1 3 dX6_loadWords_9 rfl ?_
  refine zz_lload 10 X.1 4 dX6_loadWords_10 rfl ?_
  refine zz_lload 12 X.1 5 dX6_loadWords_12 rfl ?_
  refine dd_callVv 14 X hml (th := 20 + s0) (As := [.long a0, .long a1, .long a2]) (kt_X0_becomeWords l D C K hAp F hs G T s0 a0 a1 a2 (by first | rfl | assumption | omega)) gX6_loadWords_X0_becomeWords rfl ⟨rfl, rfl⟩ (dr_M X (i := s0) (by omega)) yd_X0_becomeWords ⟨Nat.le_of_ble_eq_true rfl, Nat.le_of_ble_eq_true rfl⟩ rfl rfl (Nat.le_of_ble_eq_true rfl) ⟨Nat.zero_le _, Nat.zero_le _⟩ dX6_loadWords_14 ?_
  rintro ⟨F2, hs2, G2, T2⟩ hu2
  have hv2 := hu2
  cases hv2
  refine zz_world (P' := (DP D C K F (WH (sS hs s0 (pW3 a0 a1 a2))) G T)) (fun _ h => h) ?_
  refine zz_aload 17 X.1 0 dX6_loadWords_17 rfl ?_
  refine dd_callVi 19 X hml (th := 20 + s0) (As := []) (kt_X0_end l D C K hAp F (sS hs s0 (pW3 a0 a1 a2)) G T s0 (by first | rfl | assumption | omega)) gX6_loadWords_X0_end rfl ⟨rfl, rfl⟩ (dr_M X (i := s0) (by omega)) yd_X0_end ⟨Nat.le_of_ble_eq_true rfl, Nat.le_of_ble_eq_true rfl⟩ rfl rfl (Nat.le_of_ble_eq_true rfl) ⟨Nat.zero_le _, Nat.zero_le _⟩ dX6_loadWords_19 ?_
  rintro r3 ⟨F3, hs3, G3, T3⟩ hu3
  obtain ⟨rfl, hv3⟩ := hu3
  cases hv3
  refine zz_world (P' := (DP D C K F (WH (sS hs s0 (pW3 a0 a1 a2))) G T)) (fun _ h => h) ?_
  rw [← hQ]
  refine zz_iret 22 X.1 hr rfl hlk (F, sS hs s0 (pW3 a0 a1 a2), G, T) ?_ (fun _ h _ => h) dX6_loadWords_22
  exact ⟨by rw [ln_sS], rfl⟩
abbrev rx_X6_loadWords : Room := { frames := 7, cells := 1, slots := 6, locals := 114 }
abbrev rm_X6_loadTape : Room := { frames := 5, cells := 0, slots := 0, locals := 110 }
abbrev rx_X6_loadTape : Room := { frames := 7, cells := 1, slots := 6, locals := 111 }
abbrev rm_X6_wordCount : Room := { frames := 5, cells := 0, slots := 0, locals := 110 }
theorem yd_X6_wordCount : yX6_wordCount.cls = RX6 ∧ yX6_wordCount.cls ≠ "java/lang/invoke/MethodHandle" ∧ yX6_wordCount.cls ≠ "java/lang/invoke/VarHandle" ∧ (parseMethodDescriptor yX6_wordCount.desc).map (fun d => d.parameters.length) = some 1 := by decide +kernel
set_option maxHeartbeats 4000000 in
set_option maxRecDepth 100000 in
theorem kt_X6_wordCount_ok (l : Launch) (D : va_G) (C : Nat → ClassId) (K : Nat → Nat) (hAp : DAp K) (F : Nat → Int32) (hs : Nat → Bool) (G T : Nat → Nat → Int32) (s0 : Nat) (hs0 : s0 < 8) : CMi l yX6_wordCount wsX6_wordCount rm_X6_wordCount D C K (0)  [.int (nI s0)] F hs G T (fun (r : Int32) (u : CSt) => r = (nI ((ln (hM hs s0) 1024 + 63) / 64)) ∧ u = (F, hs, G, T)) := by
  refine CMi_of (lv := [(0, .ref (K 0)), (1, .int (nI s0))]) (cc := cX6_wordCount) (maxL := 2) (ret := (some .int)) rfl (by decide +kernel) (Nat.le_of_ble_eq_true rfl) rfl ?_
  intro p e s m args below meth c X hml hr hlk
  generalize hQ : MQ below _ args s 0 0 _ = Q
  refine zz_aload_n 0 X.1 0 dX6_wordCount_0 rfl ?_
  refine zz_iload_n 1 X.1 1 dX6_wordCount_1 rfl ?_
  refine dd_callVr 2 X hml (th := 0) (As := [.int (nI s0)]) (kt_X6_setOf l D C K hAp F hs G T s0 (by first | rfl | assumption | omega)) gX6_wordCount_X6_setOf rfl ⟨rfl, rfl⟩ (dr_0 X) yd_X6_setOf ⟨Nat.le_of_ble_eq_true rfl, Nat.le_of_ble_eq_true rfl⟩ rfl rfl (Nat.le_of_ble_eq_true rfl) ⟨Nat.zero_le _, Nat.zero_le _⟩ dX6_wordCount_2 ?_
  rintro ⟨F1, hs1, G1, T1⟩ hu1
  have hv1 := hu1
  cases hv1
  refine zz_world (P' := (DP D C K F (WH hs) G T)) (fun _ h => h) ?_
  refine dd_callVi 5 X hml (th := 20 + s0) (As := []) (kt_X0_usedWords l D C K hAp F hs G T s0 (by first | rfl | assumption | omega)) gX6_wordCount_X0_usedWords rfl ⟨rfl, rfl⟩ (dr_M X (i := s0) (by omega)) yd_X0_usedWords ⟨Nat.le_of_ble_eq_true rfl, Nat.le_of_ble_eq_true rfl⟩ rfl rfl (Nat.le_of_ble_eq_true rfl) ⟨Nat.zero_le _, Nat.zero_le _⟩ dX6_wordCount_5 ?_
  rintro r2 ⟨F2, hs2, G2, T2⟩ hu2
  obtain ⟨rfl, hv2⟩ := hu2
  cases hv2
  refine zz_world (P' := (DP D C K F (WH hs) G T)) (fun _ h => h) ?_
  rw [← hQ]
  refine zz_iret 8 X.1 hr rfl hlk (F, hs, G, T) ?_ (fun _ h _ => h) dX6_wordCount_8
  exact ⟨rfl, rfl⟩
abbrev rx_X6_wordCount : Room := { frames := 7, cells := 1, slots := 6, locals := 111 }
abbrev rm_X6_byteCount : Room := { frames := 5, cells := 0, slots := 0, locals := 110 }
theorem yd_X6_byteCount : yX6_byteCount.cls = RX6 ∧ yX6_byteCount.cls ≠ "java/lang/invoke/MethodHandle" ∧ yX6_byteCount.cls ≠ "java/lang/invoke/VarHandle" ∧ (parseMethodDescriptor yX6_byteCount.desc).map (fun d => d.parameters.length) = some 1 := by decide +kernel
set_option maxHeartbeats 4000000 in
set_option maxRecDepth 100000 in
theorem kt_X6_byteCount_ok (l : Launch) (D : va_G) (C : Nat → ClassId) (K : Nat → Nat) (hAp : DAp K) (F : Nat → Int32) (hs : Nat → Bool) (G T : Nat → Nat → Int32) (s0 : Nat) (hs0 : s0 < 8) : CMi l yX6_byteCount wsX6_byteCount rm_X6_byteCount D C K (0)  [.int (nI s0)] F hs G T (fun (r : Int32) (u : CSt) => r = (nI ((ln (hM hs s0) 1024 + 7) / 8)) ∧ u = (F, hs, G, T)) := by
  refine CMi_of (lv := [(0, .ref (K 0)), (1, .int (nI s0))]) (cc := cX6_byteCount) (maxL := 2) (ret := (some .int)) rfl (by decide +kernel) (Nat.le_of_ble_eq_true rfl) rfl ?_
  intro p e s m args below meth c X hml hr hlk
  generalize hQ : MQ below _ args s 0 0 _ = Q
  refine zz_aload_n 0 X.1 0 dX6_byteCount_0 rfl ?_
  refine zz_iload_n 1 X.1 1 dX6_byteCount_1 rfl ?_
  refine dd_callVr 2 X hml (th := 0) (As := [.int (nI s0)]) (kt_X6_setOf l D C K hAp F hs G T s0 (by first | rfl | assumption | omega)) gX6_byteCount_X6_setOf rfl ⟨rfl, rfl⟩ (dr_0 X) yd_X6_setOf ⟨Nat.le_of_ble_eq_true rfl, Nat.le_of_ble_eq_true rfl⟩ rfl rfl (Nat.le_of_ble_eq_true rfl) ⟨Nat.zero_le _, Nat.zero_le _⟩ dX6_byteCount_2 ?_
  rintro ⟨F1, hs1, G1, T1⟩ hu1
  have hv1 := hu1
  cases hv1
  refine zz_world (P' := (DP D C K F (WH hs) G T)) (fun _ h => h) ?_
  refine dd_callVi 5 X hml (th := 20 + s0) (As := []) (kt_X0_usedBytes l D C K hAp F hs G T s0 (by first | rfl | assumption | omega)) gX6_byteCount_X0_usedBytes rfl ⟨rfl, rfl⟩ (dr_M X (i := s0) (by omega)) yd_X0_usedBytes ⟨Nat.le_of_ble_eq_true rfl, Nat.le_of_ble_eq_true rfl⟩ rfl rfl (Nat.le_of_ble_eq_true rfl) ⟨Nat.zero_le _, Nat.zero_le _⟩ dX6_byteCount_5 ?_
  rintro r2 ⟨F2, hs2, G2, T2⟩ hu2
  obtain ⟨rfl, hv2⟩ := hu2
  cases hv2
  refine zz_world (P' := (DP D C K F (WH hs) G T)) (fun _ h => h) ?_
  rw [← hQ]
  refine zz_iret 8 X.1 hr rfl hlk (F, hs, G, T) ?_ (fun _ h _ => h) dX6_byteCount_8
  exact ⟨rfl, rfl⟩
abbrev rx_X6_byteCount : Room := { frames := 7, cells := 1, slots := 6, locals := 111 }
abbrev rm_X6_wordAt : Room := { frames := 5, cells := 0, slots := 0, locals := 110 }
theorem yd_X6_wordAt : yX6_wordAt.cls = RX6 ∧ yX6_wordAt.cls ≠ "java/lang/invoke/MethodHandle" ∧ yX6_wordAt.cls ≠ "java/lang/invoke/VarHandle" ∧ (parseMethodDescriptor yX6_wordAt.desc).map (fun d => d.parameters.length) = some 2 := by decide +kernel
set_option maxHeartbeats 4000000 in
set_option maxRecDepth 100000 in
theorem kt_X6_wordAt_ok (l : Launch) (D : va_G) (C : Nat → ClassId) (K : Nat → Nat) (hAp : DAp K) (F : Nat → Int32) (hs : Nat → Bool) (G T : Nat → Nat → Int32) (s0 : Nat) (k0 : Nat) (hs0 : s0 < 8) (hk : k0 < (ln (hM hs s0) 1024 + 63) / 64) : CMl l yX6_wordAt wsX6_wordAt rm_X6_wordAt D C K (0)  [.int (nI s0), .int (nI k0)] F hs G T (fun (r : Int64) (u : CSt) => r = (lN (nB (hM hs s0) (64 * k0) 64)) ∧ u = (F, hs, G, T)) := by
  refine CMl_of (lv := [(0, .ref (K 0)), (1, .int (nI s0)), (2, .int (nI k0))]) (cc := cX6_wordAt) (maxL := 4) (ret := (some .long)) rfl (by decide +kernel) (Nat.le_of_ble_eq_true rfl) rfl ?_
  intro p e s m args below meth c X hml hr hlk
  generalize hQ : MQ below _ args s 0 0 _ = Q
  refine zz_aload_n 0 X.1 0 dX6_wordAt_0 rfl ?_
  refine zz_iload_n 1 X.1 1 dX6_wordAt_1 rfl ?_
  refine dd_callVr 2 X hml (th := 0) (As := [.int (nI s0)]) (kt_X6_setOf l D C K hAp F hs G T s0 (by first | rfl | assumption | omega)) gX6_wordAt_X6_setOf rfl ⟨rfl, rfl⟩ (dr_0 X) yd_X6_setOf ⟨Nat.le_of_ble_eq_true rfl, Nat.le_of_ble_eq_true rfl⟩ rfl rfl (Nat.le_of_ble_eq_true rfl) ⟨Nat.zero_le _, Nat.zero_le _⟩ dX6_wordAt_2 ?_
  rintro ⟨F1, hs1, G1, T1⟩ hu1
  have hv1 := hu1
  cases hv1
  refine zz_world (P' := (DP D C K F (WH hs) G T)) (fun _ h => h) ?_
  have hl := ln_le (hM hs s0) 1024
  refine zz_astore_n 5 X.1 (lv' := [(3, .ref (K (20 + s0))), (0, .ref (K 0)), (1, .int (nI s0)), (2, .int (nI k0))]) dX6_wordAt_5 (by decide) rfl ?_
  refine zz_iload_n 6 X.1 3 dX6_wordAt_6 rfl ?_
  refine zz_aload_n 7 X.1 0 dX6_wordAt_7 rfl ?_
  refine dd_callVi 8 X hml (th := 20 + s0) (As := []) (kt_X0_usedWords l D C K hAp F hs G T s0 (by first | rfl | assumption | omega)) gX6_wordAt_X0_usedWords rfl ⟨rfl, rfl⟩ (dr_M X (i := s0) (by omega)) yd_X0_usedWords ⟨Nat.le_of_ble_eq_true rfl, Nat.le_of_ble_eq_true rfl⟩ rfl rfl (Nat.le_of_ble_eq_true rfl) ⟨Nat.zero_le _, Nat.zero_le _⟩ dX6_wordAt_8 ?_
  rintro r2 ⟨F2, hs2, G2, T2⟩ hu2
  obtain ⟨rfl, hv2⟩ := hu2
  cases hv2
  refine zz_world (P' := (DP D C K F (WH hs) G T)) (fun _ h => h) ?_
  refine zz_callS0v 11 ⟨X.1.1, X.1.2, hml, X.2.2.1, X.2.1⟩ (fun q h => Or.inr h) DP_keep (As := [.int (nI k0), .int (nI ((ln (hM hs s0) 1024 + 63) / 64))]) (kt_X6_checkPlace l (nI k0) (nI ((ln (hM hs s0) 1024 + 63) / 64)) ((k0 : Nat) : Int) (((ln (hM hs s0) 1024 + 63) / 64 : Nat) : Int) (nI_toInt (by omega)) (nI_toInt (by omega)) (by first | rfl | assumption | omega)) gX6_wordAt_X6_checkPlace rfl ⟨rfl, rfl⟩ yd_X6_checkPlace.2 ⟨Nat.le_of_ble_eq_true rfl, Nat.le_of_ble_eq_true rfl⟩ rfl rfl (Nat.le_of_ble_eq_true rfl) ⟨Nat.zero_le _, Nat.zero_le _⟩ dX6_wordAt_11 ?_
  intro hu3
  refine zz_aload_n 14 X.1 0 dX6_wordAt_14 rfl ?_
  refine zz_iload_n 15 X.1 3 dX6_wordAt_15 rfl ?_
  refine dd_callVl 16 X hml (th := 20 + s0) (As := [.int (nI k0)]) (kt_X0_word l D C K hAp F hs G T s0 (nI k0) ((k0 : Nat) : Int) (nI_toInt (by omega)) (by first | rfl | assumption | omega)) gX6_wordAt_X0_word rfl ⟨rfl, rfl⟩ (dr_M X (i := s0) (by omega)) yd_X0_word ⟨Nat.le_of_ble_eq_true rfl, Nat.le_of_ble_eq_true rfl⟩ rfl rfl (Nat.le_of_ble_eq_true rfl) ⟨Nat.zero_le _, Nat.zero_le _⟩ dX6_wordAt_16 ?_
  rintro r4 ⟨F4, hs4, G4, T4⟩ hu4
  obtain ⟨rfl, hv4⟩ := hu4
  cases hv4
  refine zz_world (P' := (DP D C K F (WH hs) G T)) (fun _ h => h) ?_
  rw [← hQ]
  refine zz_lret 19 X.1 hr hlk (F, hs, G, T) ?_ (fun _ h _ => h) dX6_wordAt_19
  exact ⟨(wz_word (by omega)).symm, rfl⟩
abbrev rx_X6_wordAt : Room := { frames := 7, cells := 1, slots := 6, locals := 111 }
abbrev rm_X6_byteAt : Room := { frames := 5, cells := 0, slots := 0, locals := 110 }
theorem yd_X6_byteAt : yX6_byteAt.cls = RX6 ∧ yX6_byteAt.cls ≠ "java/lang/invoke/MethodHandle" ∧ yX6_byteAt.cls ≠ "java/lang/invoke/VarHandle" ∧ (parseMethodDescriptor yX6_byteAt.desc).map (fun d => d.parameters.length) = some 2 := by decide +kernel
set_option maxHeartbeats 4000000 in
set_option maxRecDepth 100000 in
theorem kt_X6_byteAt_ok (l : Launch) (D : va_G) (C : Nat → ClassId) (K : Nat → Nat) (hAp : DAp K) (F : Nat → Int32) (hs : Nat → Bool) (G T : Nat → Nat → Int32) (s0 : Nat) (k0 : Nat) (hs0 : s0 < 8) (hk : k0 < (ln (hM hs s0) 1024 + 7) / 8) : CMi l yX6_byteAt wsX6_byteAt rm_X6_byteAt D C K (0)  [.int (nI s0), .int (nI k0)] F hs G T (fun (r : Int32) (u : CSt) => r = ((lN (nB (hM hs s0) (8 * k0) 8)).toInt32) ∧ u = (F, hs, G, T)) := by
  refine CMi_of (lv := [(0, .ref (K 0)), (1, .int (nI s0)), (2, .int (nI k0))]) (cc := cX6_byteAt) (maxL := 4) (ret := (some .int)) rfl (by decide +kernel) (Nat.le_of_ble_eq_true rfl) rfl ?_
  intro p e s m args below meth c X hml hr hlk
  generalize hQ : MQ below _ args s 0 0 _ = Q
  refine zz_aload_n 0 X.1 0 dX6_byteAt_0 rfl ?_
  refine zz_iload_n 1 X.1 1 dX6_byteAt_1 rfl ?_
  refine dd_callVr 2 X hml (th := 0) (As := [.int (nI s0)]) (kt_X6_setOf l D C K hAp F hs G T s0 (by first | rfl | assumption | omega)) gX6_byteAt_X6_setOf rfl ⟨rfl, rfl⟩ (dr_0 X) yd_X6_setOf ⟨Nat.le_of_ble_eq_true rfl, Nat.le_of_ble_eq_true rfl⟩ rfl rfl (Nat.le_of_ble_eq_true rfl) ⟨Nat.zero_le _, Nat.zero_le _⟩ dX6_byteAt_2 ?_
  rintro ⟨F1, hs1, G1, T1⟩ hu1
  have hv1 := hu1
  cases hv1
  refine zz_world (P' := (DP D C K F (WH hs) G T)) (fun _ h => h) ?_
  have hl := ln_le (hM hs s0) 1024
  refine zz_astore_n 5 X.1 (lv' := [(3, .ref (K (20 + s0))), (0, .ref (K 0)), (1, .int (nI s0)), (2, .int (nI k0))]) dX6_byteAt_5 (by decide) rfl ?_
  refine zz_iload_n 6 X.1 3 dX6_byteAt_6 rfl ?_
  refine zz_aload_n 7 X.1 0 dX6_byteAt_7 rfl ?_
  refine dd_callVi 8 X hml (th := 20 + s0) (As := []) (kt_X0_usedBytes l D C K hAp F hs G T s0 (by first | rfl | assumption | omega)) gX6_byteAt_X0_usedBytes rfl ⟨rfl, rfl⟩ (dr_M X (i := s0) (by omega)) yd_X0_usedBytes ⟨Nat.le_of_ble_eq_true rfl, Nat.le_of_ble_eq_true rfl⟩ rfl rfl (Nat.le_of_ble_eq_true rfl) ⟨Nat.zero_le _, Nat.zero_le _⟩ dX6_byteAt_8 ?_
  rintro r2 ⟨F2, hs2, G2, T2⟩ hu2
  obtain ⟨rfl, hv2⟩ := hu2
  cases hv2
  refine zz_world (P' := (DP D C K F (WH hs) G T)) (fun _ h => h) ?_
  refine zz_callS0v 11 ⟨X.1.1, X.1.2, hml, X.2.2.1, X.2.1⟩ (fun q h => Or.inr h) DP_keep (As := [.int (nI k0), .int (nI ((ln (hM hs s0) 1024 + 7) / 8))]) (kt_X6_checkPlace l (nI k0) (nI ((ln (hM hs s0) 1024 + 7) / 8)) ((k0 : Nat) : Int) (((ln (hM hs s0) 1024 + 7) / 8 : Nat) : Int) (nI_toInt (by omega)) (nI_toInt (by omega)) (by first | rfl | assumption | omega)) gX6_byteAt_X6_checkPlace rfl ⟨rfl, rfl⟩ yd_X6_checkPlace.2 ⟨Nat.le_of_ble_eq_true rfl, Nat.le_of_ble_eq_true rfl⟩ rfl rfl (Nat.le_of_ble_eq_true rfl) ⟨Nat.zero_le _, Nat.zero_le _⟩ dX6_byteAt_11 ?_
  intro hu3
  refine zz_aload_n 14 X.1 0 dX6_byteAt_14 rfl ?_
  refine zz_bipush 15 X.1 (v := nI 8) dX6_byteAt_15 rfl ?_
  refine zz_iload_n 17 X.1 3 dX6_byteAt_17 rfl ?_
  refine zz_imul 18 X.1 (v := (nI (8 * k0))) dX6_byteAt_18 (pk_mul _ _) ?_
  refine dd_callVl 19 X hml (th := 20 + s0) (As := [.int (nI (8 * k0))]) (kt_X0_wordFrom l D C K hAp F hs G T s0 (nI (8 * k0)) ((8 * k0 : Nat) : Int) (nI_toInt (by omega)) (by first | rfl | assumption | omega)) gX6_byteAt_X0_wordFrom rfl ⟨rfl, rfl⟩ (dr_M X (i := s0) (by omega)) yd_X0_wordFrom ⟨Nat.le_of_ble_eq_true rfl, Nat.le_of_ble_eq_true rfl⟩ rfl rfl (Nat.le_of_ble_eq_true rfl) ⟨Nat.zero_le _, Nat.zero_le _⟩ dX6_byteAt_19 ?_
  rintro r4 ⟨F4, hs4, G4, T4⟩ hu4
  obtain ⟨rfl, hv4⟩ := hu4
  cases hv4
  refine zz_world (P' := (DP D C K F (WH hs) G T)) (fun _ h => h) ?_
  refine zz_ldc2 22 X.1 (v := 255) dX6_byteAt_22 X.2.2.1 (by exact (X.2.1 _ (by decide +kernel))) ?_
  refine zz_land 25 X.1 (v := (wd (qz (hM hs s0) ((8 * k0 : Nat) : Int)) 0) &&& (255 : Int64)) dX6_byteAt_25 rfl ?_
  refine zz_l2i 26 X.1 (v := (((wd (qz (hM hs s0) ((8 * k0 : Nat) : Int)) 0) &&& (255 : Int64)).toInt32)) dX6_byteAt_26 rfl ?_
  rw [← hQ]
  refine zz_iret 27 X.1 hr rfl hlk (F, hs, G, T) ?_ (fun _ h _ => h) dX6_byteAt_27
  exact ⟨congrArg Int64.toInt32 (byte_eq (by omega)), rfl⟩
abbrev rx_X6_byteAt : Room := { frames := 7, cells := 1, slots := 6, locals := 111 }
abbrev rm_X6_fingerprint : Room := { frames := 1, cells := 0, slots := 0, locals := 23 }
theorem yd_X6_fingerprint : yX6_fingerprint.cls = RX6 ∧ yX6_fingerprint.cls ≠ "java/lang/invoke/MethodHandle" ∧ yX6_fingerprint.cls ≠ "java/lang/invoke/VarHandle" ∧ (parseMethodDescriptor yX6_fingerprint.desc).map (fun d => d.parameters.length) = some 1 := by decide +kernel
set_option maxHeartbeats 4000000 in
set_option maxRecDepth 100000 in
theorem kt_X6_fingerprint_ok (l : Launch) (D : va_G) (C : Nat → ClassId) (K : Nat → Nat) (hAp : DAp K) (F : Nat → Int32) (hs : Nat → Bool) (G T : Nat → Nat → Int32) (s0 : Nat) (hs0 : s0 < 8) : CMi l yX6_fingerprint wsX6_fingerprint rm_X6_fingerprint D C K (0)  [.int (nI s0)] F hs G T (fun (r : Int32) (u : CSt) => r = (fpr (hM hs s0)) ∧ u = (F, hs, G, T)) := by
  refine CMi_of (lv := [(0, .ref (K 0)), (1, .int (nI s0))]) (cc := cX6_fingerprint) (maxL := 2) (ret := (some .int)) rfl (by decide +kernel) (Nat.le_of_ble_eq_true rfl) rfl ?_
  intro p e s m args below meth c X hml hr hlk
  generalize hQ : MQ below _ args s 0 0 _ = Q
  refine zz_aload_n 0 X.1 0 dX6_fingerprint_0 rfl ?_
  refine zz_iload_n 1 X.1 1 dX6_fingerprint_1 rfl ?_
  refine dd_callVr 2 X hml (th := 0) (As := [.int (nI s0)]) (kt_X6_setOf l D C K hAp F hs G T s0 (by first | rfl | assumption | omega)) gX6_fingerprint_X6_setOf rfl ⟨rfl, rfl⟩ (dr_0 X) yd_X6_setOf ⟨Nat.le_of_ble_eq_true rfl, Nat.le_of_ble_eq_true rfl⟩ rfl rfl (Nat.le_of_ble_eq_true rfl) ⟨Nat.zero_le _, Nat.zero_le _⟩ dX6_fingerprint_2 ?_
  rintro ⟨F1, hs1, G1, T1⟩ hu1
  have hv1 := hu1
  cases hv1
  refine zz_world (P' := (DP D C K F (WH hs) G T)) (fun _ h => h) ?_
  refine dd_callVi 5 X hml (th := 20 + s0) (As := []) (kt_X0_digest l D C K hAp F hs G T s0 (by first | rfl | assumption | omega)) gX6_fingerprint_X0_digest rfl ⟨rfl, rfl⟩ (dr_M X (i := s0) (by omega)) yd_X0_digest ⟨Nat.le_of_ble_eq_true rfl, Nat.le_of_ble_eq_true rfl⟩ rfl rfl (Nat.le_of_ble_eq_true rfl) ⟨Nat.zero_le _, Nat.zero_le _⟩ dX6_fingerprint_5 ?_
  rintro r2 ⟨F2, hs2, G2, T2⟩ hu2
  obtain ⟨rfl, hv2⟩ := hu2
  cases hv2
  refine zz_world (P' := (DP D C K F (WH hs) G T)) (fun _ h => h) ?_
  rw [← hQ]
  refine zz_iret 8 X.1 hr rfl hlk (F, hs, G, T) ?_ (fun _ h _ => h) dX6_fingerprint_8
  exact ⟨rfl, rfl⟩
abbrev rx_X6_fingerprint : Room := { frames := 7, cells := 1, slots := 6, locals := 111 }
abbrev rm_X6_has : Room := { frames := 2, cells := 0, slots := 0, locals := 45 }
theorem yd_X6_has : yX6_has.cls = RX6 ∧ yX6_has.cls ≠ "java/lang/invoke/MethodHandle" ∧ yX6_has.cls ≠ "java/lang/invoke/VarHandle" ∧ (parseMethodDescriptor yX6_has.desc).map (fun d => d.parameters.length) = some 2 := by decide +kernel
set_option maxHeartbeats 4000000 in
set_option maxRecDepth 100000 in
theorem kt_X6_has_ok (l : Launch) (D : va_G) (C : Nat → ClassId) (K : Nat → Nat) (hAp : DAp K) (F : Nat → Int32) (hs : Nat → Bool) (G T : Nat → Nat → Int32) (s0 : Nat) (i0 : Nat) (hs0 : s0 < 8) (hi0 : i0 < 2 ^ 31) : CMi l yX6_has wsX6_has rm_X6_has D C K (0)  [.int (nI s0), .int (nI i0)] F hs G T (fun (r : Int32) (u : CSt) => r = (bI (decide (i0 < 1024) && hM hs s0 i0)) ∧ u = (F, hs, G, T)) := by
  refine CMi_of (lv := [(0, .ref (K 0)), (1, .int (nI s0)), (2, .int (nI i0))]) (cc := cX6_has) (maxL := 3) (ret := (some .boolean)) rfl (by decide +kernel) (Nat.le_of_ble_eq_true rfl) rfl ?_
  intro p e s m args below meth c X hml hr hlk
  generalize hQ : MQ below _ args s 0 0 _ = Q
  refine zz_aload_n 0 X.1 0 dX6_has_0 rfl ?_
  refine zz_iload_n 1 X.1 1 dX6_has_1 rfl ?_
  refine zz_iload_n 2 X.1 2 dX6_has_2 rfl ?_
  refine zz_iconst 3 X.1 (v := nI 0) dX6_has_3 rfl ?_
  refine dd_callVr 4 X hml (th := 0) (As := [.int (nI s0), .int (nI i0), .int (nI 0)]) (kt_X6_setAskedAt l D C K hAp F hs G T s0 (nI i0) (nI 0) ((i0 : Nat) : Int) ((0 : Nat) : Int) (nI_toInt (by omega)) (nI_toInt (by omega)) (by first | rfl | assumption | omega) (by first | rfl | assumption | omega)) gX6_has_X6_setAskedAt rfl ⟨rfl, rfl⟩ (dr_0 X) yd_X6_setAskedAt ⟨Nat.le_of_ble_eq_true rfl, Nat.le_of_ble_eq_true rfl⟩ rfl rfl (Nat.le_of_ble_eq_true rfl) ⟨Nat.zero_le _, Nat.zero_le _⟩ dX6_has_4 ?_
  rintro ⟨F1, hs1, G1, T1⟩ hu1
  have hv1 := hu1
  cases hv1
  refine zz_world (P' := (DP D C K F (WH hs) G T)) (fun _ h => h) ?_
  refine zz_iload_n 7 X.1 2 dX6_has_7 rfl ?_
  refine dd_callVi 8 X hml (th := 20 + s0) (As := [.int (nI i0)]) (kt_X0_holds l D C K hAp F hs G T s0 (nI i0) ((i0 : Nat) : Int) (nI_toInt (by omega)) (by first | rfl | assumption | omega)) gX6_has_X0_holds rfl ⟨rfl, rfl⟩ (dr_M X (i := s0) (by omega)) yd_X0_holds ⟨Nat.le_of_ble_eq_true rfl, Nat.le_of_ble_eq_true rfl⟩ rfl rfl (Nat.le_of_ble_eq_true rfl) ⟨Nat.zero_le _, Nat.zero_le _⟩ dX6_has_8 ?_
  rintro r2 ⟨F2, hs2, G2, T2⟩ hu2
  obtain ⟨rfl, hv2⟩ := hu2
  cases hv2
  refine zz_world (P' := (DP D C K F (WH hs) G T)) (fun _ h => h) ?_
  rw [← hQ]
  refine zz_iret 11 X.1 hr (bI_nar _) hlk (F, hs, G, T) ?_ (fun _ h _ => h) dX6_has_11
  exact ⟨congrArg bI hz_N, rfl⟩
abbrev rm_X6_next : Room := { frames := 3, cells := 0, slots := 0, locals := 69 }
theorem yd_X6_next : yX6_next.cls = RX6 ∧ yX6_next.cls ≠ "java/lang/invoke/MethodHandle" ∧ yX6_next.cls ≠ "java/lang/invoke/VarHandle" ∧ (parseMethodDescriptor yX6_next.desc).map (fun d => d.parameters.length) = some 2 := by decide +kernel
set_option maxHeartbeats 4000000 in
set_option maxRecDepth 100000 in
theorem kt_X6_next_ok (l : Launch) (D : va_G) (C : Nat → ClassId) (K : Nat → Nat) (hAp : DAp K) (F : Nat → Int32) (hs : Nat → Bool) (G T : Nat → Nat → Int32) (s0 : Nat) (i0 : Nat) (hs0 : s0 < 8) (hi0 : i0 < 2 ^ 31) : CMi l yX6_next wsX6_next rm_X6_next D C K (0)  [.int (nI s0), .int (nI i0)] F hs G T (fun (r : Int32) (u : CSt) => r = (nx (hM hs s0) i0) ∧ u = (F, hs, G, T)) := by
  refine CMi_of (lv := [(0, .ref (K 0)), (1, .int (nI s0)), (2, .int (nI i0))]) (cc := cX6_next) (maxL := 3) (ret := (some .int)) rfl (by decide +kernel) (Nat.le_of_ble_eq_true rfl) rfl ?_
  intro p e s m args below meth c X hml hr hlk
  generalize hQ : MQ below _ args s 0 0 _ = Q
  refine zz_aload_n 0 X.1 0 dX6_next_0 rfl ?_
  refine zz_iload_n 1 X.1 1 dX6_next_1 rfl ?_
  refine zz_iload_n 2 X.1 2 dX6_next_2 rfl ?_
  refine zz_iconst 3 X.1 (v := nI 0) dX6_next_3 rfl ?_
  refine dd_callVr 4 X hml (th := 0) (As := [.int (nI s0), .int (nI i0), .int (nI 0)]) (kt_X6_setAskedAt l D C K hAp F hs G T s0 (nI i0) (nI 0) ((i0 : Nat) : Int) ((0 : Nat) : Int) (nI_toInt (by omega)) (nI_toInt (by omega)) (by first | rfl | assumption | omega) (by first | rfl | assumption | omega)) gX6_next_X6_setAskedAt rfl ⟨rfl, rfl⟩ (dr_0 X) yd_X6_setAskedAt ⟨Nat.le_of_ble_eq_true rfl, Nat.le_of_ble_eq_true rfl⟩ rfl rfl (Nat.le_of_ble_eq_true rfl) ⟨Nat.zero_le _, Nat.zero_le _⟩ dX6_next_4 ?_
  rintro ⟨F1, hs1, G1, T1⟩ hu1
  have hv1 := hu1
  cases hv1
  refine zz_world (P' := (DP D C K F (WH hs) G T)) (fun _ h => h) ?_
  refine zz_iload_n 7 X.1 2 dX6_next_7 rfl ?_
  refine dd_callVi 8 X hml (th := 20 + s0) (As := [.int (nI i0)]) (kt_X0_firstFrom l D C K hAp F hs G T s0 i0 (by first | rfl | assumption | omega) (by first | rfl | assumption | omega)) gX6_next_X0_firstFrom rfl ⟨rfl, rfl⟩ (dr_M X (i := s0) (by omega)) yd_X0_firstFrom ⟨Nat.le_of_ble_eq_true rfl, Nat.le_of_ble_eq_true rfl⟩ rfl rfl (Nat.le_of_ble_eq_true rfl) ⟨Nat.zero_le _, Nat.zero_le _⟩ dX6_next_8 ?_
  rintro r2 ⟨F2, hs2, G2, T2⟩ hu2
  obtain ⟨rfl, hv2⟩ := hu2
  cases hv2
  refine zz_world (P' := (DP D C K F (WH hs) G T)) (fun _ h => h) ?_
  rw [← hQ]
  refine zz_iret 11 X.1 hr rfl hlk (F, hs, G, T) ?_ (fun _ h _ => h) dX6_next_11
  exact ⟨rfl, rfl⟩
abbrev rm_X6_nextMissing : Room := { frames := 3, cells := 0, slots := 0, locals := 69 }
theorem yd_X6_nextMissing : yX6_nextMissing.cls = RX6 ∧ yX6_nextMissing.cls ≠ "java/lang/invoke/MethodHandle" ∧ yX6_nextMissing.cls ≠ "java/lang/invoke/VarHandle" ∧ (parseMethodDescriptor yX6_nextMissing.desc).map (fun d => d.parameters.length) = some 2 := by decide +kernel
set_option maxHeartbeats 4000000 in
set_option maxRecDepth 100000 in
theorem kt_X6_nextMissing_ok (l : Launch) (D : va_G) (C : Nat → ClassId) (K : Nat → Nat) (hAp : DAp K) (F : Nat → Int32) (hs : Nat → Bool) (G T : Nat → Nat → Int32) (s0 : Nat) (i0 : Nat) (hs0 : s0 < 8) (hi0 : i0 < 2 ^ 31) : CMi l yX6_nextMissing wsX6_nextMissing rm_X6_nextMissing D C K (0)  [.int (nI s0), .int (nI i0)] F hs G T (fun (r : Int32) (u : CSt) => r = (nI (gm (hM hs s0) i0)) ∧ u = (F, hs, G, T)) := by
  refine CMi_of (lv := [(0, .ref (K 0)), (1, .int (nI s0)), (2, .int (nI i0))]) (cc := cX6_nextMissing) (maxL := 3) (ret := (some .int)) rfl (by decide +kernel) (Nat.le_of_ble_eq_true rfl) rfl ?_
  intro p e s m args below meth c X hml hr hlk
  generalize hQ : MQ below _ args s 0 0 _ = Q
  refine zz_aload_n 0 X.1 0 dX6_nextMissing_0 rfl ?_
  refine zz_iload_n 1 X.1 1 dX6_nextMissing_1 rfl ?_
  refine zz_iload_n 2 X.1 2 dX6_nextMissing_2 rfl ?_
  refine zz_iconst 3 X.1 (v := nI 0) dX6_nextMissing_3 rfl ?_
  refine dd_callVr 4 X hml (th := 0) (As := [.int (nI s0), .int (nI i0), .int (nI 0)]) (kt_X6_setAskedAt l D C K hAp F hs G T s0 (nI i0) (nI 0) ((i0 : Nat) : Int) ((0 : Nat) : Int) (nI_toInt (by omega)) (nI_toInt (by omega)) (by first | rfl | assumption | omega) (by first | rfl | assumption | omega)) gX6_nextMissing_X6_setAskedAt rfl ⟨rfl, rfl⟩ (dr_0 X) yd_X6_setAskedAt ⟨Nat.le_of_ble_eq_true rfl, Nat.le_of_ble_eq_true rfl⟩ rfl rfl (Nat.le_of_ble_eq_true rfl) ⟨Nat.zero_le _, Nat.zero_le _⟩ dX6_nextMissing_4 ?_
  rintro ⟨F1, hs1, G1, T1⟩ hu1
  have hv1 := hu1
  cases hv1
  refine zz_world (P' := (DP D C K F (WH hs) G T)) (fun _ h => h) ?_
  refine zz_iload_n 7 X.1 2 dX6_nextMissing_7 rfl ?_
  refine dd_callVi 8 X hml (th := 20 + s0) (As := [.int (nI i0)]) (kt_X0_firstGapFrom l D C K hAp F hs G T s0 i0 (by first | rfl | assumption | omega) (by first | rfl | assumption | omega)) gX6_nextMissing_X0_firstGapFrom rfl ⟨rfl, rfl⟩ (dr_M X (i := s0) (by omega)) yd_X0_firstGapFrom ⟨Nat.le_of_ble_eq_true rfl, Nat.le_of_ble_eq_true rfl⟩ rfl rfl (Nat.le_of_ble_eq_true rfl) ⟨Nat.zero_le _, Nat.zero_le _⟩ dX6_nextMissing_8 ?_
  rintro r2 ⟨F2, hs2, G2, T2⟩ hu2
  obtain ⟨rfl, hv2⟩ := hu2
  cases hv2
  refine zz_world (P' := (DP D C K F (WH hs) G T)) (fun _ h => h) ?_
  rw [← hQ]
  refine zz_iret 11 X.1 hr rfl hlk (F, hs, G, T) ?_ (fun _ h _ => h) dX6_nextMissing_11
  exact ⟨rfl, rfl⟩
abbrev rx_X6_has : Room := { frames := 8, cells := 1, slots := 6, locals := 135 }
abbrev rx_X6_next : Room := { frames := 8, cells := 1, slots := 6, locals := 135 }
abbrev rx_X6_nextMissing : Room := { frames := 8, cells := 1, slots := 6, locals := 135 }
abbrev rm_X6_previous : Room := { frames := 3, cells := 0, slots := 0, locals := 70 }
theorem yd_X6_previous : yX6_previous.cls = RX6 ∧ yX6_previous.cls ≠ "java/lang/invoke/MethodHandle" ∧ yX6_previous.cls ≠ "java/lang/invoke/VarHandle" ∧ (parseMethodDescriptor yX6_previous.desc).map (fun d => d.parameters.length) = some 2 := by decide +kernel
set_option maxHeartbeats 4000000 in
set_option maxRecDepth 100000 in
theorem kt_X6_previous_ok (l : Launch) (D : va_G) (C : Nat → ClassId) (K : Nat → Nat) (hAp : DAp K) (F : Nat → Int32) (hs : Nat → Bool) (G T : Nat → Nat → Int32) (s0 : Nat) (x1 : Int32) (m0 : Nat) (b : Int) (h_b : x1.toInt = b) (hs0 : s0 < 8) (hm : b = (m0 : Int) - 1) : CMi l yX6_previous wsX6_previous rm_X6_previous D C K (0)  [.int (nI s0), .int x1] F hs G T (fun (r : Int32) (u : CSt) => r = (nI (ln (hM hs s0) (min m0 1024)) - 1) ∧ u = (F, hs, G, T)) := by
  refine CMi_of (lv := [(0, .ref (K 0)), (1, .int (nI s0)), (2, .int x1)]) (cc := cX6_previous) (maxL := 3) (ret := (some .int)) rfl (by decide +kernel) (Nat.le_of_ble_eq_true rfl) rfl ?_
  intro p e s m args below meth c X hml hr hlk
  generalize hQ : MQ below _ args s 0 0 _ = Q
  refine zz_aload_n 0 X.1 0 dX6_previous_0 rfl ?_
  refine zz_iload_n 1 X.1 1 dX6_previous_1 rfl ?_
  refine zz_iload_n 2 X.1 2 dX6_previous_2 rfl ?_
  refine zz_iconst 3 X.1 (v := (-1)) dX6_previous_3 (by decide) ?_
  refine dd_callVr 4 X hml (th := 0) (As := [.int (nI s0), .int x1, .int (-1)]) (kt_X6_setAskedAt l D C K hAp F hs G T s0 x1 (-1) b (-1) (h_b) ((by decide : (-1 : Int32).toInt = -1)) (by first | rfl | assumption | omega) (by first | rfl | assumption | omega)) gX6_previous_X6_setAskedAt rfl ⟨rfl, rfl⟩ (dr_0 X) yd_X6_setAskedAt ⟨Nat.le_of_ble_eq_true rfl, Nat.le_of_ble_eq_true rfl⟩ rfl rfl (Nat.le_of_ble_eq_true rfl) ⟨Nat.zero_le _, Nat.zero_le _⟩ dX6_previous_4 ?_
  rintro ⟨F1, hs1, G1, T1⟩ hu1
  have hv1 := hu1
  cases hv1
  refine zz_world (P' := (DP D C K F (WH hs) G T)) (fun _ h => h) ?_
  refine zz_iload_n 7 X.1 2 dX6_previous_7 rfl ?_
  refine dd_callVi 8 X hml (th := 20 + s0) (As := [.int x1]) (kt_X0_lastUpTo l D C K hAp F hs G T s0 x1 m0 b (h_b) (by first | rfl | assumption | omega) (by first | rfl | assumption | omega)) gX6_previous_X0_lastUpTo rfl ⟨rfl, rfl⟩ (dr_M X (i := s0) (by omega)) yd_X0_lastUpTo ⟨Nat.le_of_ble_eq_true rfl, Nat.le_of_ble_eq_true rfl⟩ rfl rfl (Nat.le_of_ble_eq_true rfl) ⟨Nat.zero_le _, Nat.zero_le _⟩ dX6_previous_8 ?_
  rintro r2 ⟨F2, hs2, G2, T2⟩ hu2
  obtain ⟨rfl, hv2⟩ := hu2
  cases hv2
  refine zz_world (P' := (DP D C K F (WH hs) G T)) (fun _ h => h) ?_
  rw [← hQ]
  refine zz_iret 11 X.1 hr rfl hlk (F, hs, G, T) ?_ (fun _ h _ => h) dX6_previous_11
  exact ⟨rfl, rfl⟩
abbrev rx_X6_previous : Room := { frames := 8, cells := 1, slots := 6, locals := 135 }
abbrev rm_X6_previousMissing : Room := { frames := 3, cells := 0, slots := 0, locals := 69 }
theorem yd_X6_previousMissing : yX6_previousMissing.cls = RX6 ∧ yX6_previousMissing.cls ≠ "java/lang/invoke/MethodHandle" ∧ yX6_previousMissing.cls ≠ "java/lang/invoke/VarHandle" ∧ (parseMethodDescriptor yX6_previousMissing.desc).map (fun d => d.parameters.length) = some 2 := by decide +kernel
set_option maxHeartbeats 4000000 in
set_option maxRecDepth 100000 in
theorem kt_X6_previousMissing_ok (l : Launch) (D : va_G) (C : Nat → ClassId) (K : Nat → Nat) (hAp : DAp K) (F : Nat → Int32) (hs : Nat → Bool) (G T : Nat → Nat → Int32) (s0 : Nat) (x1 : Int32) (m0 : Nat) (b : Int) (h_b : x1.toInt = b) (hs0 : s0 < 8) (hm : b = (m0 : Int) - 1) : CMi l yX6_previousMissing wsX6_previousMissing rm_X6_previousMissing D C K (0)  [.int (nI s0), .int x1] F hs G T (fun (r : Int32) (u : CSt) => r = (pmv (hM hs s0) m0) ∧ u = (F, hs, G, T)) := by
  refine CMi_of (lv := [(0, .ref (K 0)), (1, .int (nI s0)), (2, .int x1)]) (cc := cX6_previousMissing) (maxL := 3) (ret := (some .int)) rfl (by decide +kernel) (Nat.le_of_ble_eq_true rfl) rfl ?_
  intro p e s m args below meth c X hml hr hlk
  generalize hQ : MQ below _ args s 0 0 _ = Q
  refine zz_aload_n 0 X.1 0 dX6_previousMissing_0 rfl ?_
  refine zz_iload_n 1 X.1 1 dX6_previousMissing_1 rfl ?_
  refine zz_iload_n 2 X.1 2 dX6_previousMissing_2 rfl ?_
  refine zz_iconst 3 X.1 (v := (-1)) dX6_previousMissing_3 (by decide) ?_
  refine dd_callVr 4 X hml (th := 0) (As := [.int (nI s0), .int x1, .int (-1)]) (kt_X6_setAskedAt l D C K hAp F hs G T s0 x1 (-1) b (-1) (h_b) ((by decide : (-1 : Int32).toInt = -1)) (by first | rfl | assumption | omega) (by first | rfl | assumption | omega)) gX6_previousMissing_X6_setAskedAt rfl ⟨rfl, rfl⟩ (dr_0 X) yd_X6_setAskedAt ⟨Nat.le_of_ble_eq_true rfl, Nat.le_of_ble_eq_true rfl⟩ rfl rfl (Nat.le_of_ble_eq_true rfl) ⟨Nat.zero_le _, Nat.zero_le _⟩ dX6_previousMissing_4 ?_
  rintro ⟨F1, hs1, G1, T1⟩ hu1
  have hv1 := hu1
  cases hv1
  refine zz_world (P' := (DP D C K F (WH hs) G T)) (fun _ h => h) ?_
  refine zz_iload_n 7 X.1 2 dX6_previousMissing_7 rfl ?_
  refine dd_callVi 8 X hml (th := 20 + s0) (As := [.int x1]) (kt_X0_lastGapUpTo l D C K hAp F hs G T s0 x1 m0 b (h_b) (by first | rfl | assumption | omega) (by first | rfl | assumption | omega)) gX6_previousMissing_X0_lastGapUpTo rfl ⟨rfl, rfl⟩ (dr_M X (i := s0) (by omega)) yd_X0_lastGapUpTo ⟨Nat.le_of_ble_eq_true rfl, Nat.le_of_ble_eq_true rfl⟩ rfl rfl (Nat.le_of_ble_eq_true rfl) ⟨Nat.zero_le _, Nat.zero_le _⟩ dX6_previousMissing_8 ?_
  rintro r2 ⟨F2, hs2, G2, T2⟩ hu2
  obtain ⟨rfl, hv2⟩ := hu2
  cases hv2
  refine zz_world (P' := (DP D C K F (WH hs) G T)) (fun _ h => h) ?_
  rw [← hQ]
  refine zz_iret 11 X.1 hr rfl hlk (F, hs, G, T) ?_ (fun _ h _ => h) dX6_previousMissing_11
  exact ⟨rfl, rfl⟩
abbrev rx_X6_previousMissing : Room := { frames := 8, cells := 1, slots := 6, locals := 135 }
abbrev rm_X6_count : Room := { frames := 4, cells := 0, slots := 0, locals := 89 }
theorem yd_X6_count : yX6_count.cls = RX6 ∧ yX6_count.cls ≠ "java/lang/invoke/MethodHandle" ∧ yX6_count.cls ≠ "java/lang/invoke/VarHandle" ∧ (parseMethodDescriptor yX6_count.desc).map (fun d => d.parameters.length) = some 1 := by decide +kernel
set_option maxHeartbeats 4000000 in
set_option maxRecDepth 100000 in
theorem kt_X6_count_ok (l : Launch) (D : va_G) (C : Nat → ClassId) (K : Nat → Nat) (hAp : DAp K) (F : Nat → Int32) (hs : Nat → Bool) (G T : Nat → Nat → Int32) (s0 : Nat) (hs0 : s0 < 8) : CMi l yX6_count wsX6_count rm_X6_count D C K (0)  [.int (nI s0)] F hs G T (fun (r : Int32) (u : CSt) => r = (nI (ct (hM hs s0) 1024)) ∧ u = (F, hs, G, T)) := by
  refine CMi_of (lv := [(0, .ref (K 0)), (1, .int (nI s0))]) (cc := cX6_count) (maxL := 2) (ret := (some .int)) rfl (by decide +kernel) (Nat.le_of_ble_eq_true rfl) rfl ?_
  intro p e s m args below meth c X hml hr hlk
  generalize hQ : MQ below _ args s 0 0 _ = Q
  refine zz_aload_n 0 X.1 0 dX6_count_0 rfl ?_
  refine zz_iload_n 1 X.1 1 dX6_count_1 rfl ?_
  refine dd_callVr 2 X hml (th := 0) (As := [.int (nI s0)]) (kt_X6_setOf l D C K hAp F hs G T s0 (by first | rfl | assumption | omega)) gX6_count_X6_setOf rfl ⟨rfl, rfl⟩ (dr_0 X) yd_X6_setOf ⟨Nat.le_of_ble_eq_true rfl, Nat.le_of_ble_eq_true rfl⟩ rfl rfl (Nat.le_of_ble_eq_true rfl) ⟨Nat.zero_le _, Nat.zero_le _⟩ dX6_count_2 ?_
  rintro ⟨F1, hs1, G1, T1⟩ hu1
  have hv1 := hu1
  cases hv1
  refine zz_world (P' := (DP D C K F (WH hs) G T)) (fun _ h => h) ?_
  refine dd_callVi 5 X hml (th := 20 + s0) (As := []) (kt_X0_size l D C K hAp F hs G T s0 (by first | rfl | assumption | omega)) gX6_count_X0_size rfl ⟨rfl, rfl⟩ (dr_M X (i := s0) (by omega)) yd_X0_size ⟨Nat.le_of_ble_eq_true rfl, Nat.le_of_ble_eq_true rfl⟩ rfl rfl (Nat.le_of_ble_eq_true rfl) ⟨Nat.zero_le _, Nat.zero_le _⟩ dX6_count_5 ?_
  rintro r2 ⟨F2, hs2, G2, T2⟩ hu2
  obtain ⟨rfl, hv2⟩ := hu2
  cases hv2
  refine zz_world (P' := (DP D C K F (WH hs) G T)) (fun _ h => h) ?_
  rw [← hQ]
  refine zz_iret 8 X.1 hr rfl hlk (F, hs, G, T) ?_ (fun _ h _ => h) dX6_count_8
  exact ⟨rfl, rfl⟩
abbrev rx_X6_count : Room := { frames := 7, cells := 1, slots := 6, locals := 111 }
abbrev rm_X6_length : Room := { frames := 4, cells := 0, slots := 0, locals := 90 }
theorem yd_X6_length : yX6_length.cls = RX6 ∧ yX6_length.cls ≠ "java/lang/invoke/MethodHandle" ∧ yX6_length.cls ≠ "java/lang/invoke/VarHandle" ∧ (parseMethodDescriptor yX6_length.desc).map (fun d => d.parameters.length) = some 1 := by decide +kernel
set_option maxHeartbeats 4000000 in
set_option maxRecDepth 100000 in
theorem kt_X6_length_ok (l : Launch) (D : va_G) (C : Nat → ClassId) (K : Nat → Nat) (hAp : DAp K) (F : Nat → Int32) (hs : Nat → Bool) (G T : Nat → Nat → Int32) (s0 : Nat) (hs0 : s0 < 8) : CMi l yX6_length wsX6_length rm_X6_length D C K (0)  [.int (nI s0)] F hs G T (fun (r : Int32) (u : CSt) => r = (nI (ln (hM hs s0) 1024)) ∧ u = (F, hs, G, T)) := by
  refine CMi_of (lv := [(0, .ref (K 0)), (1, .int (nI s0))]) (cc := cX6_length) (maxL := 2) (ret := (some .int)) rfl (by decide +kernel) (Nat.le_of_ble_eq_true rfl) rfl ?_
  intro p e s m args below meth c X hml hr hlk
  generalize hQ : MQ below _ args s 0 0 _ = Q
  refine zz_aload_n 0 X.1 0 dX6_length_0 rfl ?_
  refine zz_iload_n 1 X.1 1 dX6_length_1 rfl ?_
  refine dd_callVr 2 X hml (th := 0) (As := [.int (nI s0)]) (kt_X6_setOf l D C K hAp F hs G T s0 (by first | rfl | assumption | omega)) gX6_length_X6_setOf rfl ⟨rfl, rfl⟩ (dr_0 X) yd_X6_setOf ⟨Nat.le_of_ble_eq_true rfl, Nat.le_of_ble_eq_true rfl⟩ rfl rfl (Nat.le_of_ble_eq_true rfl) ⟨Nat.zero_le _, Nat.zero_le _⟩ dX6_length_2 ?_
  rintro ⟨F1, hs1, G1, T1⟩ hu1
  have hv1 := hu1
  cases hv1
  refine zz_world (P' := (DP D C K F (WH hs) G T)) (fun _ h => h) ?_
  refine dd_callVi 5 X hml (th := 20 + s0) (As := []) (kt_X0_end l D C K hAp F hs G T s0 (by first | rfl | assumption | omega)) gX6_length_X0_end rfl ⟨rfl, rfl⟩ (dr_M X (i := s0) (by omega)) yd_X0_end ⟨Nat.le_of_ble_eq_true rfl, Nat.le_of_ble_eq_true rfl⟩ rfl rfl (Nat.le_of_ble_eq_true rfl) ⟨Nat.zero_le _, Nat.zero_le _⟩ dX6_length_5 ?_
  rintro r2 ⟨F2, hs2, G2, T2⟩ hu2
  obtain ⟨rfl, hv2⟩ := hu2
  cases hv2
  refine zz_world (P' := (DP D C K F (WH hs) G T)) (fun _ h => h) ?_
  rw [← hQ]
  refine zz_iret 8 X.1 hr rfl hlk (F, hs, G, T) ?_ (fun _ h _ => h) dX6_length_8
  exact ⟨rfl, rfl⟩
abbrev rx_X6_length : Room := { frames := 7, cells := 1, slots := 6, locals := 111 }
abbrev rm_X6_isEmpty : Room := { frames := 4, cells := 0, slots := 0, locals := 89 }
theorem yd_X6_isEmpty : yX6_isEmpty.cls = RX6 ∧ yX6_isEmpty.cls ≠ "java/lang/invoke/MethodHandle" ∧ yX6_isEmpty.cls ≠ "java/lang/invoke/VarHandle" ∧ (parseMethodDescriptor yX6_isEmpty.desc).map (fun d => d.parameters.length) = some 1 := by decide +kernel
set_option maxHeartbeats 4000000 in
set_option maxRecDepth 100000 in
theorem kt_X6_isEmpty_ok (l : Launch) (D : va_G) (C : Nat → ClassId) (K : Nat → Nat) (hAp : DAp K) (F : Nat → Int32) (hs : Nat → Bool) (G T : Nat → Nat → Int32) (s0 : Nat) (hs0 : s0 < 8) : CMi l yX6_isEmpty wsX6_isEmpty rm_X6_isEmpty D C K (0)  [.int (nI s0)] F hs G T (fun (r : Int32) (u : CSt) => r = (bI (decide (ln (hM hs s0) 1024 = 0))) ∧ u = (F, hs, G, T)) := by
  refine CMi_of (lv := [(0, .ref (K 0)), (1, .int (nI s0))]) (cc := cX6_isEmpty) (maxL := 2) (ret := (some .boolean)) rfl (by decide +kernel) (Nat.le_of_ble_eq_true rfl) rfl ?_
  intro p e s m args below meth c X hml hr hlk
  generalize hQ : MQ below _ args s 0 0 _ = Q
  refine zz_aload_n 0 X.1 0 dX6_isEmpty_0 rfl ?_
  refine zz_iload_n 1 X.1 1 dX6_isEmpty_1 rfl ?_
  refine dd_callVr 2 X hml (th := 0) (As := [.int (nI s0)]) (kt_X6_setOf l D C K hAp F hs G T s0 (by first | rfl | assumption | omega)) gX6_isEmpty_X6_setOf rfl ⟨rfl, rfl⟩ (dr_0 X) yd_X6_setOf ⟨Nat.le_of_ble_eq_true rfl, Nat.le_of_ble_eq_true rfl⟩ rfl rfl (Nat.le_of_ble_eq_true rfl) ⟨Nat.zero_le _, Nat.zero_le _⟩ dX6_isEmpty_2 ?_
  rintro ⟨F1, hs1, G1, T1⟩ hu1
  have hv1 := hu1
  cases hv1
  refine zz_world (P' := (DP D C K F (WH hs) G T)) (fun _ h => h) ?_
  refine dd_callVi 5 X hml (th := 20 + s0) (As := []) (kt_X0_size l D C K hAp F hs G T s0 (by first | rfl | assumption | omega)) gX6_isEmpty_X0_size rfl ⟨rfl, rfl⟩ (dr_M X (i := s0) (by omega)) yd_X0_size ⟨Nat.le_of_ble_eq_true rfl, Nat.le_of_ble_eq_true rfl⟩ rfl rfl (Nat.le_of_ble_eq_true rfl) ⟨Nat.zero_le _, Nat.zero_le _⟩ dX6_isEmpty_5 ?_
  rintro r2 ⟨F2, hs2, G2, T2⟩ hu2
  obtain ⟨rfl, hv2⟩ := hu2
  cases hv2
  refine zz_world (P' := (DP D C K F (WH hs) G T)) (fun _ h => h) ?_
  have hl := ct_le (hM hs s0) 1024
  have hl2 := ct0_ln (q := hM hs s0) 1024
  refine zz_if_ne 8 15 X.1 (nI_toInt (by omega)) dX6_isEmpty_8 (by decide) (fun h8 => ?_) (fun h8 => ?_)
  · skip
    refine zz_iconst 15 X.1 (v := nI 0) dX6_isEmpty_15 rfl ?_
    refine zz_topi (bI false) rfl ?_
    rw [← hQ]
    refine zz_iret 16 X.1 hr (bI_nar _) hlk (F, hs, G, T) ?_ (fun _ h _ => h) dX6_isEmpty_16
    refine ⟨congrArg bI ?_, rfl⟩
    first | (exact (decide_eq_true (by omega)).symm) | (exact (decide_eq_false (by omega)).symm)
  · skip
    refine zz_iconst 11 X.1 (v := nI 1) dX6_isEmpty_11 rfl ?_
    refine zz_goto 12 16 X.1 dX6_isEmpty_12 (by decide) ?_
    refine zz_topi (bI true) rfl ?_
    rw [← hQ]
    refine zz_iret 16 X.1 hr (bI_nar _) hlk (F, hs, G, T) ?_ (fun _ h _ => h) dX6_isEmpty_16
    refine ⟨congrArg bI ?_, rfl⟩
    first | (exact (decide_eq_true (by omega)).symm) | (exact (decide_eq_false (by omega)).symm)
abbrev rx_X6_isEmpty : Room := { frames := 7, cells := 1, slots := 6, locals := 111 }
abbrev rm_X6_isRoomy : Room := { frames := 4, cells := 0, slots := 0, locals := 90 }
theorem yd_X6_isRoomy : yX6_isRoomy.cls = RX6 ∧ yX6_isRoomy.cls ≠ "java/lang/invoke/MethodHandle" ∧ yX6_isRoomy.cls ≠ "java/lang/invoke/VarHandle" ∧ (parseMethodDescriptor yX6_isRoomy.desc).map (fun d => d.parameters.length) = some 1 := by decide +kernel
set_option maxHeartbeats 4000000 in
set_option maxRecDepth 100000 in
theorem kt_X6_isRoomy_ok (l : Launch) (D : va_G) (C : Nat → ClassId) (K : Nat → Nat) (hAp : DAp K) (F : Nat → Int32) (hs : Nat → Bool) (G T : Nat → Nat → Int32) (s0 : Nat) (hs0 : s0 < 8) : CMi l yX6_isRoomy wsX6_isRoomy rm_X6_isRoomy D C K (0)  [.int (nI s0)] F hs G T (fun (r : Int32) (u : CSt) => r = (bI true) ∧ u = (F, hs, G, T)) := by
  refine CMi_of (lv := [(0, .ref (K 0)), (1, .int (nI s0))]) (cc := cX6_isRoomy) (maxL := 2) (ret := (some .boolean)) rfl (by decide +kernel) (Nat.le_of_ble_eq_true rfl) rfl ?_
  intro p e s m args below meth c X hml hr hlk
  generalize hQ : MQ below _ args s 0 0 _ = Q
  refine zz_aload_n 0 X.1 0 dX6_isRoomy_0 rfl ?_
  refine zz_iload_n 1 X.1 1 dX6_isRoomy_1 rfl ?_
  refine dd_callVr 2 X hml (th := 0) (As := [.int (nI s0)]) (kt_X6_setOf l D C K hAp F hs G T s0 (by first | rfl | assumption | omega)) gX6_isRoomy_X6_setOf rfl ⟨rfl, rfl⟩ (dr_0 X) yd_X6_setOf ⟨Nat.le_of_ble_eq_true rfl, Nat.le_of_ble_eq_true rfl⟩ rfl rfl (Nat.le_of_ble_eq_true rfl) ⟨Nat.zero_le _, Nat.zero_le _⟩ dX6_isRoomy_2 ?_
  rintro ⟨F1, hs1, G1, T1⟩ hu1
  have hv1 := hu1
  cases hv1
  refine zz_world (P' := (DP D C K F (WH hs) G T)) (fun _ h => h) ?_
  refine dd_callVi 5 X hml (th := 20 + s0) (As := []) (kt_X0_end l D C K hAp F hs G T s0 (by first | rfl | assumption | omega)) gX6_isRoomy_X0_end rfl ⟨rfl, rfl⟩ (dr_M X (i := s0) (by omega)) yd_X0_end ⟨Nat.le_of_ble_eq_true rfl, Nat.le_of_ble_eq_true rfl⟩ rfl rfl (Nat.le_of_ble_eq_true rfl) ⟨Nat.zero_le _, Nat.zero_le _⟩ dX6_isRoomy_5 ?_
  rintro r2 ⟨F2, hs2, G2, T2⟩ hu2
  obtain ⟨rfl, hv2⟩ := hu2
  cases hv2
  refine zz_world (P' := (DP D C K F (WH hs) G T)) (fun _ h => h) ?_
  have hl := ln_le (hM hs s0) 1024
  refine zz_sipush 8 X.1 (v := nI 1024) dX6_isRoomy_8 rfl ?_
  refine zz_icmp_gt 11 18 X.1 (nI_toInt (by omega)) (nI_toInt (by omega)) dX6_isRoomy_11 (by decide) (fun h11 => ?_) (fun h11 => ?_)
  · exfalso; omega
  · skip
    refine zz_iconst 14 X.1 (v := nI 1) dX6_isRoomy_14 rfl ?_
    refine zz_goto 15 19 X.1 dX6_isRoomy_15 (by decide) ?_
    refine zz_topi (bI true) rfl ?_
    rw [← hQ]
    refine zz_iret 19 X.1 hr (bI_nar _) hlk (F, hs, G, T) ?_ (fun _ h _ => h) dX6_isRoomy_19
    exact ⟨rfl, rfl⟩
abbrev rx_X6_isRoomy : Room := { frames := 7, cells := 1, slots := 6, locals := 111 }
abbrev rm_X6_memberAt : Room := { frames := 5, cells := 0, slots := 0, locals := 114 }
theorem yd_X6_memberAt : yX6_memberAt.cls = RX6 ∧ yX6_memberAt.cls ≠ "java/lang/invoke/MethodHandle" ∧ yX6_memberAt.cls ≠ "java/lang/invoke/VarHandle" ∧ (parseMethodDescriptor yX6_memberAt.desc).map (fun d => d.parameters.length) = some 2 := by decide +kernel
set_option maxHeartbeats 4000000 in
set_option maxRecDepth 100000 in
theorem kt_X6_memberAt_ok (l : Launch) (D : va_G) (C : Nat → ClassId) (K : Nat → Nat) (hAp : DAp K) (F : Nat → Int32) (hs : Nat → Bool) (G T : Nat → Nat → Int32) (s0 : Nat) (x1 : Int32) (b : Int) (h_b : x1.toInt = b) (hs0 : s0 < 8) : CMi l yX6_memberAt wsX6_memberAt rm_X6_memberAt D C K (0)  [.int (nI s0), .int x1] F hs G T (fun (r : Int32) (u : CSt) => r = (mA (hM hs s0) b) ∧ u = (F, hs, G, T)) := by
  refine CMi_of (lv := [(0, .ref (K 0)), (1, .int (nI s0)), (2, .int x1)]) (cc := cX6_memberAt) (maxL := 3) (ret := (some .int)) rfl (by decide +kernel) (Nat.le_of_ble_eq_true rfl) rfl ?_
  intro p e s m args below meth c X hml hr hlk
  generalize hQ : MQ below _ args s 0 0 _ = Q
  refine zz_aload_n 0 X.1 0 dX6_memberAt_0 rfl ?_
  refine zz_iload_n 1 X.1 1 dX6_memberAt_1 rfl ?_
  refine dd_callVr 2 X hml (th := 0) (As := [.int (nI s0)]) (kt_X6_setOf l D C K hAp F hs G T s0 (by first | rfl | assumption | omega)) gX6_memberAt_X6_setOf rfl ⟨rfl, rfl⟩ (dr_0 X) yd_X6_setOf ⟨Nat.le_of_ble_eq_true rfl, Nat.le_of_ble_eq_true rfl⟩ rfl rfl (Nat.le_of_ble_eq_true rfl) ⟨Nat.zero_le _, Nat.zero_le _⟩ dX6_memberAt_2 ?_
  rintro ⟨F1, hs1, G1, T1⟩ hu1
  have hv1 := hu1
  cases hv1
  refine zz_world (P' := (DP D C K F (WH hs) G T)) (fun _ h => h) ?_
  refine zz_iload_n 5 X.1 2 dX6_memberAt_5 rfl ?_
  refine dd_callVi 6 X hml (th := 20 + s0) (As := [.int x1]) (kt_X0_memberInPlace l D C K hAp F hs G T s0 x1 b (h_b) (by first | rfl | assumption | omega)) gX6_memberAt_X0_memberInPlace rfl ⟨rfl, rfl⟩ (dr_M X (i := s0) (by omega)) yd_X0_memberInPlace ⟨Nat.le_of_ble_eq_true rfl, Nat.le_of_ble_eq_true rfl⟩ rfl rfl (Nat.le_of_ble_eq_true rfl) ⟨Nat.zero_le _, Nat.zero_le _⟩ dX6_memberAt_6 ?_
  rintro r2 ⟨F2, hs2, G2, T2⟩ hu2
  obtain ⟨rfl, hv2⟩ := hu2
  cases hv2
  refine zz_world (P' := (DP D C K F (WH hs) G T)) (fun _ h => h) ?_
  rw [← hQ]
  refine zz_iret 9 X.1 hr rfl hlk (F, hs, G, T) ?_ (fun _ h _ => h) dX6_memberAt_9
  exact ⟨rfl, rfl⟩
abbrev rx_X6_memberAt : Room := { frames := 7, cells := 1, slots := 6, locals := 114 }
abbrev rm_X6_sum : Room := { frames := 5, cells := 0, slots := 0, locals := 114 }
theorem yd_X6_sum : yX6_sum.cls = RX6 ∧ yX6_sum.cls ≠ "java/lang/invoke/MethodHandle" ∧ yX6_sum.cls ≠ "java/lang/invoke/VarHandle" ∧ (parseMethodDescriptor yX6_sum.desc).map (fun d => d.parameters.length) = some 1 := by decide +kernel
set_option maxHeartbeats 4000000 in
set_option maxRecDepth 100000 in
theorem kt_X6_sum_ok (l : Launch) (D : va_G) (C : Nat → ClassId) (K : Nat → Nat) (hAp : DAp K) (F : Nat → Int32) (hs : Nat → Bool) (G T : Nat → Nat → Int32) (s0 : Nat) (hs0 : s0 < 8) : CMl l yX6_sum wsX6_sum rm_X6_sum D C K (0)  [.int (nI s0)] F hs G T (fun (r : Int64) (u : CSt) => r = (lN (su (hM hs s0) 1024)) ∧ u = (F, hs, G, T)) := by
  refine CMl_of (lv := [(0, .ref (K 0)), (1, .int (nI s0))]) (cc := cX6_sum) (maxL := 2) (ret := (some .long)) rfl (by decide +kernel) (Nat.le_of_ble_eq_true rfl) rfl ?_
  intro p e s m args below meth c X hml hr hlk
  generalize hQ : MQ below _ args s 0 0 _ = Q
  refine zz_aload_n 0 X.1 0 dX6_sum_0 rfl ?_
  refine zz_iload_n 1 X.1 1 dX6_sum_1 rfl ?_
  refine dd_callVr 2 X hml (th := 0) (As := [.int (nI s0)]) (kt_X6_setOf l D C K hAp F hs G T s0 (by first | rfl | assumption | omega)) gX6_sum_X6_setOf rfl ⟨rfl, rfl⟩ (dr_0 X) yd_X6_setOf ⟨Nat.le_of_ble_eq_true rfl, Nat.le_of_ble_eq_true rfl⟩ rfl rfl (Nat.le_of_ble_eq_true rfl) ⟨Nat.zero_le _, Nat.zero_le _⟩ dX6_sum_2 ?_
  rintro ⟨F1, hs1, G1, T1⟩ hu1
  have hv1 := hu1
  cases hv1
  refine zz_world (P' := (DP D C K F (WH hs) G T)) (fun _ h => h) ?_
  refine dd_callVl 5 X hml (th := 20 + s0) (As := []) (kt_X0_total l D C K hAp F hs G T s0 (by first | rfl | assumption | omega)) gX6_sum_X0_total rfl ⟨rfl, rfl⟩ (dr_M X (i := s0) (by omega)) yd_X0_total ⟨Nat.le_of_ble_eq_true rfl, Nat.le_of_ble_eq_true rfl⟩ rfl rfl (Nat.le_of_ble_eq_true rfl) ⟨Nat.zero_le _, Nat.zero_le _⟩ dX6_sum_5 ?_
  rintro r2 ⟨F2, hs2, G2, T2⟩ hu2
  obtain ⟨rfl, hv2⟩ := hu2
  cases hv2
  refine zz_world (P' := (DP D C K F (WH hs) G T)) (fun _ h => h) ?_
  rw [← hQ]
  refine zz_lret 8 X.1 hr hlk (F, hs, G, T) ?_ (fun _ h _ => h) dX6_sum_8
  exact ⟨rfl, rfl⟩
abbrev rx_X6_sum : Room := { frames := 7, cells := 1, slots := 6, locals := 114 }
abbrev rm_X6_runs : Room := { frames := 5, cells := 0, slots := 0, locals := 113 }
theorem yd_X6_runs : yX6_runs.cls = RX6 ∧ yX6_runs.cls ≠ "java/lang/invoke/MethodHandle" ∧ yX6_runs.cls ≠ "java/lang/invoke/VarHandle" ∧ (parseMethodDescriptor yX6_runs.desc).map (fun d => d.parameters.length) = some 1 := by decide +kernel
set_option maxHeartbeats 4000000 in
set_option maxRecDepth 100000 in
theorem kt_X6_runs_ok (l : Launch) (D : va_G) (C : Nat → ClassId) (K : Nat → Nat) (hAp : DAp K) (F : Nat → Int32) (hs : Nat → Bool) (G T : Nat → Nat → Int32) (s0 : Nat) (hs0 : s0 < 8) : CMi l yX6_runs wsX6_runs rm_X6_runs D C K (0)  [.int (nI s0)] F hs G T (fun (r : Int32) (u : CSt) => r = (nI (ct (bg (hM hs s0)) 1024)) ∧ u = (F, hs, G, T)) := by
  refine CMi_of (lv := [(0, .ref (K 0)), (1, .int (nI s0))]) (cc := cX6_runs) (maxL := 2) (ret := (some .int)) rfl (by decide +kernel) (Nat.le_of_ble_eq_true rfl) rfl ?_
  intro p e s m args below meth c X hml hr hlk
  generalize hQ : MQ below _ args s 0 0 _ = Q
  refine zz_aload_n 0 X.1 0 dX6_runs_0 rfl ?_
  refine zz_iload_n 1 X.1 1 dX6_runs_1 rfl ?_
  refine dd_callVr 2 X hml (th := 0) (As := [.int (nI s0)]) (kt_X6_setOf l D C K hAp F hs G T s0 (by first | rfl | assumption | omega)) gX6_runs_X6_setOf rfl ⟨rfl, rfl⟩ (dr_0 X) yd_X6_setOf ⟨Nat.le_of_ble_eq_true rfl, Nat.le_of_ble_eq_true rfl⟩ rfl rfl (Nat.le_of_ble_eq_true rfl) ⟨Nat.zero_le _, Nat.zero_le _⟩ dX6_runs_2 ?_
  rintro ⟨F1, hs1, G1, T1⟩ hu1
  have hv1 := hu1
  cases hv1
  refine zz_world (P' := (DP D C K F (WH hs) G T)) (fun _ h => h) ?_
  refine dd_callVi 5 X hml (th := 20 + s0) (As := []) (kt_X0_rows l D C K hAp F hs G T s0 (by first | rfl | assumption | omega)) gX6_runs_X0_rows rfl ⟨rfl, rfl⟩ (dr_M X (i := s0) (by omega)) yd_X0_rows ⟨Nat.le_of_ble_eq_true rfl, Nat.le_of_ble_eq_true rfl⟩ rfl rfl (Nat.le_of_ble_eq_true rfl) ⟨Nat.zero_le _, Nat.zero_le _⟩ dX6_runs_5 ?_
  rintro r2 ⟨F2, hs2, G2, T2⟩ hu2
  obtain ⟨rfl, hv2⟩ := hu2
  cases hv2
  refine zz_world (P' := (DP D C K F (WH hs) G T)) (fun _ h => h) ?_
  rw [← hQ]
  refine zz_iret 8 X.1 hr rfl hlk (F, hs, G, T) ?_ (fun _ h _ => h) dX6_runs_8
  exact ⟨rfl, rfl⟩
abbrev rx_X6_runs : Room := { frames := 7, cells := 1, slots := 6, locals := 113 }
abbrev rm_X6_longestRun : Room := { frames := 5, cells := 0, slots := 0, locals := 115 }
abbrev rx_X6_longestRun : Room := { frames := 7, cells := 1, slots := 6, locals := 115 }
abbrev rm_X6_areEqual : Room := { frames := 2, cells := 0, slots := 0, locals := 44 }
theorem yd_X6_areEqual : yX6_areEqual.cls = RX6 ∧ yX6_areEqual.cls ≠ "java/lang/invoke/MethodHandle" ∧ yX6_areEqual.cls ≠ "java/lang/invoke/VarHandle" ∧ (parseMethodDescriptor yX6_areEqual.desc).map (fun d => d.parameters.length) = some 2 := by decide +kernel
set_option maxHeartbeats 4000000 in
set_option maxRecDepth 100000 in
theorem kt_X6_areEqual_ok (l : Launch) (D : va_G) (C : Nat → ClassId) (K : Nat → Nat) (hAp : DAp K) (F : Nat → Int32) (hs : Nat → Bool) (G T : Nat → Nat → Int32) (s0 : Nat) (o0 : Nat) (hs0 : s0 < 8) (ho0 : o0 < 8) : CMi l yX6_areEqual wsX6_areEqual rm_X6_areEqual D C K (0)  [.int (nI s0), .int (nI o0)] F hs G T (fun (r : Int32) (u : CSt) => r = (bI (decide (ct (pA (hM hs s0) (hM hs o0) true false) 1024 + ct (pA (hM hs s0) (hM hs o0) false true) 1024 = 0))) ∧ u = (F, hs, G, T)) := by
  refine CMi_of (lv := [(0, .ref (K 0)), (1, .int (nI s0)), (2, .int (nI o0))]) (cc := cX6_areEqual) (maxL := 3) (ret := (some .boolean)) rfl (by decide +kernel) (Nat.le_of_ble_eq_true rfl) rfl ?_
  intro p e s m args below meth c X hml hr hlk
  generalize hQ : MQ below _ args s 0 0 _ = Q
  refine zz_aload_n 0 X.1 0 dX6_areEqual_0 rfl ?_
  refine zz_iload_n 1 X.1 1 dX6_areEqual_1 rfl ?_
  refine dd_callVr 2 X hml (th := 0) (As := [.int (nI s0)]) (kt_X6_setOf l D C K hAp F hs G T s0 (by first | rfl | assumption | omega)) gX6_areEqual_X6_setOf rfl ⟨rfl, rfl⟩ (dr_0 X) yd_X6_setOf ⟨Nat.le_of_ble_eq_true rfl, Nat.le_of_ble_eq_true rfl⟩ rfl rfl (Nat.le_of_ble_eq_true rfl) ⟨Nat.zero_le _, Nat.zero_le _⟩ dX6_areEqual_2 ?_
  rintro ⟨F1, hs1, G1, T1⟩ hu1
  have hv1 := hu1
  cases hv1
  refine zz_world (P' := (DP D C K F (WH hs) G T)) (fun _ h => h) ?_
  have hpa := ct_pA (hM hs s0) (hM hs o0) 1024
  have hq0 := ct_le (hM hs s0) 1024
  have hq1 := ct_le (hM hs o0) 1024
  have hq2 := ct_le (fun i => hM hs s0 i && hM hs o0 i) 1024
  have hq3 := ct_le (fun i => hM hs s0 i || hM hs o0 i) 1024
  have hq4 := ct_le (pA (hM hs s0) (hM hs o0) true true) 1024
  have hq5 := ct_le (pA (hM hs s0) (hM hs o0) false false) 1024
  refine zz_aload_n 5 X.1 0 dX6_areEqual_5 rfl ?_
  refine zz_iload_n 6 X.1 2 dX6_areEqual_6 rfl ?_
  refine dd_callVr 7 X hml (th := 0) (As := [.int (nI o0)]) (kt_X6_setOf l D C K hAp F hs G T o0 (by first | rfl | assumption | omega)) gX6_areEqual_X6_setOf rfl ⟨rfl, rfl⟩ (dr_0 X) yd_X6_setOf ⟨Nat.le_of_ble_eq_true rfl, Nat.le_of_ble_eq_true rfl⟩ rfl rfl (Nat.le_of_ble_eq_true rfl) ⟨Nat.zero_le _, Nat.zero_le _⟩ dX6_areEqual_7 ?_
  rintro ⟨F2, hs2, G2, T2⟩ hu2
  have hv2 := hu2
  cases hv2
  refine zz_world (P' := (DP D C K F (WH hs) G T)) (fun _ h => h) ?_
  refine dd_callVi 10 X hml (th := 20 + s0) (As := [.ref (K (20 + o0))]) (kt_X0_sizeOfEither l D C K hAp F hs G T s0 o0 (by first | rfl | assumption | omega) (by first | rfl | assumption | omega)) gX6_areEqual_X0_sizeOfEither rfl ⟨rfl, rfl⟩ (dr_M X (i := s0) (by omega)) yd_X0_sizeOfEither ⟨Nat.le_of_ble_eq_true rfl, Nat.le_of_ble_eq_true rfl⟩ rfl rfl (Nat.le_of_ble_eq_true rfl) ⟨Nat.zero_le _, Nat.zero_le _⟩ dX6_areEqual_10 ?_
  rintro r3 ⟨F3, hs3, G3, T3⟩ hu3
  obtain ⟨rfl, hv3⟩ := hu3
  cases hv3
  refine zz_world (P' := (DP D C K F (WH hs) G T)) (fun _ h => h) ?_
  refine zz_aload_n 13 X.1 0 dX6_areEqual_13 rfl ?_
  refine zz_iload_n 14 X.1 1 dX6_areEqual_14 rfl ?_
  refine dd_callVr 15 X hml (th := 0) (As := [.int (nI s0)]) (kt_X6_setOf l D C K hAp F hs G T s0 (by first | rfl | assumption | omega)) gX6_areEqual_X6_setOf rfl ⟨rfl, rfl⟩ (dr_0 X) yd_X6_setOf ⟨Nat.le_of_ble_eq_true rfl, Nat.le_of_ble_eq_true rfl⟩ rfl rfl (Nat.le_of_ble_eq_true rfl) ⟨Nat.zero_le _, Nat.zero_le _⟩ dX6_areEqual_15 ?_
  rintro ⟨F4, hs4, G4, T4⟩ hu4
  have hv4 := hu4
  cases hv4
  refine zz_world (P' := (DP D C K F (WH hs) G T)) (fun _ h => h) ?_
  refine zz_aload_n 18 X.1 0 dX6_areEqual_18 rfl ?_
  refine zz_iload_n 19 X.1 2 dX6_areEqual_19 rfl ?_
  refine dd_callVr 20 X hml (th := 0) (As := [.int (nI o0)]) (kt_X6_setOf l D C K hAp F hs G T o0 (by first | rfl | assumption | omega)) gX6_areEqual_X6_setOf rfl ⟨rfl, rfl⟩ (dr_0 X) yd_X6_setOf ⟨Nat.le_of_ble_eq_true rfl, Nat.le_of_ble_eq_true rfl⟩ rfl rfl (Nat.le_of_ble_eq_true rfl) ⟨Nat.zero_le _, Nat.zero_le _⟩ dX6_areEqual_20 ?_
  rintro ⟨F5, hs5, G5, T5⟩ hu5
  have hv5 := hu5
  cases hv5
  refine zz_world (P' := (DP D C K F (WH hs) G T)) (fun _ h => h) ?_
  refine dd_callVi 23 X hml (th := 20 + s0) (As := [.ref (K (20 + o0))]) (kt_X0_sizeOfCommon l D C K hAp F hs G T s0 o0 (by first | rfl | assumption | omega) (by first | rfl | assumption | omega)) gX6_areEqual_X0_sizeOfCommon rfl ⟨rfl, rfl⟩ (dr_M X (i := s0) (by omega)) yd_X0_sizeOfCommon ⟨Nat.le_of_ble_eq_true rfl, Nat.le_of_ble_eq_true rfl⟩ rfl rfl (Nat.le_of_ble_eq_true rfl) ⟨Nat.zero_le _, Nat.zero_le _⟩ dX6_areEqual_23 ?_
  rintro r6 ⟨F6, hs6, G6, T6⟩ hu6
  obtain ⟨rfl, hv6⟩ := hu6
  cases hv6
  refine zz_world (P' := (DP D C K F (WH hs) G T)) (fun _ h => h) ?_
  refine zz_icmp_ne 26 33 X.1 (nI_toInt (by omega)) (nI_toInt (by omega)) dX6_areEqual_26 (by decide) (fun h26 => ?_) (fun h26 => ?_)
  · skip
    refine zz_iconst 33 X.1 (v := nI 0) dX6_areEqual_33 rfl ?_
    refine zz_topi (bI false) rfl ?_
    rw [← hQ]
    refine zz_iret 34 X.1 hr (bI_nar _) hlk (F, hs, G, T) ?_ (fun _ h _ => h) dX6_areEqual_34
    refine ⟨congrArg bI ?_, rfl⟩
    first | (exact (decide_eq_true (by omega)).symm) | (exact (decide_eq_false (by omega)).symm)
  · skip
    refine zz_iconst 29 X.1 (v := nI 1) dX6_areEqual_29 rfl ?_
    refine zz_goto 30 34 X.1 dX6_areEqual_30 (by decide) ?_
    refine zz_topi (bI true) rfl ?_
    rw [← hQ]
    refine zz_iret 34 X.1 hr (bI_nar _) hlk (F, hs, G, T) ?_ (fun _ h _ => h) dX6_areEqual_34
    refine ⟨congrArg bI ?_, rfl⟩
    first | (exact (decide_eq_true (by omega)).symm) | (exact (decide_eq_false (by omega)).symm)
abbrev rx_X6_areEqual : Room := { frames := 7, cells := 1, slots := 6, locals := 111 }
abbrev rm_X6_meet : Room := { frames := 2, cells := 0, slots := 0, locals := 44 }
theorem yd_X6_meet : yX6_meet.cls = RX6 ∧ yX6_meet.cls ≠ "java/lang/invoke/MethodHandle" ∧ yX6_meet.cls ≠ "java/lang/invoke/VarHandle" ∧ (parseMethodDescriptor yX6_meet.desc).map (fun d => d.parameters.length) = some 2 := by decide +kernel
set_option maxHeartbeats 4000000 in
set_option maxRecDepth 100000 in
theorem kt_X6_meet_ok (l : Launch) (D : va_G) (C : Nat → ClassId) (K : Nat → Nat) (hAp : DAp K) (F : Nat → Int32) (hs : Nat → Bool) (G T : Nat → Nat → Int32) (s0 : Nat) (o0 : Nat) (hs0 : s0 < 8) (ho0 : o0 < 8) : CMi l yX6_meet wsX6_meet rm_X6_meet D C K (0)  [.int (nI s0), .int (nI o0)] F hs G T (fun (r : Int32) (u : CSt) => r = (bI (decide (0 < ct (pA (hM hs s0) (hM hs o0) true true) 1024))) ∧ u = (F, hs, G, T)) := by
  refine CMi_of (lv := [(0, .ref (K 0)), (1, .int (nI s0)), (2, .int (nI o0))]) (cc := cX6_meet) (maxL := 3) (ret := (some .boolean)) rfl (by decide +kernel) (Nat.le_of_ble_eq_true rfl) rfl ?_
  intro p e s m args below meth c X hml hr hlk
  generalize hQ : MQ below _ args s 0 0 _ = Q
  refine zz_aload_n 0 X.1 0 dX6_meet_0 rfl ?_
  refine zz_iload_n 1 X.1 1 dX6_meet_1 rfl ?_
  refine dd_callVr 2 X hml (th := 0) (As := [.int (nI s0)]) (kt_X6_setOf l D C K hAp F hs G T s0 (by first | rfl | assumption | omega)) gX6_meet_X6_setOf rfl ⟨rfl, rfl⟩ (dr_0 X) yd_X6_setOf ⟨Nat.le_of_ble_eq_true rfl, Nat.le_of_ble_eq_true rfl⟩ rfl rfl (Nat.le_of_ble_eq_true rfl) ⟨Nat.zero_le _, Nat.zero_le _⟩ dX6_meet_2 ?_
  rintro ⟨F1, hs1, G1, T1⟩ hu1
  have hv1 := hu1
  cases hv1
  refine zz_world (P' := (DP D C K F (WH hs) G T)) (fun _ h => h) ?_
  have hpa := ct_pA (hM hs s0) (hM hs o0) 1024
  have hq0 := ct_le (hM hs s0) 1024
  have hq1 := ct_le (hM hs o0) 1024
  have hq2 := ct_le (fun i => hM hs s0 i && hM hs o0 i) 1024
  have hq3 := ct_le (fun i => hM hs s0 i || hM hs o0 i) 1024
  have hq4 := ct_le (pA (hM hs s0) (hM hs o0) true true) 1024
  have hq5 := ct_le (pA (hM hs s0) (hM hs o0) false false) 1024
  refine zz_aload_n 5 X.1 0 dX6_meet_5 rfl ?_
  refine zz_iload_n 6 X.1 2 dX6_meet_6 rfl ?_
  refine dd_callVr 7 X hml (th := 0) (As := [.int (nI o0)]) (kt_X6_setOf l D C K hAp F hs G T o0 (by first | rfl | assumption | omega)) gX6_meet_X6_setOf rfl ⟨rfl, rfl⟩ (dr_0 X) yd_X6_setOf ⟨Nat.le_of_ble_eq_true rfl, Nat.le_of_ble_eq_true rfl⟩ rfl rfl (Nat.le_of_ble_eq_true rfl) ⟨Nat.zero_le _, Nat.zero_le _⟩ dX6_meet_7 ?_
  rintro ⟨F2, hs2, G2, T2⟩ hu2
  have hv2 := hu2
  cases hv2
  refine zz_world (P' := (DP D C K F (WH hs) G T)) (fun _ h => h) ?_
  refine dd_callVi 10 X hml (th := 20 + s0) (As := [.ref (K (20 + o0))]) (kt_X0_sizeOfCommon l D C K hAp F hs G T s0 o0 (by first | rfl | assumption | omega) (by first | rfl | assumption | omega)) gX6_meet_X0_sizeOfCommon rfl ⟨rfl, rfl⟩ (dr_M X (i := s0) (by omega)) yd_X0_sizeOfCommon ⟨Nat.le_of_ble_eq_true rfl, Nat.le_of_ble_eq_true rfl⟩ rfl rfl (Nat.le_of_ble_eq_true rfl) ⟨Nat.zero_le _, Nat.zero_le _⟩ dX6_meet_10 ?_
  rintro r3 ⟨F3, hs3, G3, T3⟩ hu3
  obtain ⟨rfl, hv3⟩ := hu3
  cases hv3
  refine zz_world (P' := (DP D C K F (WH hs) G T)) (fun _ h => h) ?_
  refine zz_if_le 13 20 X.1 (nI_toInt (by omega)) dX6_meet_13 (by decide) (fun h13 => ?_) (fun h13 => ?_)
  · skip
    refine zz_iconst 20 X.1 (v := nI 0) dX6_meet_20 rfl ?_
    refine zz_topi (bI false) rfl ?_
    rw [← hQ]
    refine zz_iret 21 X.1 hr (bI_nar _) hlk (F, hs, G, T) ?_ (fun _ h _ => h) dX6_meet_21
    refine ⟨congrArg bI ?_, rfl⟩
    first | (exact (decide_eq_true (by omega)).symm) | (exact (decide_eq_false (by omega)).symm)
  · skip
    refine zz_iconst 16 X.1 (v := nI 1) dX6_meet_16 rfl ?_
    refine zz_goto 17 21 X.1 dX6_meet_17 (by decide) ?_
    refine zz_topi (bI true) rfl ?_
    rw [← hQ]
    refine zz_iret 21 X.1 hr (bI_nar _) hlk (F, hs, G, T) ?_ (fun _ h _ => h) dX6_meet_21
    refine ⟨congrArg bI ?_, rfl⟩
    first | (exact (decide_eq_true (by omega)).symm) | (exact (decide_eq_false (by omega)).symm)
abbrev rx_X6_meet : Room := { frames := 7, cells := 1, slots := 6, locals := 111 }
abbrev rm_X6_isWithin : Room := { frames := 4, cells := 0, slots := 0, locals := 89 }
theorem yd_X6_isWithin : yX6_isWithin.cls = RX6 ∧ yX6_isWithin.cls ≠ "java/lang/invoke/MethodHandle" ∧ yX6_isWithin.cls ≠ "java/lang/invoke/VarHandle" ∧ (parseMethodDescriptor yX6_isWithin.desc).map (fun d => d.parameters.length) = some 2 := by decide +kernel
set_option maxHeartbeats 4000000 in
set_option maxRecDepth 100000 in
theorem kt_X6_isWithin_ok (l : Launch) (D : va_G) (C : Nat → ClassId) (K : Nat → Nat) (hAp : DAp K) (F : Nat → Int32) (hs : Nat → Bool) (G T : Nat → Nat → Int32) (s0 : Nat) (o0 : Nat) (hs0 : s0 < 8) (ho0 : o0 < 8) : CMi l yX6_isWithin wsX6_isWithin rm_X6_isWithin D C K (0)  [.int (nI s0), .int (nI o0)] F hs G T (fun (r : Int32) (u : CSt) => r = (bI (decide (ct (pA (hM hs s0) (hM hs o0) true false) 1024 = 0))) ∧ u = (F, hs, G, T)) := by
  refine CMi_of (lv := [(0, .ref (K 0)), (1, .int (nI s0)), (2, .int (nI o0))]) (cc := cX6_isWithin) (maxL := 3) (ret := (some .boolean)) rfl (by decide +kernel) (Nat.le_of_ble_eq_true rfl) rfl ?_
  intro p e s m args below meth c X hml hr hlk
  generalize hQ : MQ below _ args s 0 0 _ = Q
  refine zz_aload_n 0 X.1 0 dX6_isWithin_0 rfl ?_
  refine zz_iload_n 1 X.1 1 dX6_isWithin_1 rfl ?_
  refine dd_callVr 2 X hml (th := 0) (As := [.int (nI s0)]) (kt_X6_setOf l D C K hAp F hs G T s0 (by first | rfl | assumption | omega)) gX6_isWithin_X6_setOf rfl ⟨rfl, rfl⟩ (dr_0 X) yd_X6_setOf ⟨Nat.le_of_ble_eq_true rfl, Nat.le_of_ble_eq_true rfl⟩ rfl rfl (Nat.le_of_ble_eq_true rfl) ⟨Nat.zero_le _, Nat.zero_le _⟩ dX6_isWithin_2 ?_
  rintro ⟨F1, hs1, G1, T1⟩ hu1
  have hv1 := hu1
  cases hv1
  refine zz_world (P' := (DP D C K F (WH hs) G T)) (fun _ h => h) ?_
  have hpa := ct_pA (hM hs s0) (hM hs o0) 1024
  have hq0 := ct_le (hM hs s0) 1024
  have hq1 := ct_le (hM hs o0) 1024
  have hq2 := ct_le (fun i => hM hs s0 i && hM hs o0 i) 1024
  have hq3 := ct_le (fun i => hM hs s0 i || hM hs o0 i) 1024
  have hq4 := ct_le (pA (hM hs s0) (hM hs o0) true true) 1024
  have hq5 := ct_le (pA (hM hs s0) (hM hs o0) false false) 1024
  refine zz_aload_n 5 X.1 0 dX6_isWithin_5 rfl ?_
  refine zz_iload_n 6 X.1 2 dX6_isWithin_6 rfl ?_
  refine dd_callVr 7 X hml (th := 0) (As := [.int (nI o0)]) (kt_X6_setOf l D C K hAp F hs G T o0 (by first | rfl | assumption | omega)) gX6_isWithin_X6_setOf rfl ⟨rfl, rfl⟩ (dr_0 X) yd_X6_setOf ⟨Nat.le_of_ble_eq_true rfl, Nat.le_of_ble_eq_true rfl⟩ rfl rfl (Nat.le_of_ble_eq_true rfl) ⟨Nat.zero_le _, Nat.zero_le _⟩ dX6_isWithin_7 ?_
  rintro ⟨F2, hs2, G2, T2⟩ hu2
  have hv2 := hu2
  cases hv2
  refine zz_world (P' := (DP D C K F (WH hs) G T)) (fun _ h => h) ?_
  refine dd_callVi 10 X hml (th := 20 + s0) (As := [.ref (K (20 + o0))]) (kt_X0_sizeOfCommon l D C K hAp F hs G T s0 o0 (by first | rfl | assumption | omega) (by first | rfl | assumption | omega)) gX6_isWithin_X0_sizeOfCommon rfl ⟨rfl, rfl⟩ (dr_M X (i := s0) (by omega)) yd_X0_sizeOfCommon ⟨Nat.le_of_ble_eq_true rfl, Nat.le_of_ble_eq_true rfl⟩ rfl rfl (Nat.le_of_ble_eq_true rfl) ⟨Nat.zero_le _, Nat.zero_le _⟩ dX6_isWithin_10 ?_
  rintro r3 ⟨F3, hs3, G3, T3⟩ hu3
  obtain ⟨rfl, hv3⟩ := hu3
  cases hv3
  refine zz_world (P' := (DP D C K F (WH hs) G T)) (fun _ h => h) ?_
  refine zz_aload_n 13 X.1 0 dX6_isWithin_13 rfl ?_
  refine zz_iload_n 14 X.1 1 dX6_isWithin_14 rfl ?_
  refine dd_callVr 15 X hml (th := 0) (As := [.int (nI s0)]) (kt_X6_setOf l D C K hAp F hs G T s0 (by first | rfl | assumption | omega)) gX6_isWithin_X6_setOf rfl ⟨rfl, rfl⟩ (dr_0 X) yd_X6_setOf ⟨Nat.le_of_ble_eq_true rfl, Nat.le_of_ble_eq_true rfl⟩ rfl rfl (Nat.le_of_ble_eq_true rfl) ⟨Nat.zero_le _, Nat.zero_le _⟩ dX6_isWithin_15 ?_
  rintro ⟨F4, hs4, G4, T4⟩ hu4
  have hv4 := hu4
  cases hv4
  refine zz_world (P' := (DP D C K F (WH hs) G T)) (fun _ h => h) ?_
  refine dd_callVi 18 X hml (th := 20 + s0) (As := []) (kt_X0_size l D C K hAp F hs G T s0 (by first | rfl | assumption | omega)) gX6_isWithin_X0_size rfl ⟨rfl, rfl⟩ (dr_M X (i := s0) (by omega)) yd_X0_size ⟨Nat.le_of_ble_eq_true rfl, Nat.le_of_ble_eq_true rfl⟩ rfl rfl (Nat.le_of_ble_eq_true rfl) ⟨Nat.zero_le _, Nat.zero_le _⟩ dX6_isWithin_18 ?_
  rintro r5 ⟨F5, hs5, G5, T5⟩ hu5
  obtain ⟨rfl, hv5⟩ := hu5
  cases hv5
  refine zz_world (P' := (DP D C K F (WH hs) G T)) (fun _ h => h) ?_
  refine zz_icmp_ne 21 28 X.1 (nI_toInt (by omega)) (nI_toInt (by omega)) dX6_isWithin_21 (by decide) (fun h21 => ?_) (fun h21 => ?_)
  · skip
    refine zz_iconst 28 X.1 (v := nI 0) dX6_isWithin_28 rfl ?_
    refine zz_topi (bI false) rfl ?_
    rw [← hQ]
    refine zz_iret 29 X.1 hr (bI_nar _) hlk (F, hs, G, T) ?_ (fun _ h _ => h) dX6_isWithin_29
    refine ⟨congrArg bI ?_, rfl⟩
    first | (exact (decide_eq_true (by omega)).symm) | (exact (decide_eq_false (by omega)).symm)
  · skip
    refine zz_iconst 24 X.1 (v := nI 1) dX6_isWithin_24 rfl ?_
    refine zz_goto 25 29 X.1 dX6_isWithin_25 (by decide) ?_
    refine zz_topi (bI true) rfl ?_
    rw [← hQ]
    refine zz_iret 29 X.1 hr (bI_nar _) hlk (F, hs, G, T) ?_ (fun _ h _ => h) dX6_isWithin_29
    refine ⟨congrArg bI ?_, rfl⟩
    first | (exact (decide_eq_true (by omega)).symm) | (exact (decide_eq_false (by omega)).symm)
abbrev rx_X6_isWithin : Room := { frames := 7, cells := 1, slots := 6, locals := 111 }
abbrev rm_X6_unionCount : Room := { frames := 2, cells := 0, slots := 0, locals := 44 }
theorem yd_X6_unionCount : yX6_unionCount.cls = RX6 ∧ yX6_unionCount.cls ≠ "java/lang/invoke/MethodHandle" ∧ yX6_unionCount.cls ≠ "java/lang/invoke/VarHandle" ∧ (parseMethodDescriptor yX6_unionCount.desc).map (fun d => d.parameters.length) = some 2 := by decide +kernel
set_option maxHeartbeats 4000000 in
set_option maxRecDepth 100000 in
theorem kt_X6_unionCount_ok (l : Launch) (D : va_G) (C : Nat → ClassId) (K : Nat → Nat) (hAp : DAp K) (F : Nat → Int32) (hs : Nat → Bool) (G T : Nat → Nat → Int32) (s0 : Nat) (o0 : Nat) (hs0 : s0 < 8) (ho0 : o0 < 8) : CMi l yX6_unionCount wsX6_unionCount rm_X6_unionCount D C K (0)  [.int (nI s0), .int (nI o0)] F hs G T (fun (r : Int32) (u : CSt) => r = (nI (1024 - ct (pA (hM hs s0) (hM hs o0) false false) 1024)) ∧ u = (F, hs, G, T)) := by
  refine CMi_of (lv := [(0, .ref (K 0)), (1, .int (nI s0)), (2, .int (nI o0))]) (cc := cX6_unionCount) (maxL := 3) (ret := (some .int)) rfl (by decide +kernel) (Nat.le_of_ble_eq_true rfl) rfl ?_
  intro p e s m args below meth c X hml hr hlk
  generalize hQ : MQ below _ args s 0 0 _ = Q
  refine zz_aload_n 0 X.1 0 dX6_unionCount_0 rfl ?_
  refine zz_iload_n 1 X.1 1 dX6_unionCount_1 rfl ?_
  refine dd_callVr 2 X hml (th := 0) (As := [.int (nI s0)]) (kt_X6_setOf l D C K hAp F hs G T s0 (by first | rfl | assumption | omega)) gX6_unionCount_X6_setOf rfl ⟨rfl, rfl⟩ (dr_0 X) yd_X6_setOf ⟨Nat.le_of_ble_eq_true rfl, Nat.le_of_ble_eq_true rfl⟩ rfl rfl (Nat.le_of_ble_eq_true rfl) ⟨Nat.zero_le _, Nat.zero_le _⟩ dX6_unionCount_2 ?_
  rintro ⟨F1, hs1, G1, T1⟩ hu1
  have hv1 := hu1
  cases hv1
  refine zz_world (P' := (DP D C K F (WH hs) G T)) (fun _ h => h) ?_
  have hpa := ct_pA (hM hs s0) (hM hs o0) 1024
  have hq0 := ct_le (hM hs s0) 1024
  have hq1 := ct_le (hM hs o0) 1024
  have hq2 := ct_le (fun i => hM hs s0 i && hM hs o0 i) 1024
  have hq3 := ct_le (fun i => hM hs s0 i || hM hs o0 i) 1024
  have hq4 := ct_le (pA (hM hs s0) (hM hs o0) true true) 1024
  have hq5 := ct_le (pA (hM hs s0) (hM hs o0) false false) 1024
  refine zz_aload_n 5 X.1 0 dX6_unionCount_5 rfl ?_
  refine zz_iload_n 6 X.1 2 dX6_unionCount_6 rfl ?_
  refine dd_callVr 7 X hml (th := 0) (As := [.int (nI o0)]) (kt_X6_setOf l D C K hAp F hs G T o0 (by first | rfl | assumption | omega)) gX6_unionCount_X6_setOf rfl ⟨rfl, rfl⟩ (dr_0 X) yd_X6_setOf ⟨Nat.le_of_ble_eq_true rfl, Nat.le_of_ble_eq_true rfl⟩ rfl rfl (Nat.le_of_ble_eq_true rfl) ⟨Nat.zero_le _, Nat.zero_le _⟩ dX6_unionCount_7 ?_
  rintro ⟨F2, hs2, G2, T2⟩ hu2
  have hv2 := hu2
  cases hv2
  refine zz_world (P' := (DP D C K F (WH hs) G T)) (fun _ h => h) ?_
  refine dd_callVi 10 X hml (th := 20 + s0) (As := [.ref (K (20 + o0))]) (kt_X0_sizeOfEither l D C K hAp F hs G T s0 o0 (by first | rfl | assumption | omega) (by first | rfl | assumption | omega)) gX6_unionCount_X0_sizeOfEither rfl ⟨rfl, rfl⟩ (dr_M X (i := s0) (by omega)) yd_X0_sizeOfEither ⟨Nat.le_of_ble_eq_true rfl, Nat.le_of_ble_eq_true rfl⟩ rfl rfl (Nat.le_of_ble_eq_true rfl) ⟨Nat.zero_le _, Nat.zero_le _⟩ dX6_unionCount_10 ?_
  rintro r3 ⟨F3, hs3, G3, T3⟩ hu3
  obtain ⟨rfl, hv3⟩ := hu3
  cases hv3
  refine zz_world (P' := (DP D C K F (WH hs) G T)) (fun _ h => h) ?_
  rw [← hQ]
  refine zz_iret 13 X.1 hr rfl hlk (F, hs, G, T) ?_ (fun _ h _ => h) dX6_unionCount_13
  exact ⟨congrArg nI (by omega), rfl⟩
abbrev rx_X6_unionCount : Room := { frames := 7, cells := 1, slots := 6, locals := 111 }
abbrev rm_X6_distance : Room := { frames := 2, cells := 0, slots := 0, locals := 44 }
theorem yd_X6_distance : yX6_distance.cls = RX6 ∧ yX6_distance.cls ≠ "java/lang/invoke/MethodHandle" ∧ yX6_distance.cls ≠ "java/lang/invoke/VarHandle" ∧ (parseMethodDescriptor yX6_distance.desc).map (fun d => d.parameters.length) = some 2 := by decide +kernel
set_option maxHeartbeats 4000000 in
set_option maxRecDepth 100000 in
theorem kt_X6_distance_ok (l : Launch) (D : va_G) (C : Nat → ClassId) (K : Nat → Nat) (hAp : DAp K) (F : Nat → Int32) (hs : Nat → Bool) (G T : Nat → Nat → Int32) (s0 : Nat) (o0 : Nat) (hs0 : s0 < 8) (ho0 : o0 < 8) : CMi l yX6_distance wsX6_distance rm_X6_distance D C K (0)  [.int (nI s0), .int (nI o0)] F hs G T (fun (r : Int32) (u : CSt) => r = (nI (ct (pA (hM hs s0) (hM hs o0) true false) 1024 + ct (pA (hM hs s0) (hM hs o0) false true) 1024)) ∧ u = (F, hs, G, T)) := by
  refine CMi_of (lv := [(0, .ref (K 0)), (1, .int (nI s0)), (2, .int (nI o0))]) (cc := cX6_distance) (maxL := 3) (ret := (some .int)) rfl (by decide +kernel) (Nat.le_of_ble_eq_true rfl) rfl ?_
  intro p e s m args below meth c X hml hr hlk
  generalize hQ : MQ below _ args s 0 0 _ = Q
  refine zz_aload_n 0 X.1 0 dX6_distance_0 rfl ?_
  refine zz_iload_n 1 X.1 1 dX6_distance_1 rfl ?_
  refine dd_callVr 2 X hml (th := 0) (As := [.int (nI s0)]) (kt_X6_setOf l D C K hAp F hs G T s0 (by first | rfl | assumption | omega)) gX6_distance_X6_setOf rfl ⟨rfl, rfl⟩ (dr_0 X) yd_X6_setOf ⟨Nat.le_of_ble_eq_true rfl, Nat.le_of_ble_eq_true rfl⟩ rfl rfl (Nat.le_of_ble_eq_true rfl) ⟨Nat.zero_le _, Nat.zero_le _⟩ dX6_distance_2 ?_
  rintro ⟨F1, hs1, G1, T1⟩ hu1
  have hv1 := hu1
  cases hv1
  refine zz_world (P' := (DP D C K F (WH hs) G T)) (fun _ h => h) ?_
  have hpa := ct_pA (hM hs s0) (hM hs o0) 1024
  have hq0 := ct_le (hM hs s0) 1024
  have hq1 := ct_le (hM hs o0) 1024
  have hq2 := ct_le (fun i => hM hs s0 i && hM hs o0 i) 1024
  have hq3 := ct_le (fun i => hM hs s0 i || hM hs o0 i) 1024
  have hq4 := ct_le (pA (hM hs s0) (hM hs o0) true true) 1024
  have hq5 := ct_le (pA (hM hs s0) (hM hs o0) false false) 1024
  refine zz_aload_n 5 X.1 0 dX6_distance_5 rfl ?_
  refine zz_iload_n 6 X.1 2 dX6_distance_6 rfl ?_
  refine dd_callVr 7 X hml (th := 0) (As := [.int (nI o0)]) (kt_X6_setOf l D C K hAp F hs G T o0 (by first | rfl | assumption | omega)) gX6_distance_X6_setOf rfl ⟨rfl, rfl⟩ (dr_0 X) yd_X6_setOf ⟨Nat.le_of_ble_eq_true rfl, Nat.le_of_ble_eq_true rfl⟩ rfl rfl (Nat.le_of_ble_eq_true rfl) ⟨Nat.zero_le _, Nat.zero_le _⟩ dX6_distance_7 ?_
  rintro ⟨F2, hs2, G2, T2⟩ hu2
  have hv2 := hu2
  cases hv2
  refine zz_world (P' := (DP D C K F (WH hs) G T)) (fun _ h => h) ?_
  refine dd_callVi 10 X hml (th := 20 + s0) (As := [.ref (K (20 + o0))]) (kt_X0_sizeOfEither l D C K hAp F hs G T s0 o0 (by first | rfl | assumption | omega) (by first | rfl | assumption | omega)) gX6_distance_X0_sizeOfEither rfl ⟨rfl, rfl⟩ (dr_M X (i := s0) (by omega)) yd_X0_sizeOfEither ⟨Nat.le_of_ble_eq_true rfl, Nat.le_of_ble_eq_true rfl⟩ rfl rfl (Nat.le_of_ble_eq_true rfl) ⟨Nat.zero_le _, Nat.zero_le _⟩ dX6_distance_10 ?_
  rintro r3 ⟨F3, hs3, G3, T3⟩ hu3
  obtain ⟨rfl, hv3⟩ := hu3
  cases hv3
  refine zz_world (P' := (DP D C K F (WH hs) G T)) (fun _ h => h) ?_
  refine zz_aload_n 13 X.1 0 dX6_distance_13 rfl ?_
  refine zz_iload_n 14 X.1 1 dX6_distance_14 rfl ?_
  refine dd_callVr 15 X hml (th := 0) (As := [.int (nI s0)]) (kt_X6_setOf l D C K hAp F hs G T s0 (by first | rfl | assumption | omega)) gX6_distance_X6_setOf rfl ⟨rfl, rfl⟩ (dr_0 X) yd_X6_setOf ⟨Nat.le_of_ble_eq_true rfl, Nat.le_of_ble_eq_true rfl⟩ rfl rfl (Nat.le_of_ble_eq_true rfl) ⟨Nat.zero_le _, Nat.zero_le _⟩ dX6_distance_15 ?_
  rintro ⟨F4, hs4, G4, T4⟩ hu4
  have hv4 := hu4
  cases hv4
  refine zz_world (P' := (DP D C K F (WH hs) G T)) (fun _ h => h) ?_
  refine zz_aload_n 18 X.1 0 dX6_distance_18 rfl ?_
  refine zz_iload_n 19 X.1 2 dX6_distance_19 rfl ?_
  refine dd_callVr 20 X hml (th := 0) (As := [.int (nI o0)]) (kt_X6_setOf l D C K hAp F hs G T o0 (by first | rfl | assumption | omega)) gX6_distance_X6_setOf rfl ⟨rfl, rfl⟩ (dr_0 X) yd_X6_setOf ⟨Nat.le_of_ble_eq_true rfl, Nat.le_of_ble_eq_true rfl⟩ rfl rfl (Nat.le_of_ble_eq_true rfl) ⟨Nat.zero_le _, Nat.zero_le _⟩ dX6_distance_20 ?_
  rintro ⟨F5, hs5, G5, T5⟩ hu5
  have hv5 := hu5
  cases hv5
  refine zz_world (P' := (DP D C K F (WH hs) G T)) (fun _ h => h) ?_
  refine dd_callVi 23 X hml (th := 20 + s0) (As := [.ref (K (20 + o0))]) (kt_X0_sizeOfCommon l D C K hAp F hs G T s0 o0 (by first | rfl | assumption | omega) (by first | rfl | assumption | omega)) gX6_distance_X0_sizeOfCommon rfl ⟨rfl, rfl⟩ (dr_M X (i := s0) (by omega)) yd_X0_sizeOfCommon ⟨Nat.le_of_ble_eq_true rfl, Nat.le_of_ble_eq_true rfl⟩ rfl rfl (Nat.le_of_ble_eq_true rfl) ⟨Nat.zero_le _, Nat.zero_le _⟩ dX6_distance_23 ?_
  rintro r6 ⟨F6, hs6, G6, T6⟩ hu6
  obtain ⟨rfl, hv6⟩ := hu6
  cases hv6
  refine zz_world (P' := (DP D C K F (WH hs) G T)) (fun _ h => h) ?_
  refine zz_isub 26 X.1 (v := (nI ((ct (fun i => hM hs s0 i || hM hs o0 i) 1024) - (ct (fun i => hM hs s0 i && hM hs o0 i) 1024)))) dX6_distance_26 (pk_sub (by omega)) ?_
  rw [← hQ]
  refine zz_iret 27 X.1 hr rfl hlk (F, hs, G, T) ?_ (fun _ h _ => h) dX6_distance_27
  exact ⟨congrArg nI (by omega), rfl⟩
abbrev rx_X6_distance : Room := { frames := 7, cells := 1, slots := 6, locals := 111 }
abbrev rm_X6_firstCommon : Room := { frames := 3, cells := 0, slots := 0, locals := 67 }
theorem yd_X6_firstCommon : yX6_firstCommon.cls = RX6 ∧ yX6_firstCommon.cls ≠ "java/lang/invoke/MethodHandle" ∧ yX6_firstCommon.cls ≠ "java/lang/invoke/VarHandle" ∧ (parseMethodDescriptor yX6_firstCommon.desc).map (fun d => d.parameters.length) = some 2 := by decide +kernel
set_option maxHeartbeats 4000000 in
set_option maxRecDepth 100000 in
theorem kt_X6_firstCommon_ok (l : Launch) (D : va_G) (C : Nat → ClassId) (K : Nat → Nat) (hAp : DAp K) (F : Nat → Int32) (hs : Nat → Bool) (G T : Nat → Nat → Int32) (s0 : Nat) (o0 : Nat) (hs0 : s0 < 8) (ho0 : o0 < 8) : CMi l yX6_firstCommon wsX6_firstCommon rm_X6_firstCommon D C K (0)  [.int (nI s0), .int (nI o0)] F hs G T (fun (r : Int32) (u : CSt) => r = (nx (fun i => hM hs s0 i && hM hs o0 i) 0) ∧ u = (F, hs, G, T)) := by
  refine CMi_of (lv := [(0, .ref (K 0)), (1, .int (nI s0)), (2, .int (nI o0))]) (cc := cX6_firstCommon) (maxL := 3) (ret := (some .int)) rfl (by decide +kernel) (Nat.le_of_ble_eq_true rfl) rfl ?_
  intro p e s m args below meth c X hml hr hlk
  generalize hQ : MQ below _ args s 0 0 _ = Q
  refine zz_aload_n 0 X.1 0 dX6_firstCommon_0 rfl ?_
  refine zz_iload_n 1 X.1 1 dX6_firstCommon_1 rfl ?_
  refine dd_callVr 2 X hml (th := 0) (As := [.int (nI s0)]) (kt_X6_setOf l D C K hAp F hs G T s0 (by first | rfl | assumption | omega)) gX6_firstCommon_X6_setOf rfl ⟨rfl, rfl⟩ (dr_0 X) yd_X6_setOf ⟨Nat.le_of_ble_eq_true rfl, Nat.le_of_ble_eq_true rfl⟩ rfl rfl (Nat.le_of_ble_eq_true rfl) ⟨Nat.zero_le _, Nat.zero_le _⟩ dX6_firstCommon_2 ?_
  rintro ⟨F1, hs1, G1, T1⟩ hu1
  have hv1 := hu1
  cases hv1
  refine zz_world (P' := (DP D C K F (WH hs) G T)) (fun _ h => h) ?_
  refine zz_aload_n 5 X.1 0 dX6_firstCommon_5 rfl ?_
  refine zz_iload_n 6 X.1 2 dX6_firstCommon_6 rfl ?_
  refine dd_callVr 7 X hml (th := 0) (As := [.int (nI o0)]) (kt_X6_setOf l D C K hAp F hs G T o0 (by first | rfl | assumption | omega)) gX6_firstCommon_X6_setOf rfl ⟨rfl, rfl⟩ (dr_0 X) yd_X6_setOf ⟨Nat.le_of_ble_eq_true rfl, Nat.le_of_ble_eq_true rfl⟩ rfl rfl (Nat.le_of_ble_eq_true rfl) ⟨Nat.zero_le _, Nat.zero_le _⟩ dX6_firstCommon_7 ?_
  rintro ⟨F2, hs2, G2, T2⟩ hu2
  have hv2 := hu2
  cases hv2
  refine zz_world (P' := (DP D C K F (WH hs) G T)) (fun _ h => h) ?_
  refine dd_callVi 10 X hml (th := 20 + s0) (As := [.ref (K (20 + o0))]) (kt_X0_firstCommonWith l D C K hAp F hs G T s0 o0 (by first | rfl | assumption | omega) (by first | rfl | assumption | omega)) gX6_firstCommon_X0_firstCommonWith rfl ⟨rfl, rfl⟩ (dr_M X (i := s0) (by omega)) yd_X0_firstCommonWith ⟨Nat.le_of_ble_eq_true rfl, Nat.le_of_ble_eq_true rfl⟩ rfl rfl (Nat.le_of_ble_eq_true rfl) ⟨Nat.zero_le _, Nat.zero_le _⟩ dX6_firstCommon_10 ?_
  rintro r3 ⟨F3, hs3, G3, T3⟩ hu3
  obtain ⟨rfl, hv3⟩ := hu3
  cases hv3
  refine zz_world (P' := (DP D C K F (WH hs) G T)) (fun _ h => h) ?_
  rw [← hQ]
  refine zz_iret 13 X.1 hr rfl hlk (F, hs, G, T) ?_ (fun _ h _ => h) dX6_firstCommon_13
  exact ⟨rfl, rfl⟩
abbrev rx_X6_firstCommon : Room := { frames := 7, cells := 1, slots := 6, locals := 111 }
abbrev rm_X6_write : Room := { frames := 5, cells := 0, slots := 0, locals := 113 }
abbrev rx_X6_write : Room := { frames := 7, cells := 1, slots := 6, locals := 113 }
abbrev rm_X6_writtenAt : Room := { frames := 1, cells := 0, slots := 0, locals := 21 }
abbrev rx_X6_writtenAt : Room := { frames := 7, cells := 1, slots := 6, locals := 111 }
abbrev rm_X6_errors : Room := { frames := 5, cells := 0, slots := 0, locals := 111 }
theorem yd_X6_errors : yX6_errors.cls = RX6 ∧ yX6_errors.cls ≠ "java/lang/invoke/MethodHandle" ∧ yX6_errors.cls ≠ "java/lang/invoke/VarHandle" ∧ (parseMethodDescriptor yX6_errors.desc).map (fun d => d.parameters.length) = some 0 := by decide +kernel
set_option maxHeartbeats 4000000 in
set_option maxRecDepth 100000 in
theorem kt_X6_errors_ok (l : Launch) (D : va_G) (C : Nat → ClassId) (K : Nat → Nat) (hAp : DAp K) (F : Nat → Int32) (hs : Nat → Bool) (G T : Nat → Nat → Int32)   : CMi l yX6_errors wsX6_errors rm_X6_errors D C K (0)  [] F hs G T (fun (r : Int32) (u : CSt) => r = (nI 0) ∧ u = (F, hs, G, T)) := by
  refine CMi_of (lv := [(0, .ref (K 0))]) (cc := cX6_errors) (maxL := 4) (ret := (some .int)) rfl (by decide +kernel) (Nat.le_of_ble_eq_true rfl) rfl ?_
  intro p e s m args below meth c X hml hr hlk
  generalize hQ : MQ below _ args s 0 0 _ = Q
  refine zz_iconst 0 X.1 (v := nI 0) dX6_errors_0 rfl ?_
  refine zz_istore_n 1 X.1 (lv' := [(1, .int (nI 0)), (0, .ref (K 0))]) dX6_errors_1 (by decide) rfl ?_
  refine zz_iconst 2 X.1 (v := nI 0) dX6_errors_2 rfl ?_
  refine zz_istore_n 3 X.1 (lv' := [(2, .int (nI 0)), (1, .int (nI 0)), (0, .ref (K 0))]) dX6_errors_3 (by decide) rfl ?_
  have C4 : ∀ (d : Nat) (a0 : Nat) (ha : a0 ≤ 8) (hd : 8 - a0 < d), ZZ p l e rm_X6_errors s m args below meth c 0 0 Q (zz_A (DAd K) s.heap.size) (DP D C K F (WH hs) G T) 4 [(0, .ref (K 0)), (1, .int (nI 0)), (2, .int (nI a0))] [] 4 := by
    intro d
    induction d with
    | zero => intro a0 ha hd; exact absurd hd (Nat.not_lt_zero _)
    | succ d ih4 =>
      intro a0 ha hd
      refine zz_iload_n 4 X.1 2 dX6_errors_4 rfl ?_
      refine zz_bipush 5 X.1 (v := nI 8) dX6_errors_5 rfl ?_
      refine zz_icmp_ge 7 53 X.1 (nI_toInt (by omega)) (nI_toInt (by omega)) dX6_errors_7 (by decide) (fun h7 => ?_) (fun h7 => ?_)
      · skip
        refine zz_iload_n 53 X.1 1 dX6_errors_53 rfl ?_
        rw [← hQ]
        refine zz_iret 54 X.1 hr rfl hlk (F, hs, G, T) ?_ (fun _ h _ => h) dX6_errors_54
        exact ⟨rfl, rfl⟩
      · skip
        refine zz_iload_n 10 X.1 2 dX6_errors_10 rfl ?_
        refine zz_iconst 11 X.1 (v := nI 1) dX6_errors_11 rfl ?_
        refine zz_iadd 12 X.1 (v := (nI (a0 + 1))) dX6_errors_12 (nI_add _ _) ?_
        refine zz_istore_n 13 X.1 (lv' := [(3, .int (nI (a0 + 1))), (0, .ref (K 0)), (1, .int (nI 0)), (2, .int (nI a0))]) dX6_errors_13 (by decide) rfl ?_
        have C14 : ∀ (d : Nat) (b0 : Nat) (hb : b0 ≤ 8) (hd : 8 - b0 < d), ZZ p l e rm_X6_errors s m args below meth c 0 0 Q (zz_A (DAd K) s.heap.size) (DP D C K F (WH hs) G T) 4 [(0, .ref (K 0)), (1, .int (nI 0)), (2, .int (nI a0)), (3, .int (nI b0))] [] 14 := by
          intro d
          induction d with
          | zero => intro b0 hb hd; exact absurd hd (Nat.not_lt_zero _)
          | succ d ih14 =>
            intro b0 hb hd
            refine zz_iload_n 14 X.1 3 dX6_errors_14 rfl ?_
            refine zz_bipush 15 X.1 (v := nI 8) dX6_errors_15 rfl ?_
            refine zz_icmp_ge 17 47 X.1 (nI_toInt (by omega)) (nI_toInt (by omega)) dX6_errors_17 (by decide) (fun h17 => ?_) (fun h17 => ?_)
            · skip
              refine zz_iinc 47 X.1 2 (v := (nI (a0 + 1))) (lv' := [(2, .int (nI (a0 + 1))), (0, .ref (K 0)), (1, .int (nI 0)), (3, .int (nI b0))]) dX6_errors_47 rfl (nI_add a0 1) (by decide) rfl ?_
              refine zz_goto 50 4 X.1 dX6_errors_50 (by decide) ?_
              refine zz_lvs [1, 2, 0] rfl ?_
              exact ih4 (a0 + 1) (by omega) (by omega)
            · skip
              refine zz_aload_n 20 X.1 0 dX6_errors_20 rfl ?_
              refine dd_get0 21 X (by decide +kernel) 0 (by decide) (v := .ref (K 1)) rfl (by decide +kernel) rfl dX6_errors_21 ?_
              refine zz_iload_n 24 X.1 2 dX6_errors_24 rfl ?_
              refine dd_ald1 25 X (i := a0) (by omega) dX6_errors_25 ?_
              refine zz_aload_n 26 X.1 0 dX6_errors_26 rfl ?_
              refine dd_get0 27 X (by decide +kernel) 0 (by decide) (v := .ref (K 1)) rfl (by decide +kernel) rfl dX6_errors_27 ?_
              refine zz_iload_n 30 X.1 3 dX6_errors_30 rfl ?_
              refine dd_ald1 31 X (i := b0) (by omega) dX6_errors_31 ?_
              refine dd_callVi 32 X hml (th := 20 + a0) (As := [.ref (K (20 + b0))]) (kt_X0_keepsLawsWith l D C K hAp F hs G T a0 b0 (by first | rfl | assumption | omega) (by first | rfl | assumption | omega)) gX6_errors_X0_keepsLawsWith rfl ⟨rfl, rfl⟩ (dr_M X (i := a0) (by omega)) yd_X0_keepsLawsWith ⟨Nat.le_of_ble_eq_true rfl, Nat.le_of_ble_eq_true rfl⟩ rfl rfl (Nat.le_of_ble_eq_true rfl) ⟨Nat.zero_le _, Nat.zero_le _⟩ dX6_errors_32 ?_
              rintro r1 ⟨F1, hs1, G1, T1⟩ hu1
              obtain ⟨rfl, hv1⟩ := hu1
              cases hv1
              refine zz_world (P' := (DP D C K F (WH hs) G T)) (fun _ h => h) ?_
              refine zz_ifB_ne 35 41 X.1 dX6_errors_35 (by decide) (fun h35 => ?_) (fun h35 => ?_)
              · skip
                refine zz_iinc 41 X.1 3 (v := (nI (b0 + 1))) (lv' := [(3, .int (nI (b0 + 1))), (0, .ref (K 0)), (1, .int (nI 0)), (2, .int (nI a0))]) dX6_errors_41 rfl (nI_add b0 1) (by decide) rfl ?_
                refine zz_goto 44 14 X.1 dX6_errors_44 (by decide) ?_
                refine zz_lvs [1, 2, 3, 0] rfl ?_
                exact ih14 (b0 + 1) (by omega) (by omega)
              · exact absurd h35 (by decide)
        refine zz_lvs [1, 2, 3, 0] rfl ?_
        exact C14 (8 - (a0 + 1) + 1) (a0 + 1) (by omega) (Nat.lt_succ_self _)
  refine zz_lvs [2, 1, 0] rfl ?_
  exact C4 (8 - 0 + 1) 0 (by omega) (Nat.lt_succ_self _)
