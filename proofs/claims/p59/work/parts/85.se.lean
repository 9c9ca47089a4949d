abbrev rm_J5_init_d00df : Room := { frames := 1, cells := 1, slots := 16, locals := 24 }
theorem yd_J5_init_d00df : yJ5_init_d00df.cls = RJ5 ∧ yJ5_init_d00df.cls ≠ "java/lang/invoke/MethodHandle" ∧ yJ5_init_d00df.cls ≠ "java/lang/invoke/VarHandle" ∧ (parseMethodDescriptor yJ5_init_d00df.desc).map (fun d => d.parameters.length) = some 1 := by decide +kernel
set_option maxHeartbeats 4000000 in
set_option maxRecDepth 100000 in
theorem kt_J5_init_d00df (l : Launch) (D : va_G) (C : Nat → ClassId) (a : Nat)  : SLv l yJ5_init_d00df wsJ5_init_d00df rm_J5_init_d00df D C COx 1 16 [.ref a, .int (nI 16)] [(a, .inr (9, [.null, .int 0, .int 0, .int 0]))] (fun (u : Nat) => [(a, .inr (9, [.ref u, .int 0, .int 0, .int (nI 0)])), (u, .inl (C 6, 16, .inl (tx (fun _ => 0) 0)))]) (fun (u : Nat) => True) := by
  refine SLv_of (lv := [(0, .ref a), (1, .int (nI 16))]) (cc := cJ5_init_d00df) (maxL := 2) (ret := none) COx_ok rfl (by decide +kernel) (Nat.le_of_ble_eq_true rfl) rfl ?_
  intro p e s m args below meth c X hB hin2 hml hr hlk
  have hA : ∀ q, s.heap.size ≤ q → (zz_A (ZW [(a, .inr (9, [.null, .int 0, .int 0, .int 0]))]) s.heap.size) q := fun q h => Or.inr h
  generalize hQ : MQ below _ args s 1 16 _ = Q
  refine zz_aload_n 0 X.1 0 dJ5_init_d00df_0 rfl ?_
  refine zl_init 1 X hml (idx := 3) (by decide +kernel) (by decide +kernel) (by decide +kernel) dJ5_init_d00df_1 ⟨Nat.le_of_ble_eq_true rfl, Nat.le_of_ble_eq_true rfl⟩ ?_
  refine zs_getsG 4 X.1 X.2.2.1 hB ((X.2.1 _ (by decide +kernel))) dJ5_init_d00df_4 ?_
  refine zz_topi (nI 1) rfl ?_
  refine zz_if_eq 7 25 X.1 (nI_toInt (by omega)) dJ5_init_d00df_7 (by decide) (fun h7 => ?_) (fun h7 => ?_)
  · exfalso; omega
  · skip
    refine zz_aload_n 10 X.1 0 dJ5_init_d00df_10 rfl ?_
    refine zz_iload_n 11 X.1 1 dJ5_init_d00df_11 rfl ?_
    refine zl_newa 12 X hA (atype := .byte) (ty := .byte) 6 rfl rfl (by decide +kernel) (N' := 16) (a0 := (16, .inl (fun _ => 0))) (fun _ => rfl) (by omega) (by show 16 * 1 ≤ 536870912; omega) ⟨by show 0 + 1 ≤ _; exact Nat.le_of_ble_eq_true rfl, by show 0 + 16 ≤ 16; omega⟩ dJ5_init_d00df_12 (fun q1 => ?_)
    refine zz_widen (k := 1) (j := 16) (Nat.le_refl _) (by omega) ?_
    refine zz_world (P' := (LPw (zz_A (ZW [(a, .inr (9, [.null, .int 0, .int 0, .int 0]))]) s.heap.size) D [(a, .inr (9, [.null, .int 0, .int 0, .int 0])), (q1, .inl (C 6, 16, .inl (fun _ => 0)))])) (fun _ h => h) ?_
    refine zl_putS 14 X (Cn := RJ4) (ref := RJ5) (T := TJ4) (N0 := 4) (ci := 9) (ty := (.array .byte)) (by decide +kernel) tyJ4 tyJ4_ok nmJ4 rfl 0 rfl 0 (by decide) (by decide +kernel) rfl rfl (v := .ref q1) (by decide +kernel) rfl rfl (show 0 < 4 by decide) dJ5_init_d00df_14 ?_
    refine zz_world (P' := (LPw (zz_A (ZW [(a, .inr (9, [.null, .int 0, .int 0, .int 0]))]) s.heap.size) D [(a, .inr (9, [.ref q1, .int 0, .int 0, .int 0])), (q1, .inl (C 6, 16, .inl (fun _ => 0)))])) (fun _ h => h) ?_
    refine zz_aload_n 17 X.1 0 dJ5_init_d00df_17 rfl ?_
    refine zz_iconst 18 X.1 (v := nI 0) dJ5_init_d00df_18 rfl ?_
    refine zl_putS 19 X (Cn := RJ4) (ref := RJ5) (T := TJ4) (N0 := 4) (ci := 9) (ty := .byte) (by decide +kernel) tyJ4 tyJ4_ok nmJ4 rfl 0 rfl 1 (by decide) (by decide +kernel) rfl rfl (v := .int (nI 0)) (by decide +kernel) rfl rfl (show 1 < 4 by decide) dJ5_init_d00df_19 ?_
    refine zz_world (P' := (LPw (zz_A (ZW [(a, .inr (9, [.null, .int 0, .int 0, .int 0]))]) s.heap.size) D [(a, .inr (9, [.ref q1, .int (nI 0), .int 0, .int 0])), (q1, .inl (C 6, 16, .inl (fun _ => 0)))])) (fun _ h => h) ?_
    refine zz_goto 22 38 X.1 dJ5_init_d00df_22 (by decide) ?_
    refine zz_world (P' := (LPw (zz_A (ZW [(a, .inr (9, [.null, .int 0, .int 0, .int 0]))]) s.heap.size) D [(a, .inr (9, [.ref q1, .int (nI 0), .int 0, .int 0])), (q1, .inl (C 6, 16, .inl (tx (fun _ => 0) 0)))])) (fun _ h => by rw [tx_zero] at h; exact h) ?_
    rw [← hQ]
    refine zz_vret 38 X.1 hr hlk q1 ?_ (fun _ h _ => h) dJ5_init_d00df_38
    exact trivial

abbrev rm_J4_init_da8c8 : Room := { frames := 2, cells := 1, slots := 16, locals := 45 }
theorem yd_J4_init_da8c8 : yJ4_init_da8c8.cls = RJ4 ∧ yJ4_init_da8c8.cls ≠ "java/lang/invoke/MethodHandle" ∧ yJ4_init_da8c8.cls ≠ "java/lang/invoke/VarHandle" ∧ (parseMethodDescriptor yJ4_init_da8c8.desc).map (fun d => d.parameters.length) = some 0 := by decide +kernel
set_option maxHeartbeats 4000000 in
set_option maxRecDepth 100000 in
theorem kt_J4_init_da8c8 (l : Launch) (D : va_G) (C : Nat → ClassId) (a : Nat)  : SLv l yJ4_init_da8c8 wsJ4_init_da8c8 rm_J4_init_da8c8 D C COx 1 16 [.ref a] [(a, .inr (9, [.null, .int 0, .int 0, .int 0]))] (fun (u : Nat) => [(a, .inr (9, [.ref u, .int 0, .int 0, .int (nI 0)])), (u, .inl (C 6, 16, .inl (tx (fun _ => 0) 0)))]) (fun (u : Nat) => True) := by
  refine SLv_of (lv := [(0, .ref a)]) (cc := cJ4_init_da8c8) (maxL := 1) (ret := none) COx_ok rfl (by decide +kernel) (Nat.le_of_ble_eq_true rfl) rfl ?_
  intro p e s m args below meth c X hB hin2 hml hr hlk
  have hA : ∀ q, s.heap.size ≤ q → (zz_A (ZW [(a, .inr (9, [.null, .int 0, .int 0, .int 0]))]) s.heap.size) q := fun q h => Or.inr h
  generalize hQ : MQ below _ args s 1 16 _ = Q
  refine zz_aload_n 0 X.1 0 dJ4_init_da8c8_0 rfl ?_
  refine zz_bipush 1 X.1 (v := nI 16) dJ4_init_da8c8_1 rfl ?_
  refine sl_callIv 3 X hml hA COx_ok hB (R0 := []) (As := [.int (nI 16)]) (kt_J5_init_d00df l D C a ) (cwI 1 X.2.1 gJ4_init_da8c8_J5_init_d00df rfl rfl rfl (X.2.1 _ (by decide +kernel)) (X.2.1 _ (by decide +kernel)) (X.2.1 _ (by decide +kernel)) rfl (by decide +kernel) ⟨Nat.le_of_ble_eq_true rfl, Nat.le_of_ble_eq_true rfl⟩) rfl rfl (Nat.le_of_ble_eq_true rfl) ⟨Nat.le_of_ble_eq_true rfl, Nat.le_of_ble_eq_true rfl⟩ dJ4_init_da8c8_3 ?_
  rintro w1 _
  refine zz_world (P' := (LPw (zz_A (ZW [(a, .inr (9, [.null, .int 0, .int 0, .int 0]))]) s.heap.size) D [(a, .inr (9, [.ref w1, .int 0, .int 0, .int (nI 0)])), (w1, .inl (C 6, 16, .inl (tx (fun _ => 0) 0)))])) (fun _ h => h) ?_
  rw [← hQ]
  refine zz_vret 6 X.1 hr hlk w1 ?_ (fun _ h _ => h) dJ4_init_da8c8_6
  exact trivial

abbrev rm_J5_getValue_6d5f1 : Room := { frames := 0, cells := 0, slots := 0, locals := 0 }
theorem yd_J5_getValue_6d5f1 : yJ5_getValue_6d5f1.cls = RJ5 ∧ yJ5_getValue_6d5f1.cls ≠ "java/lang/invoke/MethodHandle" ∧ yJ5_getValue_6d5f1.cls ≠ "java/lang/invoke/VarHandle" ∧ (parseMethodDescriptor yJ5_getValue_6d5f1.desc).map (fun d => d.parameters.length) = some 0 := by decide +kernel
set_option maxHeartbeats 4000000 in
set_option maxRecDepth 100000 in
theorem kt_J5_getValue_6d5f1 (l : Launch) (D : va_G) (C : Nat → ClassId) (a : Nat) (v : Nat) (n : Nat) (m0 : Nat) (t : Nat → Nat)  : SLr l yJ5_getValue_6d5f1 wsJ5_getValue_6d5f1 rm_J5_getValue_6d5f1 D C NNx 0 0 [.ref a] [(a, .inr (9, [.ref v, .int 0, .int 0, .int (nI n)])), (v, .inl (C 6, m0, .inl (tx t n)))] (fun (_ : Unit) => [(a, .inr (9, [.ref v, .int 0, .int 0, .int (nI n)])), (v, .inl (C 6, m0, .inl (tx t n)))]) (fun u => v) (fun (u : Unit) => True) := by
  refine SLr_of (lv := [(0, .ref a)]) (cc := cJ5_getValue_6d5f1) (maxL := 1) (ret := (some (.array .byte))) NNx_ok rfl (by decide +kernel) (Nat.le_of_ble_eq_true rfl) rfl ?_
  intro p e s m args below meth c X hB hin2 hml hr hlk
  have hA : ∀ q, s.heap.size ≤ q → (zz_A (ZW [(a, .inr (9, [.ref v, .int 0, .int 0, .int (nI n)])), (v, .inl (C 6, m0, .inl (tx t n)))]) s.heap.size) q := fun q h => Or.inr h
  generalize hQ : MQ below _ args s 0 0 _ = Q
  refine zz_aload_n 0 X.1 0 dJ5_getValue_6d5f1_0 rfl ?_
  refine zl_getS 1 X (Cn := RJ4) (ref := RJ5) (T := TJ4) (N0 := 4) (ci := 9) (by decide +kernel) rfl 0 rfl 0 (by decide) (by decide +kernel) rfl (v := .ref v) rfl dJ5_getValue_6d5f1_1 ?_
  rw [← hQ]
  refine zz_aret 4 X.1 hr (Or.inr ⟨_, rfl⟩) hlk () ?_ (fun _ h _ => ⟨rfl, h⟩) dJ5_getValue_6d5f1_4
  exact trivial

abbrev rm_J5_length_8abf5 : Room := { frames := 0, cells := 0, slots := 0, locals := 0 }
theorem yd_J5_length_8abf5 : yJ5_length_8abf5.cls = RJ5 ∧ yJ5_length_8abf5.cls ≠ "java/lang/invoke/MethodHandle" ∧ yJ5_length_8abf5.cls ≠ "java/lang/invoke/VarHandle" ∧ (parseMethodDescriptor yJ5_length_8abf5.desc).map (fun d => d.parameters.length) = some 0 := by decide +kernel
set_option maxHeartbeats 4000000 in
set_option maxRecDepth 100000 in
theorem kt_J5_length_8abf5 (l : Launch) (D : va_G) (C : Nat → ClassId) (a : Nat) (v : Nat) (n : Nat) (m0 : Nat) (t : Nat → Nat)  : SLi l yJ5_length_8abf5 wsJ5_length_8abf5 rm_J5_length_8abf5 D C NNx 0 0 [.ref a] [(a, .inr (9, [.ref v, .int 0, .int 0, .int (nI n)])), (v, .inl (C 6, m0, .inl (tx t n)))] (fun (_ : Unit) => [(a, .inr (9, [.ref v, .int 0, .int 0, .int (nI n)])), (v, .inl (C 6, m0, .inl (tx t n)))]) (fun (r : Int32) (u : Unit) => r = (nI n)) := by
  refine SLi_of (lv := [(0, .ref a)]) (cc := cJ5_length_8abf5) (maxL := 1) (ret := (some .int)) NNx_ok rfl (by decide +kernel) (Nat.le_of_ble_eq_true rfl) rfl ?_
  intro p e s m args below meth c X hB hin2 hml hr hlk
  have hA : ∀ q, s.heap.size ≤ q → (zz_A (ZW [(a, .inr (9, [.ref v, .int 0, .int 0, .int (nI n)])), (v, .inl (C 6, m0, .inl (tx t n)))]) s.heap.size) q := fun q h => Or.inr h
  generalize hQ : MQ below _ args s 0 0 _ = Q
  refine zz_aload_n 0 X.1 0 dJ5_length_8abf5_0 rfl ?_
  refine zl_getS 1 X (Cn := RJ4) (ref := RJ5) (T := TJ4) (N0 := 4) (ci := 9) (by decide +kernel) rfl 0 rfl 3 (by decide) (by decide +kernel) rfl (v := .int (nI n)) rfl dJ5_length_8abf5_1 ?_
  rw [← hQ]
  refine zz_iret 4 X.1 hr rfl hlk () ?_ (fun _ h _ => h) dJ5_length_8abf5_4
  exact rfl

abbrev rm_J4_length_8abf5 : Room := { frames := 1, cells := 0, slots := 0, locals := 24 }
theorem yd_J4_length_8abf5 : yJ4_length_8abf5.cls = RJ4 ∧ yJ4_length_8abf5.cls ≠ "java/lang/invoke/MethodHandle" ∧ yJ4_length_8abf5.cls ≠ "java/lang/invoke/VarHandle" ∧ (parseMethodDescriptor yJ4_length_8abf5.desc).map (fun d => d.parameters.length) = some 0 := by decide +kernel
set_option maxHeartbeats 4000000 in
set_option maxRecDepth 100000 in
theorem kt_J4_length_8abf5 (l : Launch) (D : va_G) (C : Nat → ClassId) (a : Nat) (v : Nat) (n : Nat) (m0 : Nat) (t : Nat → Nat)  : SLi l yJ4_length_8abf5 wsJ4_length_8abf5 rm_J4_length_8abf5 D C NNx 0 0 [.ref a] [(a, .inr (9, [.ref v, .int 0, .int 0, .int (nI n)])), (v, .inl (C 6, m0, .inl (tx t n)))] (fun (_ : Unit) => [(a, .inr (9, [.ref v, .int 0, .int 0, .int (nI n)])), (v, .inl (C 6, m0, .inl (tx t n)))]) (fun (r : Int32) (u : Unit) => r = (nI n)) := by
  refine SLi_of (lv := [(0, .ref a)]) (cc := cJ4_length_8abf5) (maxL := 1) (ret := (some .int)) NNx_ok rfl (by decide +kernel) (Nat.le_of_ble_eq_true rfl) rfl ?_
  intro p e s m args below meth c X hB hin2 hml hr hlk
  have hA : ∀ q, s.heap.size ≤ q → (zz_A (ZW [(a, .inr (9, [.ref v, .int 0, .int 0, .int (nI n)])), (v, .inl (C 6, m0, .inl (tx t n)))]) s.heap.size) q := fun q h => Or.inr h
  generalize hQ : MQ below _ args s 0 0 _ = Q
  refine zz_aload_n 0 X.1 0 dJ4_length_8abf5_0 rfl ?_
  refine sl_callSUi 1 X hml hA NNx_ok (show NNx _ _ from trivial) (R0 := []) (As := []) (Cn := RJ4) (na := 0) (X.2.2.2.1 9 _ rfl).2 (kt_J5_length_8abf5 l D C a v n m0 t ) gJ4_length_8abf5_J5_length_8abf5_s343 rfl ⟨rfl, rfl⟩ (by decide +kernel) ⟨Nat.le_of_ble_eq_true rfl, Nat.le_of_ble_eq_true rfl⟩ (fun H locs hP hS => va_recv X.2.2.2 hP.1 (ci := 9) (q0 := 0) rfl rfl) rfl rfl (Nat.le_of_ble_eq_true rfl) ⟨Nat.le_of_ble_eq_true rfl, Nat.le_of_ble_eq_true rfl⟩ dJ4_length_8abf5_1 ?_
  rintro r1 _ rfl
  refine zz_world (P' := (LPw (zz_A (ZW [(a, .inr (9, [.ref v, .int 0, .int 0, .int (nI n)])), (v, .inl (C 6, m0, .inl (tx t n)))]) s.heap.size) D [(a, .inr (9, [.ref v, .int 0, .int 0, .int (nI n)])), (v, .inl (C 6, m0, .inl (tx t n)))])) (fun _ h => h) ?_
  rw [← hQ]
  refine zz_iret 4 X.1 hr rfl hlk () ?_ (fun _ h _ => h) dJ4_length_8abf5_4
  exact rfl

abbrev rm_J7_checkLength_df160 : Room := { frames := 1, cells := 0, slots := 0, locals := 24 }
theorem yd_J7_checkLength_df160 : yJ7_checkLength_df160.cls = RJ7 ∧ yJ7_checkLength_df160.cls ≠ "java/lang/invoke/MethodHandle" ∧ yJ7_checkLength_df160.cls ≠ "java/lang/invoke/VarHandle" ∧ (parseMethodDescriptor yJ7_checkLength_df160.desc).map (fun d => d.parameters.length) = some 2 := by decide +kernel
set_option maxHeartbeats 4000000 in
set_option maxRecDepth 100000 in
theorem kt_J7_checkLength_df160 (l : Launch) (i : Nat) (j : Nat) (hi : i ≤ j ∧ j < 1000) : NSv l yJ7_checkLength_df160 wsJ7_checkLength_df160 rm_J7_checkLength_df160 NNx [.int (nI i), .int (nI j)] (True) := by
  refine NSv_of (lv := [(0, .int (nI i)), (1, .int (nI j))]) (cc := cJ7_checkLength_df160) (maxL := 2) (ret := none) NNx_ok rfl (by decide +kernel) (Nat.le_of_ble_eq_true rfl) rfl ?_
  intro p e s m args below meth c hc hts hown hB hml hr hlk
  have X : (p.tables.exec = Jvm.exec ∧ c.code = cJ7_checkLength_df160) ∧ True := ⟨hc, trivial⟩
  generalize hQ : MQ below _ args s 0 0 _ = Q
  refine zz_iload_n 0 X.1 1 dJ7_checkLength_df160_0 rfl ?_
  refine zz_iload_n 1 X.1 0 dJ7_checkLength_df160_1 rfl ?_
  refine zz_icmp_ge 2 37 X.1 (nI_toInt (by omega)) (nI_toInt (by omega)) dJ7_checkLength_df160_2 (by decide) (fun h2 => ?_) (fun h2 => ?_)
  · skip
    rw [← hQ]
    refine zz_vret 37 X.1 hr hlk () ?_ (fun _ _ _ => trivial) dJ7_checkLength_df160_37
    exact trivial
  · exfalso; omega

abbrev rm_J7_copyOfRangeByte_39247 : Room := { frames := 2, cells := 1, slots := 34, locals := 60 }
theorem yd_J7_copyOfRangeByte_39247 : yJ7_copyOfRangeByte_39247.cls = RJ7 ∧ yJ7_copyOfRangeByte_39247.cls ≠ "java/lang/invoke/MethodHandle" ∧ yJ7_copyOfRangeByte_39247.cls ≠ "java/lang/invoke/VarHandle" ∧ (parseMethodDescriptor yJ7_copyOfRangeByte_39247.desc).map (fun d => d.parameters.length) = some 3 := by decide +kernel
set_option maxHeartbeats 4000000 in
set_option maxRecDepth 100000 in
theorem kt_J7_copyOfRangeByte_39247 (l : Launch) (D : va_G) (C : Nat → ClassId) (v : Nat) (n : Nat) (t : Nat → Nat) (hn : n < 34) (ht : ∀ j, t j < 128) : SLr l yJ7_copyOfRangeByte_39247 wsJ7_copyOfRangeByte_39247 rm_J7_copyOfRangeByte_39247 D C NNx 1 34 [.ref v, .int (nI 0), .int (nI n)] [(v, .inl (C 6, 34, .inl (tx t n)))] (fun (u : Nat) => [(v, .inl (C 6, 34, .inl (tx t n))), (u, .inl (C 6, n, .inl (tx t n)))]) (fun u => u) (fun (u : Nat) => True) := by
  refine SLr_of (lv := [(0, .ref v), (1, .int (nI 0)), (2, .int (nI n))]) (cc := cJ7_copyOfRangeByte_39247) (maxL := 5) (ret := (some (.array .byte))) NNx_ok rfl (by decide +kernel) (Nat.le_of_ble_eq_true rfl) rfl ?_
  intro p e s m args below meth c X hB hin2 hml hr hlk
  have hA : ∀ q, s.heap.size ≤ q → (zz_A (ZW [(v, .inl (C 6, 34, .inl (tx t n)))]) s.heap.size) q := fun q h => Or.inr h
  generalize hQ : MQ below _ args s 1 34 _ = Q
  refine zz_iload_n 0 X.1 1 dJ7_copyOfRangeByte_39247_0 rfl ?_
  refine zz_iload_n 1 X.1 2 dJ7_copyOfRangeByte_39247_1 rfl ?_
  refine zz_callSNv 2 NNx_ok (show NNx _ _ from trivial) ⟨X.1.1, X.1.2, hml, X.2.2.1, X.2.1⟩ (fun q h => Or.inr h) LPw_keep (As := [.int (nI 0), .int (nI n)]) (kt_J7_checkLength_df160 l 0 n (by first | rfl | assumption | omega)) gJ7_copyOfRangeByte_39247_J7_checkLength_df160 rfl ⟨rfl, rfl⟩ yd_J7_checkLength_df160.2 ⟨Nat.le_of_ble_eq_true rfl, Nat.le_of_ble_eq_true rfl⟩ rfl rfl (Nat.le_of_ble_eq_true rfl) ⟨Nat.le_of_ble_eq_true rfl, Nat.le_of_ble_eq_true rfl⟩ dJ7_copyOfRangeByte_39247_2 ?_
  intro hu1
  refine zz_iload_n 5 X.1 2 dJ7_copyOfRangeByte_39247_5 rfl ?_
  refine zz_iload_n 6 X.1 1 dJ7_copyOfRangeByte_39247_6 rfl ?_
  refine zz_isub 7 X.1 (v := (nI n)) dJ7_copyOfRangeByte_39247_7 (pk_sub (by omega)) ?_
  refine zz_istore_n 8 X.1 (lv' := [(3, .int (nI n)), (0, .ref v), (1, .int (nI 0)), (2, .int (nI n))]) dJ7_copyOfRangeByte_39247_8 (by decide) rfl ?_
  refine zz_iload_n 9 X.1 0 dJ7_copyOfRangeByte_39247_9 rfl ?_
  refine zl_newa 10 X hA (atype := .byte) (ty := .byte) 6 rfl rfl (by decide +kernel) (N' := n) (a0 := (n, .inl (fun _ => 0))) (fun _ => rfl) (by omega) (by show n * 1 ≤ 536870912; omega) ⟨by show 0 + 1 ≤ _; exact Nat.le_of_ble_eq_true rfl, by show 0 + n ≤ 34; omega⟩ dJ7_copyOfRangeByte_39247_10 (fun q2 => ?_)
  refine zz_widen (k := 1) (j := 34) (Nat.le_refl _) (by omega) ?_
  refine zz_world (P' := (LPw (zz_A (ZW [(v, .inl (C 6, 34, .inl (tx t n)))]) s.heap.size) D [(v, .inl (C 6, 34, .inl (tx t n))), (q2, .inl (C 6, n, .inl (fun _ => 0)))])) (fun _ h => h) ?_
  refine zz_astore 12 X.1 (lv' := [(4, .ref q2), (3, .int (nI n)), (0, .ref v), (1, .int (nI 0)), (2, .int (nI n))]) dJ7_copyOfRangeByte_39247_12 (by decide) rfl ?_
  refine zz_aload_n 14 X.1 2 dJ7_copyOfRangeByte_39247_14 rfl ?_
  refine zz_iload_n 15 X.1 3 dJ7_copyOfRangeByte_39247_15 rfl ?_
  refine zz_aload 16 X.1 0 dJ7_copyOfRangeByte_39247_16 rfl ?_
  refine zz_iconst 18 X.1 (v := nI 0) dJ7_copyOfRangeByte_39247_18 rfl ?_
  refine zz_aload_n 19 X.1 2 dJ7_copyOfRangeByte_39247_19 rfl ?_
  refine zl_alen 20 X 0 rfl dJ7_copyOfRangeByte_39247_20 ?_
  refine zz_iload_n 21 X.1 3 dJ7_copyOfRangeByte_39247_21 rfl ?_
  refine zz_isub 22 X.1 (v := (nI 34)) dJ7_copyOfRangeByte_39247_22 (pk_sub (by omega)) ?_
  refine zz_iload_n 23 X.1 1 dJ7_copyOfRangeByte_39247_23 rfl ?_
  refine zz_mmin 24 X.1 hml X.2.2.1 ((X.2.1 _ (by decide +kernel))) ((X.2.1 _ (by decide +kernel))) ((X.2.1 _ (by decide +kernel))) ((X.2.1 _ (by decide +kernel))) (Nat.le_of_ble_eq_true rfl) (Nat.le_of_ble_eq_true rfl) (Nat.le_of_ble_eq_true rfl) (Nat.le_of_ble_eq_true rfl) (v := (nI n)) dJ7_copyOfRangeByte_39247_24 (zi_of ((zi_min (nI_toInt (by omega)) (nI_toInt (by omega))).trans (by omega))) ?_
  refine zl_copy 27 X hml (by decide +kernel) (index := 150) (by decide +kernel) 0 1 (sp := 0) (dp := 0) (k := n) rfl rfl ⟨by omega, by omega, by omega⟩ (by omega) (by omega) (fun i _ => tx_fit ht) ⟨Nat.le_of_ble_eq_true rfl, Nat.le_of_ble_eq_true rfl⟩ dJ7_copyOfRangeByte_39247_27 ?_
  refine zz_world (P' := (LPw (zz_A (ZW [(v, .inl (C 6, 34, .inl (tx t n)))]) s.heap.size) D [(v, .inl (C 6, 34, .inl (tx t n))), (q2, .inl (C 6, n, .inl (va_cpy (tx t n) (fun _ => 0) 0 0 n)))])) (fun _ h => h) ?_
  refine zz_world (P' := (LPw (zz_A (ZW [(v, .inl (C 6, 34, .inl (tx t n)))]) s.heap.size) D [(v, .inl (C 6, 34, .inl (tx t n))), (q2, .inl (C 6, n, .inl (tx t n)))])) (fun _ h => by rw [tx_cpn] at h; exact h) ?_
  refine zz_aload 30 X.1 0 dJ7_copyOfRangeByte_39247_30 rfl ?_
  rw [← hQ]
  refine zz_aret 32 X.1 hr (Or.inr ⟨_, rfl⟩) hlk q2 ?_ (fun _ h _ => ⟨rfl, h⟩) dJ7_copyOfRangeByte_39247_32
  exact trivial

abbrev rm_J7_copyOfRange_39247 : Room := { frames := 3, cells := 1, slots := 34, locals := 84 }
theorem yd_J7_copyOfRange_39247 : yJ7_copyOfRange_39247.cls = RJ7 ∧ yJ7_copyOfRange_39247.cls ≠ "java/lang/invoke/MethodHandle" ∧ yJ7_copyOfRange_39247.cls ≠ "java/lang/invoke/VarHandle" ∧ (parseMethodDescriptor yJ7_copyOfRange_39247.desc).map (fun d => d.parameters.length) = some 3 := by decide +kernel
set_option maxHeartbeats 4000000 in
set_option maxRecDepth 100000 in
theorem kt_J7_copyOfRange_39247 (l : Launch) (D : va_G) (C : Nat → ClassId) (v : Nat) (n : Nat) (t : Nat → Nat) (hn : n < 34) (ht : ∀ j, t j < 128) : SLr l yJ7_copyOfRange_39247 wsJ7_copyOfRange_39247 rm_J7_copyOfRange_39247 D C NNx 1 34 [.ref v, .int (nI 0), .int (nI n)] [(v, .inl (C 6, 34, .inl (tx t n)))] (fun (u : Nat) => [(v, .inl (C 6, 34, .inl (tx t n))), (u, .inl (C 6, n, .inl (tx t n)))]) (fun u => u) (fun (u : Nat) => True) := by
  refine SLr_of (lv := [(0, .ref v), (1, .int (nI 0)), (2, .int (nI n))]) (cc := cJ7_copyOfRange_39247) (maxL := 3) (ret := (some (.array .byte))) NNx_ok rfl (by decide +kernel) (Nat.le_of_ble_eq_true rfl) rfl ?_
  intro p e s m args below meth c X hB hin2 hml hr hlk
  have hA : ∀ q, s.heap.size ≤ q → (zz_A (ZW [(v, .inl (C 6, 34, .inl (tx t n)))]) s.heap.size) q := fun q h => Or.inr h
  generalize hQ : MQ below _ args s 1 34 _ = Q
  refine zz_iload_n 0 X.1 1 dJ7_copyOfRange_39247_0 rfl ?_
  refine zz_if_ne 1 10 X.1 (nI_toInt (by omega)) dJ7_copyOfRange_39247_1 (by decide) (fun h1 => ?_) (fun h1 => ?_)
  · exfalso; omega
  · skip
    refine zz_iload_n 4 X.1 2 dJ7_copyOfRange_39247_4 rfl ?_
    refine zz_aload_n 5 X.1 0 dJ7_copyOfRange_39247_5 rfl ?_
    refine zl_alen 6 X 0 rfl dJ7_copyOfRange_39247_6 ?_
    refine zz_icmp_eq 7 17 X.1 (nI_toInt (by omega)) (nI_toInt (by omega)) dJ7_copyOfRange_39247_7 (by decide) (fun h7 => ?_) (fun h7 => ?_)
    · exfalso; omega
    · skip
      refine zz_aload_n 10 X.1 0 dJ7_copyOfRange_39247_10 rfl ?_
      refine zz_iload_n 11 X.1 1 dJ7_copyOfRange_39247_11 rfl ?_
      refine zz_iload_n 12 X.1 2 dJ7_copyOfRange_39247_12 rfl ?_
      refine sl_callSr 13 X hml hA NNx_ok (show NNx _ _ from trivial) (R0 := []) (As := [.ref v, .int (nI 0), .int (nI n)]) (kt_J7_copyOfRangeByte_39247 l D C v n t (by first | rfl | assumption | omega) (by first | rfl | assumption | omega)) gJ7_copyOfRange_39247_J7_copyOfRangeByte_39247 rfl ⟨rfl, rfl⟩ yd_J7_copyOfRangeByte_39247.2 ⟨Nat.le_of_ble_eq_true rfl, Nat.le_of_ble_eq_true rfl⟩ rfl rfl (Nat.le_of_ble_eq_true rfl) ⟨Nat.le_of_ble_eq_true rfl, Nat.le_of_ble_eq_true rfl⟩ dJ7_copyOfRange_39247_13 ?_
      rintro w1 _
      refine zz_world (P' := (LPw (zz_A (ZW [(v, .inl (C 6, 34, .inl (tx t n)))]) s.heap.size) D [(v, .inl (C 6, 34, .inl (tx t n))), (w1, .inl (C 6, n, .inl (tx t n)))])) (fun _ h => h) ?_
      rw [← hQ]
      refine zz_aret 16 X.1 hr (Or.inr ⟨_, rfl⟩) hlk w1 ?_ (fun _ h _ => ⟨rfl, h⟩) dJ7_copyOfRange_39247_16
      exact trivial

abbrev rm_J0_init_db425 : Room := { frames := 4, cells := 1, slots := 34, locals := 106 }
theorem yd_J0_init_db425 : yJ0_init_db425.cls = RJ0 ∧ yJ0_init_db425.cls ≠ "java/lang/invoke/MethodHandle" ∧ yJ0_init_db425.cls ≠ "java/lang/invoke/VarHandle" ∧ (parseMethodDescriptor yJ0_init_db425.desc).map (fun d => d.parameters.length) = some 2 := by decide +kernel
set_option maxHeartbeats 4000000 in
set_option maxRecDepth 100000 in
theorem kt_J0_init_db425 (l : Launch) (D : va_G) (C : Nat → ClassId) (sa : Nat) (a : Nat) (v : Nat) (n : Nat) (t : Nat → Nat) (hn : n < 34) (ht : ∀ j, t j < 128) : SLv l yJ0_init_db425 wsJ0_init_db425 rm_J0_init_db425 D C COx 1 34 [.ref sa, .ref a, .null] [(sa, .inr (8, [.null, .int 0, .int 0, .int 0])), (a, .inr (9, [.ref v, .int 0, .int 0, .int (nI n)])), (v, .inl (C 6, 34, .inl (tx t n)))] (fun (u : Nat) => [(sa, .inr (8, [.ref u, .int (nI 0), .int 0, .int 0])), (a, .inr (9, [.ref v, .int 0, .int 0, .int (nI n)])), (v, .inl (C 6, 34, .inl (tx t n))), (u, .inl (C 6, n, .inl (tx t n)))]) (fun (u : Nat) => True) := by
  refine SLv_of (lv := [(0, .ref sa), (1, .ref a), (2, .null)]) (cc := cJ0_init_db425) (maxL := 5) (ret := none) COx_ok rfl (by decide +kernel) (Nat.le_of_ble_eq_true rfl) rfl ?_
  intro p e s m args below meth c X hB hin2 hml hr hlk
  have hA : ∀ q, s.heap.size ≤ q → (zz_A (ZW [(sa, .inr (8, [.null, .int 0, .int 0, .int 0])), (a, .inr (9, [.ref v, .int 0, .int 0, .int (nI n)])), (v, .inl (C 6, 34, .inl (tx t n)))]) s.heap.size) q := fun q h => Or.inr h
  generalize hQ : MQ below _ args s 1 34 _ = Q
  refine zz_aload_n 0 X.1 0 dJ0_init_db425_0 rfl ?_
  refine zl_init 1 X hml (idx := 1) (by decide +kernel) (by decide +kernel) (by decide +kernel) dJ0_init_db425_1 ⟨Nat.le_of_ble_eq_true rfl, Nat.le_of_ble_eq_true rfl⟩ ?_
  refine zz_aload_n 4 X.1 1 dJ0_init_db425_4 rfl ?_
  refine sl_callUr 5 X hml hA NNx_ok (show NNx _ _ from trivial) (R0 := [(sa, .inr (8, [.null, .int 0, .int 0, .int 0]))]) (As := []) (Cn := RJ4) (owner := "java/lang/AbstractStringBuilder") (yx := ⟨"java/lang/AbstractStringBuilder", "getValue", "()[B"⟩) (na := 0) (kt_J5_getValue_6d5f1 l D C a v n 34 t ) gJ0_init_db425_J5_getValue_6d5f1_u552J4 rfl ⟨rfl, rfl⟩ rfl (by decide +kernel) ⟨Nat.le_of_ble_eq_true rfl, Nat.le_of_ble_eq_true rfl⟩ (fun H locs hP hS => va_recv X.2.2.2 hP.1 (ci := 9) (q0 := 1) rfl rfl) rfl rfl (Nat.le_of_ble_eq_true rfl) ⟨Nat.le_of_ble_eq_true rfl, Nat.le_of_ble_eq_true rfl⟩ dJ0_init_db425_5 ?_
  rintro _ _
  refine zz_world (P' := (LPw (zz_A (ZW [(sa, .inr (8, [.null, .int 0, .int 0, .int 0])), (a, .inr (9, [.ref v, .int 0, .int 0, .int (nI n)])), (v, .inl (C 6, 34, .inl (tx t n)))]) s.heap.size) D [(sa, .inr (8, [.null, .int 0, .int 0, .int 0])), (a, .inr (9, [.ref v, .int 0, .int 0, .int (nI n)])), (v, .inl (C 6, 34, .inl (tx t n)))])) (fun _ h => h) ?_
  refine zz_astore_n 8 X.1 (lv' := [(3, .ref v), (0, .ref sa), (1, .ref a), (2, .null)]) dJ0_init_db425_8 (by decide) rfl ?_
  refine zz_aload_n 9 X.1 2 dJ0_init_db425_9 rfl ?_
  refine sl_callOi 10 X hml hA NNx_ok (show NNx _ _ from trivial) (R0 := [(sa, .inr (8, [.null, .int 0, .int 0, .int 0]))]) (As := []) (Cn := RJ4) (owner := "java/lang/AbstractStringBuilder") (yx := ⟨"java/lang/AbstractStringBuilder", "length", "()I"⟩) (na := 0) (kt_J4_length_8abf5 l D C a v n 34 t ) gJ0_init_db425_J4_length_8abf5_u549J4 rfl ⟨rfl, rfl⟩ (b9 := cJ5_length_8abf5) (m9 := 1) (r9 := (some .int)) (by decide +kernel) (by decide +kernel) ⟨Nat.le_of_ble_eq_true rfl, Nat.le_of_ble_eq_true rfl⟩ (fun H locs hP hS => va_recv X.2.2.2 hP.1 (ci := 9) (q0 := 1) rfl rfl) rfl rfl (Nat.le_of_ble_eq_true rfl) ⟨Nat.le_of_ble_eq_true rfl, Nat.le_of_ble_eq_true rfl⟩ dJ0_init_db425_10 ?_
  rintro r2 _ rfl
  refine zz_world (P' := (LPw (zz_A (ZW [(sa, .inr (8, [.null, .int 0, .int 0, .int 0])), (a, .inr (9, [.ref v, .int 0, .int 0, .int (nI n)])), (v, .inl (C 6, 34, .inl (tx t n)))]) s.heap.size) D [(sa, .inr (8, [.null, .int 0, .int 0, .int 0])), (a, .inr (9, [.ref v, .int 0, .int 0, .int (nI n)])), (v, .inl (C 6, 34, .inl (tx t n)))])) (fun _ h => h) ?_
  refine zz_istore 13 X.1 (lv' := [(4, .int (nI n)), (3, .ref v), (0, .ref sa), (1, .ref a), (2, .null)]) dJ0_init_db425_13 (by decide) rfl ?_
  refine zz_aload_n 15 X.1 3 dJ0_init_db425_15 rfl ?_
  refine sl_callUi 16 X hml hA COx_ok hB (R0 := [(sa, .inr (8, [.null, .int 0, .int 0, .int 0]))]) (As := []) (Cn := RJ4) (owner := "java/lang/AbstractStringBuilder") (yx := ⟨"java/lang/AbstractStringBuilder", "isLatin1", "()Z"⟩) (na := 0) (kt_J5_isLatin1_aae02 l D C a v n 34 t ) gJ0_init_db425_J5_isLatin1_aae02_u1047J4 rfl ⟨rfl, rfl⟩ rfl (by decide +kernel) ⟨Nat.le_of_ble_eq_true rfl, Nat.le_of_ble_eq_true rfl⟩ (fun H locs hP hS => va_recv X.2.2.2 hP.1 (ci := 9) (q0 := 1) rfl rfl) rfl rfl (Nat.le_of_ble_eq_true rfl) ⟨Nat.le_of_ble_eq_true rfl, Nat.le_of_ble_eq_true rfl⟩ dJ0_init_db425_16 ?_
  rintro r3 _ rfl
  refine zz_world (P' := (LPw (zz_A (ZW [(sa, .inr (8, [.null, .int 0, .int 0, .int 0])), (a, .inr (9, [.ref v, .int 0, .int 0, .int (nI n)])), (v, .inl (C 6, 34, .inl (tx t n)))]) s.heap.size) D [(sa, .inr (8, [.null, .int 0, .int 0, .int 0])), (a, .inr (9, [.ref v, .int 0, .int 0, .int (nI n)])), (v, .inl (C 6, 34, .inl (tx t n)))])) (fun _ h => h) ?_
  refine zz_ifB_eq 19 41 X.1 dJ0_init_db425_19 (by decide) (fun h19 => ?_) (fun h19 => ?_)
  · exact absurd h19 (by decide)
  · skip
    refine zz_aload_n 22 X.1 2 dJ0_init_db425_22 rfl ?_
    refine zz_iconst 23 X.1 (v := nI 0) dJ0_init_db425_23 rfl ?_
    refine zl_putF 24 X hin2 (T := TJ0) (N := 4) (ci := 8) (by decide +kernel) tyJ0 tyJ0_ok nmJ0 rfl 0 rfl 1 (by decide) (by decide +kernel) rfl rfl (v := .int (nI 0)) (ty := .byte) rfl rfl rfl (Nat.le_of_ble_eq_true rfl) dJ0_init_db425_24 ?_
    refine zz_world (P' := (LPw (zz_A (ZW [(sa, .inr (8, [.null, .int 0, .int 0, .int 0])), (a, .inr (9, [.ref v, .int 0, .int 0, .int (nI n)])), (v, .inl (C 6, 34, .inl (tx t n)))]) s.heap.size) D [(sa, .inr (8, [.null, .int (nI 0), .int 0, .int 0])), (a, .inr (9, [.ref v, .int 0, .int 0, .int (nI n)])), (v, .inl (C 6, 34, .inl (tx t n)))])) (fun _ h => h) ?_
    refine zz_aload_n 27 X.1 2 dJ0_init_db425_27 rfl ?_
    refine zz_aload_n 28 X.1 1 dJ0_init_db425_28 rfl ?_
    refine zz_iconst 29 X.1 (v := nI 0) dJ0_init_db425_29 rfl ?_
    refine zz_iload 30 X.1 0 dJ0_init_db425_30 rfl ?_
    refine sl_callSr 32 X hml hA NNx_ok (show NNx _ _ from trivial) (R0 := [(sa, .inr (8, [.null, .int (nI 0), .int 0, .int 0])), (a, .inr (9, [.ref v, .int 0, .int 0, .int (nI n)]))]) (As := [.ref v, .int (nI 0), .int (nI n)]) (kt_J7_copyOfRange_39247 l D C v n t (by first | rfl | assumption | omega) (by first | rfl | assumption | omega)) gJ0_init_db425_J7_copyOfRange_39247 rfl ⟨rfl, rfl⟩ yd_J7_copyOfRange_39247.2 ⟨Nat.le_of_ble_eq_true rfl, Nat.le_of_ble_eq_true rfl⟩ rfl rfl (Nat.le_of_ble_eq_true rfl) ⟨Nat.le_of_ble_eq_true rfl, Nat.le_of_ble_eq_true rfl⟩ dJ0_init_db425_32 ?_
    rintro w4 _
    refine zz_world (P' := (LPw (zz_A (ZW [(sa, .inr (8, [.null, .int 0, .int 0, .int 0])), (a, .inr (9, [.ref v, .int 0, .int 0, .int (nI n)])), (v, .inl (C 6, 34, .inl (tx t n)))]) s.heap.size) D [(sa, .inr (8, [.null, .int (nI 0), .int 0, .int 0])), (a, .inr (9, [.ref v, .int 0, .int 0, .int (nI n)])), (v, .inl (C 6, 34, .inl (tx t n))), (w4, .inl (C 6, n, .inl (tx t n)))])) (fun _ h => h) ?_
    refine zl_putF 35 X hin2 (T := TJ0) (N := 4) (ci := 8) (by decide +kernel) tyJ0 tyJ0_ok nmJ0 rfl 0 rfl 0 (by decide) (by decide +kernel) rfl rfl (v := .ref w4) (ty := .array .byte) rfl rfl rfl (Nat.le_of_ble_eq_true rfl) dJ0_init_db425_35 ?_
    refine zz_world (P' := (LPw (zz_A (ZW [(sa, .inr (8, [.null, .int 0, .int 0, .int 0])), (a, .inr (9, [.ref v, .int 0, .int 0, .int (nI n)])), (v, .inl (C 6, 34, .inl (tx t n)))]) s.heap.size) D [(sa, .inr (8, [.ref w4, .int (nI 0), .int 0, .int 0])), (a, .inr (9, [.ref v, .int 0, .int 0, .int (nI n)])), (v, .inl (C 6, 34, .inl (tx t n))), (w4, .inl (C 6, n, .inl (tx t n)))])) (fun _ h => h) ?_
    refine zz_goto 38 97 X.1 dJ0_init_db425_38 (by decide) ?_
    rw [← hQ]
    refine zz_vret 97 X.1 hr hlk w4 ?_ (fun _ h _ => h) dJ0_init_db425_97
    exact trivial

abbrev rm_J0_init_81219 : Room := { frames := 5, cells := 1, slots := 34, locals := 130 }
theorem yd_J0_init_81219 : yJ0_init_81219.cls = RJ0 ∧ yJ0_init_81219.cls ≠ "java/lang/invoke/MethodHandle" ∧ yJ0_init_81219.cls ≠ "java/lang/invoke/VarHandle" ∧ (parseMethodDescriptor yJ0_init_81219.desc).map (fun d => d.parameters.length) = some 1 := by decide +kernel
set_option maxHeartbeats 4000000 in
set_option maxRecDepth 100000 in
theorem kt_J0_init_81219 (l : Launch) (D : va_G) (C : Nat → ClassId) (sa : Nat) (a : Nat) (v : Nat) (n : Nat) (t : Nat → Nat) (hn : n < 34) (ht : ∀ j, t j < 128) : SLv l yJ0_init_81219 wsJ0_init_81219 rm_J0_init_81219 D C COx 1 34 [.ref sa, .ref a] [(sa, .inr (8, [.null, .int 0, .int 0, .int 0])), (a, .inr (9, [.ref v, .int 0, .int 0, .int (nI n)])), (v, .inl (C 6, 34, .inl (tx t n)))] (fun (u : Nat) => [(sa, .inr (8, [.ref u, .int (nI 0), .int 0, .int 0])), (a, .inr (9, [.ref v, .int 0, .int 0, .int (nI n)])), (v, .inl (C 6, 34, .inl (tx t n))), (u, .inl (C 6, n, .inl (tx t n)))]) (fun (u : Nat) => True) := by
  refine SLv_of (lv := [(0, .ref sa), (1, .ref a)]) (cc := cJ0_init_81219) (maxL := 2) (ret := none) COx_ok rfl (by decide +kernel) (Nat.le_of_ble_eq_true rfl) rfl ?_
  intro p e s m args below meth c X hB hin2 hml hr hlk
  have hA : ∀ q, s.heap.size ≤ q → (zz_A (ZW [(sa, .inr (8, [.null, .int 0, .int 0, .int 0])), (a, .inr (9, [.ref v, .int 0, .int 0, .int (nI n)])), (v, .inl (C 6, 34, .inl (tx t n)))]) s.heap.size) q := fun q h => Or.inr h
  generalize hQ : MQ below _ args s 1 34 _ = Q
  refine zz_aload_n 0 X.1 0 dJ0_init_81219_0 rfl ?_
  refine zz_aload_n 1 X.1 1 dJ0_init_81219_1 rfl ?_
  refine zz_acn 2 X.1 dJ0_init_81219_2 ?_
  refine sl_callIv 3 X hml hA COx_ok hB (R0 := []) (As := [.ref a, .null]) (kt_J0_init_db425 l D C sa a v n t (by first | rfl | assumption | omega) (by first | rfl | assumption | omega)) (cwI 2 X.2.1 gJ0_init_81219_J0_init_db425 rfl rfl rfl (X.2.1 _ (by decide +kernel)) (X.2.1 _ (by decide +kernel)) (X.2.1 _ (by decide +kernel)) rfl (by decide +kernel) ⟨Nat.le_of_ble_eq_true rfl, Nat.le_of_ble_eq_true rfl⟩) rfl rfl (Nat.le_of_ble_eq_true rfl) ⟨Nat.le_of_ble_eq_true rfl, Nat.le_of_ble_eq_true rfl⟩ dJ0_init_81219_3 ?_
  rintro w1 _
  refine zz_world (P' := (LPw (zz_A (ZW [(sa, .inr (8, [.null, .int 0, .int 0, .int 0])), (a, .inr (9, [.ref v, .int 0, .int 0, .int (nI n)])), (v, .inl (C 6, 34, .inl (tx t n)))]) s.heap.size) D [(sa, .inr (8, [.ref w1, .int (nI 0), .int 0, .int 0])), (a, .inr (9, [.ref v, .int 0, .int 0, .int (nI n)])), (v, .inl (C 6, 34, .inl (tx t n))), (w1, .inl (C 6, n, .inl (tx t n)))])) (fun _ h => h) ?_
  rw [← hQ]
  refine zz_vret 6 X.1 hr hlk w1 ?_ (fun _ h _ => h) dJ0_init_81219_6
  exact trivial

abbrev rm_J4_toString_0e30d : Room := { frames := 6, cells := 2, slots := 38, locals := 151 }
theorem yd_J4_toString_0e30d : yJ4_toString_0e30d.cls = RJ4 ∧ yJ4_toString_0e30d.cls ≠ "java/lang/invoke/MethodHandle" ∧ yJ4_toString_0e30d.cls ≠ "java/lang/invoke/VarHandle" ∧ (parseMethodDescriptor yJ4_toString_0e30d.desc).map (fun d => d.parameters.length) = some 0 := by decide +kernel
set_option maxHeartbeats 4000000 in
set_option maxRecDepth 100000 in
theorem kt_J4_toString_0e30d (l : Launch) (D : va_G) (C : Nat → ClassId) (a : Nat) (v : Nat) (n : Nat) (t : Nat → Nat) (hn : n < 34) (ht : ∀ j, t j < 128) : SLr l yJ4_toString_0e30d wsJ4_toString_0e30d rm_J4_toString_0e30d D C COx 2 38 [.ref a] [(a, .inr (9, [.ref v, .int 0, .int 0, .int (nI n)])), (v, .inl (C 6, 34, .inl (tx t n)))] (fun (u : Nat × Nat) => [(u.1, .inr (8, [.ref u.2, .int (nI 0), .int 0, .int 0])), (a, .inr (9, [.ref v, .int 0, .int 0, .int (nI n)])), (v, .inl (C 6, 34, .inl (tx t n))), (u.2, .inl (C 6, n, .inl (tx t n)))]) (fun u => u.1) (fun (u : Nat × Nat) => True) := by
  refine SLr_of (lv := [(0, .ref a)]) (cc := cJ4_toString_0e30d) (maxL := 1) (ret := (some (.object "java/lang/String"))) COx_ok rfl (by decide +kernel) (Nat.le_of_ble_eq_true rfl) rfl ?_
  intro p e s m args below meth c X hB hin2 hml hr hlk
  have hA : ∀ q, s.heap.size ≤ q → (zz_A (ZW [(a, .inr (9, [.ref v, .int 0, .int 0, .int (nI n)])), (v, .inl (C 6, 34, .inl (tx t n)))]) s.heap.size) q := fun q h => Or.inr h
  generalize hQ : MQ below _ args s 2 38 _ = Q
  refine zl_new 0 X hA (Cn := RJ0) (T := TJ0) (N := 4) (ci := 8) (index := 18) (by decide +kernel) tyJ0 tyJ0_ok (by decide +kernel) (by decide +kernel) (by decide +kernel) rfl (fs := [.null, .int 0, .int 0, .int 0]) (by decide) ⟨Nat.le_of_ble_eq_true rfl, Nat.le_of_ble_eq_true rfl⟩ dJ4_toString_0e30d_0 (fun q1 => ?_)
  refine zz_world (P' := (LPw (zz_A (ZW [(a, .inr (9, [.ref v, .int 0, .int 0, .int (nI n)])), (v, .inl (C 6, 34, .inl (tx t n)))]) s.heap.size) D [(a, .inr (9, [.ref v, .int 0, .int 0, .int (nI n)])), (v, .inl (C 6, 34, .inl (tx t n))), (q1, .inr (8, [.null, .int 0, .int 0, .int 0]))])) (fun _ h => h) ?_
  refine zz_dup 3 X.1 dJ4_toString_0e30d_3 rfl ?_
  refine zz_aload_n 4 X.1 0 dJ4_toString_0e30d_4 rfl ?_
  refine zl_sub [2, 0, 1] (ws' := [(q1, .inr (8, [.null, .int 0, .int 0, .int 0])), (a, .inr (9, [.ref v, .int 0, .int 0, .int (nI n)])), (v, .inl (C 6, 34, .inl (tx t n)))]) rfl rfl rfl ?_
  refine sl_callIv 5 X hml hA COx_ok hB (R0 := []) (As := [.ref a]) (kt_J0_init_81219 l D C q1 a v n t (by first | rfl | assumption | omega) (by first | rfl | assumption | omega)) (cwI 1 X.2.1 gJ4_toString_0e30d_J0_init_81219 rfl rfl rfl (X.2.1 _ (by decide +kernel)) (X.2.1 _ (by decide +kernel)) (X.2.1 _ (by decide +kernel)) rfl (by decide +kernel) ⟨Nat.le_of_ble_eq_true rfl, Nat.le_of_ble_eq_true rfl⟩) rfl rfl (Nat.le_of_ble_eq_true rfl) ⟨Nat.le_of_ble_eq_true rfl, Nat.le_of_ble_eq_true rfl⟩ dJ4_toString_0e30d_5 ?_
  rintro w2 _
  refine zz_world (P' := (LPw (zz_A (ZW [(a, .inr (9, [.ref v, .int 0, .int 0, .int (nI n)])), (v, .inl (C 6, 34, .inl (tx t n)))]) s.heap.size) D [(q1, .inr (8, [.ref w2, .int (nI 0), .int 0, .int 0])), (a, .inr (9, [.ref v, .int 0, .int 0, .int (nI n)])), (v, .inl (C 6, 34, .inl (tx t n))), (w2, .inl (C 6, n, .inl (tx t n)))])) (fun _ h => h) ?_
  rw [← hQ]
  refine zz_aret 8 X.1 hr (Or.inl ⟨_, rfl⟩) hlk (q1, w2) ?_ (fun _ h _ => ⟨rfl, h⟩) dJ4_toString_0e30d_8
  exact trivial

set_option maxHeartbeats 4000000 in
set_option maxRecDepth 100000 in
theorem kt_J0_coder_w (l : Launch) (D : va_G) (C : Nat → ClassId) (a : Nat) (v : Nat) (n : Nat) (f : Nat → Int32)  : SLi l yJ0_coder_7d493 wsJ0_coder_7d493 rm_J0_coder_7d493 D C COx 0 0 [.ref a] [(a, .inr (8, [.ref v, .int (nI 0), .int 0, .int 0])), (v, .inl (C 6, n, .inl f))] (fun (_ : Unit) => [(a, .inr (8, [.ref v, .int (nI 0), .int 0, .int 0])), (v, .inl (C 6, n, .inl f))]) (fun (r : Int32) (u : Unit) => r = (nI 0)) := by
  refine SLi_of (lv := [(0, .ref a)]) (cc := cJ0_coder_7d493) (maxL := 1) (ret := (some .byte)) COx_ok rfl (by decide +kernel) (Nat.le_of_ble_eq_true rfl) rfl ?_
  intro p e s m args below meth c X hB hin2 hml hr hlk
  have hA : ∀ q, s.heap.size ≤ q → (zz_A (ZW [(a, .inr (8, [.ref v, .int (nI 0), .int 0, .int 0])), (v, .inl (C 6, n, .inl f))]) s.heap.size) q := fun q h => Or.inr h
  generalize hQ : MQ below _ args s 0 0 _ = Q
  refine zs_getsG 0 X.1 X.2.2.1 hB ((X.2.1 _ (by decide +kernel))) dJ0_coder_7d493_0 ?_
  refine zz_topi (nI 1) rfl ?_
  refine zz_if_eq 3 13 X.1 (nI_toInt (by omega)) dJ0_coder_7d493_3 (by decide) (fun h3 => ?_) (fun h3 => ?_)
  · exfalso; omega
  · skip
    refine zz_aload_n 6 X.1 0 dJ0_coder_7d493_6 rfl ?_
    refine zl_getS 7 X (Cn := RJ0) (ref := RJ0) (T := TJ0) (N0 := 4) (ci := 8) (by decide +kernel) rfl 0 rfl 1 (by decide) (by decide +kernel) rfl (v := .int (nI 0)) rfl dJ0_coder_7d493_7 ?_
    refine zz_goto 10 14 X.1 dJ0_coder_7d493_10 (by decide) ?_
    rw [← hQ]
    refine zz_iret 14 X.1 hr rfl hlk () ?_ (fun _ h _ => h) dJ0_coder_7d493_14
    exact rfl

set_option maxHeartbeats 4000000 in
set_option maxRecDepth 100000 in
theorem kt_J0_length_w (l : Launch) (D : va_G) (C : Nat → ClassId) (a : Nat) (v : Nat) (n : Nat) (f : Nat → Int32) (hn : n < 2 ^ 31) : SLi l yJ0_length_8abf5 wsJ0_length_8abf5 rm_J0_length_8abf5 D C COx 0 0 [.ref a] [(a, .inr (8, [.ref v, .int (nI 0), .int 0, .int 0])), (v, .inl (C 6, n, .inl f))] (fun (_ : Unit) => [(a, .inr (8, [.ref v, .int (nI 0), .int 0, .int 0])), (v, .inl (C 6, n, .inl f))]) (fun (r : Int32) (u : Unit) => r = (nI n)) := by
  refine SLi_of (lv := [(0, .ref a)]) (cc := cJ0_length_8abf5) (maxL := 1) (ret := (some .int)) COx_ok rfl (by decide +kernel) (Nat.le_of_ble_eq_true rfl) rfl ?_
  intro p e s m args below meth c X hB hin2 hml hr hlk
  have hA : ∀ q, s.heap.size ≤ q → (zz_A (ZW [(a, .inr (8, [.ref v, .int (nI 0), .int 0, .int 0])), (v, .inl (C 6, n, .inl f))]) s.heap.size) q := fun q h => Or.inr h
  generalize hQ : MQ below _ args s 0 0 _ = Q
  refine zz_aload_n 0 X.1 0 dJ0_length_8abf5_0 rfl ?_
  refine zl_getS 1 X (Cn := RJ0) (ref := RJ0) (T := TJ0) (N0 := 4) (ci := 8) (by decide +kernel) rfl 0 rfl 0 (by decide) (by decide +kernel) rfl (v := .ref v) rfl dJ0_length_8abf5_1 ?_
  refine zl_alen 4 X 1 rfl dJ0_length_8abf5_4 ?_
  refine zz_aload_n 5 X.1 0 dJ0_length_8abf5_5 rfl ?_
  refine sl_callVi 6 X hml hA COx_ok hB (R0 := []) (As := []) (Cn := RJ0) (kt_J0_coder_w l D C a v n f ) gJ0_length_8abf5_J0_coder_7d493 rfl ⟨rfl, rfl⟩ yd_J0_coder_7d493 ⟨Nat.le_of_ble_eq_true rfl, Nat.le_of_ble_eq_true rfl⟩ (fun H locs hP hS => va_recv X.2.2.2 hP.1 (ci := 8) (q0 := 0) rfl rfl) rfl rfl (Nat.le_of_ble_eq_true rfl) ⟨Nat.le_of_ble_eq_true rfl, Nat.le_of_ble_eq_true rfl⟩ dJ0_length_8abf5_6 ?_
  rintro r1 _ rfl
  refine zz_world (P' := (LPw (zz_A (ZW [(a, .inr (8, [.ref v, .int (nI 0), .int 0, .int 0])), (v, .inl (C 6, n, .inl f))]) s.heap.size) D [(a, .inr (8, [.ref v, .int (nI 0), .int 0, .int 0])), (v, .inl (C 6, n, .inl f))])) (fun _ h => h) ?_
  refine zz_ishr 9 X.1 (v := (nI n)) dJ0_length_8abf5_9 (sh_r0 _) ?_
  rw [← hQ]
  refine zz_iret 10 X.1 hr rfl hlk () ?_ (fun _ h _ => h) dJ0_length_8abf5_10
  exact rfl
