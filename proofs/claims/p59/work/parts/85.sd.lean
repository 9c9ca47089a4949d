abbrev rm_J8_newLength_cabcc : Room := { frames := 1, cells := 0, slots := 0, locals := 23 }
theorem yd_J8_newLength_cabcc : yJ8_newLength_cabcc.cls = RJ8 ∧ yJ8_newLength_cabcc.cls ≠ "java/lang/invoke/MethodHandle" ∧ yJ8_newLength_cabcc.cls ≠ "java/lang/invoke/VarHandle" ∧ (parseMethodDescriptor yJ8_newLength_cabcc.desc).map (fun d => d.parameters.length) = some 3 := by decide +kernel
set_option maxHeartbeats 4000000 in
set_option maxRecDepth 100000 in
theorem kt_J8_newLength_cabcc (l : Launch) (x : Nat) (y : Nat) (z : Nat) (hx : 0 < x ∧ x < 1000) (hy : y < 1000 ∧ z < 1000) : NSi l yJ8_newLength_cabcc wsJ8_newLength_cabcc rm_J8_newLength_cabcc NNx [.int (nI x), .int (nI y), .int (nI z)] (fun (r : Int32) => r = (nI (x + max y z))) := by
  refine NSi_of (lv := [(0, .int (nI x)), (1, .int (nI y)), (2, .int (nI z))]) (cc := cJ8_newLength_cabcc) (maxL := 4) (ret := (some .int)) NNx_ok rfl (by decide +kernel) (Nat.le_of_ble_eq_true rfl) rfl ?_
  intro p e s m args below meth c hc hts hown hB hml hr hlk
  have X : (p.tables.exec = Jvm.exec ∧ c.code = cJ8_newLength_cabcc) ∧ True := ⟨hc, trivial⟩
  generalize hQ : MQ below _ args s 0 0 _ = Q
  refine zz_iload_n 0 X.1 0 dJ8_newLength_cabcc_0 rfl ?_
  refine zz_iload_n 1 X.1 1 dJ8_newLength_cabcc_1 rfl ?_
  refine zz_iload_n 2 X.1 2 dJ8_newLength_cabcc_2 rfl ?_
  refine zz_mmax 3 X.1 hml hown (hts _ (by decide +kernel)) (hts _ (by decide +kernel)) (hts _ (by decide +kernel)) (hts _ (by decide +kernel)) (Nat.le_of_ble_eq_true rfl) (Nat.le_of_ble_eq_true rfl) (Nat.le_of_ble_eq_true rfl) (Nat.le_of_ble_eq_true rfl) (v := (nI (max y z))) dJ8_newLength_cabcc_3 (zi_of ((zi_max (nI_toInt (by omega)) (nI_toInt (by omega))).trans (by omega))) ?_
  refine zz_iadd 6 X.1 (v := (nI (x + (max y z)))) dJ8_newLength_cabcc_6 (nI_add _ _) ?_
  refine zz_istore_n 7 X.1 (lv' := [(3, .int (nI (x + (max y z)))), (0, .int (nI x)), (1, .int (nI y)), (2, .int (nI z))]) dJ8_newLength_cabcc_7 (by decide) rfl ?_
  refine zz_iconst 8 X.1 (v := nI 0) dJ8_newLength_cabcc_8 rfl ?_
  refine zz_iload_n 9 X.1 0 dJ8_newLength_cabcc_9 rfl ?_
  refine zz_icmp_ge 10 21 X.1 (nI_toInt (by omega)) (nI_toInt (by omega)) dJ8_newLength_cabcc_10 (by decide) (fun h10 => ?_) (fun h10 => ?_)
  · exfalso; omega
  · skip
    refine zz_iload_n 13 X.1 0 dJ8_newLength_cabcc_13 rfl ?_
    refine zz_ldci 14 X.1 (v := 2147483639) dJ8_newLength_cabcc_14 hown (by exact hts _ (by decide +kernel)) ?_
    refine zz_topi (nI 2147483639) (by decide) ?_
    refine zz_icmp_gt 16 21 X.1 (nI_toInt (by omega)) (nI_toInt (by omega)) dJ8_newLength_cabcc_16 (by decide) (fun h16 => ?_) (fun h16 => ?_)
    · exfalso; omega
    · skip
      refine zz_iload_n 19 X.1 0 dJ8_newLength_cabcc_19 rfl ?_
      rw [← hQ]
      refine zz_iret 20 X.1 hr rfl hlk () ?_ (fun _ _ _ => trivial) dJ8_newLength_cabcc_20
      exact rfl

abbrev rm_J5_newCapacity_0f7a4 : Room := { frames := 2, cells := 0, slots := 0, locals := 46 }
theorem yd_J5_newCapacity_0f7a4 : yJ5_newCapacity_0f7a4.cls = RJ5 ∧ yJ5_newCapacity_0f7a4.cls ≠ "java/lang/invoke/MethodHandle" ∧ yJ5_newCapacity_0f7a4.cls ≠ "java/lang/invoke/VarHandle" ∧ (parseMethodDescriptor yJ5_newCapacity_0f7a4.desc).map (fun d => d.parameters.length) = some 1 := by decide +kernel
set_option maxHeartbeats 4000000 in
set_option maxRecDepth 100000 in
theorem kt_J5_newCapacity_0f7a4 (l : Launch) (D : va_G) (C : Nat → ClassId) (a : Nat) (v : Nat) (n : Nat) (m0 : Nat) (t : Nat → Nat) (mn : Nat) (hm : m0 = 16) (hmn : m0 < mn ∧ mn ≤ 34) : SLi l yJ5_newCapacity_0f7a4 wsJ5_newCapacity_0f7a4 rm_J5_newCapacity_0f7a4 D C COx 0 0 [.ref a, .int (nI mn)] [(a, .inr (9, [.ref v, .int 0, .int 0, .int (nI n)])), (v, .inl (C 6, m0, .inl (tx t n)))] (fun (_ : Unit) => [(a, .inr (9, [.ref v, .int 0, .int 0, .int (nI n)])), (v, .inl (C 6, m0, .inl (tx t n)))]) (fun (r : Int32) (u : Unit) => r = (nI 34)) := by
  refine SLi_of (lv := [(0, .ref a), (1, .int (nI mn))]) (cc := cJ5_newCapacity_0f7a4) (maxL := 6) (ret := (some .int)) COx_ok rfl (by decide +kernel) (Nat.le_of_ble_eq_true rfl) rfl ?_
  intro p e s m args below meth c X hB hin2 hml hr hlk
  have hA : ∀ q, s.heap.size ≤ q → (zz_A (ZW [(a, .inr (9, [.ref v, .int 0, .int 0, .int (nI n)])), (v, .inl (C 6, m0, .inl (tx t n)))]) s.heap.size) q := fun q h => Or.inr h
  generalize hQ : MQ below _ args s 0 0 _ = Q
  refine zz_aload_n 0 X.1 0 dJ5_newCapacity_0f7a4_0 rfl ?_
  refine zl_getS 1 X (Cn := RJ4) (ref := RJ5) (T := TJ4) (N0 := 4) (ci := 9) (by decide +kernel) rfl 0 rfl 0 (by decide) (by decide +kernel) rfl (v := .ref v) rfl dJ5_newCapacity_0f7a4_1 ?_
  refine zl_alen 4 X 1 rfl dJ5_newCapacity_0f7a4_4 ?_
  refine zz_istore_n 5 X.1 (lv' := [(2, .int (nI m0)), (0, .ref a), (1, .int (nI mn))]) dJ5_newCapacity_0f7a4_5 (by decide) rfl ?_
  refine zz_iload_n 6 X.1 2 dJ5_newCapacity_0f7a4_6 rfl ?_
  refine zz_aload_n 7 X.1 1 dJ5_newCapacity_0f7a4_7 rfl ?_
  refine zl_getS 8 X (Cn := RJ4) (ref := RJ5) (T := TJ4) (N0 := 4) (ci := 9) (by decide +kernel) rfl 0 rfl 1 (by decide) (by decide +kernel) rfl (v := .int 0) rfl dJ5_newCapacity_0f7a4_8 ?_
  refine zz_topi (nI 0) rfl ?_
  refine zz_ishl 11 X.1 (v := (nI mn)) dJ5_newCapacity_0f7a4_11 (sh_l0 _) ?_
  refine zz_istore_n 12 X.1 (lv' := [(3, .int (nI mn)), (2, .int (nI m0)), (0, .ref a), (1, .int (nI mn))]) dJ5_newCapacity_0f7a4_12 (by decide) rfl ?_
  refine zz_iload_n 13 X.1 0 dJ5_newCapacity_0f7a4_13 rfl ?_
  refine zz_iload_n 14 X.1 1 dJ5_newCapacity_0f7a4_14 rfl ?_
  refine zz_isub 15 X.1 (v := (nI (mn - m0))) dJ5_newCapacity_0f7a4_15 (pk_sub (by omega)) ?_
  refine zz_istore 16 X.1 (lv' := [(4, .int (nI (mn - m0))), (3, .int (nI mn)), (2, .int (nI m0)), (0, .ref a), (1, .int (nI mn))]) dJ5_newCapacity_0f7a4_16 (by decide) rfl ?_
  refine zz_iload_n 18 X.1 2 dJ5_newCapacity_0f7a4_18 rfl ?_
  refine zz_iload 19 X.1 0 dJ5_newCapacity_0f7a4_19 rfl ?_
  refine zz_iload_n 21 X.1 2 dJ5_newCapacity_0f7a4_21 rfl ?_
  refine zz_iconst 22 X.1 (v := nI 2) dJ5_newCapacity_0f7a4_22 rfl ?_
  refine zz_aload_n 23 X.1 3 dJ5_newCapacity_0f7a4_23 rfl ?_
  refine zl_getS 24 X (Cn := RJ4) (ref := RJ5) (T := TJ4) (N0 := 4) (ci := 9) (by decide +kernel) rfl 0 rfl 1 (by decide) (by decide +kernel) rfl (v := .int 0) rfl dJ5_newCapacity_0f7a4_24 ?_
  refine zz_topi (nI 0) rfl ?_
  refine zz_ishl 27 X.1 (v := (nI 2)) dJ5_newCapacity_0f7a4_27 (sh_l0 _) ?_
  refine zz_iadd 28 X.1 (v := (nI (m0 + 2))) dJ5_newCapacity_0f7a4_28 (nI_add _ _) ?_
  refine zz_callSNi 29 NNx_ok (show NNx _ _ from trivial) ⟨X.1.1, X.1.2, hml, X.2.2.1, X.2.1⟩ (fun q h => Or.inr h) LPw_keep (As := [.int (nI m0), .int (nI (mn - m0)), .int (nI (m0 + 2))]) (kt_J8_newLength_cabcc l m0 (mn - m0) (m0 + 2) (by first | rfl | assumption | omega) (by first | rfl | assumption | omega)) gJ5_newCapacity_0f7a4_J8_newLength_cabcc rfl ⟨rfl, rfl⟩ yd_J8_newLength_cabcc.2 ⟨Nat.le_of_ble_eq_true rfl, Nat.le_of_ble_eq_true rfl⟩ rfl rfl (Nat.le_of_ble_eq_true rfl) ⟨Nat.le_of_ble_eq_true rfl, Nat.le_of_ble_eq_true rfl⟩ dJ5_newCapacity_0f7a4_29 ?_
  intro r1 hu1
  obtain rfl := hu1
  refine zz_topi (nI 34) (congrArg nI (by omega)) ?_
  refine zz_istore 32 X.1 (lv' := [(5, .int (nI 34)), (4, .int (nI (mn - m0))), (3, .int (nI mn)), (2, .int (nI m0)), (0, .ref a), (1, .int (nI mn))]) dJ5_newCapacity_0f7a4_32 (by decide) rfl ?_
  refine zz_iload 34 X.1 0 dJ5_newCapacity_0f7a4_34 rfl ?_
  refine zz_ldci 36 X.1 (v := 2147483647) dJ5_newCapacity_0f7a4_36 X.2.2.1 (by exact (X.2.1 _ (by decide +kernel))) ?_
  refine zz_topi (nI 2147483647) (by decide) ?_
  refine zz_icmp_ne 38 51 X.1 (nI_toInt (by omega)) (nI_toInt (by omega)) dJ5_newCapacity_0f7a4_38 (by decide) (fun h38 => ?_) (fun h38 => ?_)
  · skip
    refine zz_iload 51 X.1 0 dJ5_newCapacity_0f7a4_51 rfl ?_
    refine zz_aload_n 53 X.1 4 dJ5_newCapacity_0f7a4_53 rfl ?_
    refine zl_getS 54 X (Cn := RJ4) (ref := RJ5) (T := TJ4) (N0 := 4) (ci := 9) (by decide +kernel) rfl 0 rfl 1 (by decide) (by decide +kernel) rfl (v := .int 0) rfl dJ5_newCapacity_0f7a4_54 ?_
    refine zz_topi (nI 0) rfl ?_
    refine zz_ishr 57 X.1 (v := (nI 34)) dJ5_newCapacity_0f7a4_57 (sh_r0 _) ?_
    rw [← hQ]
    refine zz_iret 58 X.1 hr rfl hlk () ?_ (fun _ h _ => h) dJ5_newCapacity_0f7a4_58
    exact rfl
  · exfalso; omega

abbrev rm_J7_copyOf_9075b : Room := { frames := 1, cells := 1, slots := 34, locals := 60 }
theorem yd_J7_copyOf_9075b : yJ7_copyOf_9075b.cls = RJ7 ∧ yJ7_copyOf_9075b.cls ≠ "java/lang/invoke/MethodHandle" ∧ yJ7_copyOf_9075b.cls ≠ "java/lang/invoke/VarHandle" ∧ (parseMethodDescriptor yJ7_copyOf_9075b.desc).map (fun d => d.parameters.length) = some 2 := by decide +kernel
set_option maxHeartbeats 4000000 in
set_option maxRecDepth 100000 in
theorem kt_J7_copyOf_9075b (l : Launch) (D : va_G) (C : Nat → ClassId) (v : Nat) (n : Nat) (m0 : Nat) (t : Nat → Nat) (hm : m0 = 16) (hn : n ≤ m0) (ht : ∀ j, t j < 128) : SLr l yJ7_copyOf_9075b wsJ7_copyOf_9075b rm_J7_copyOf_9075b D C NNx 1 34 [.ref v, .int (nI 34)] [(v, .inl (C 6, m0, .inl (tx t n)))] (fun (u : Nat) => [(v, .inl (C 6, m0, .inl (tx t n))), (u, .inl (C 6, 34, .inl (tx t n)))]) (fun u => u) (fun (u : Nat) => True) := by
  refine SLr_of (lv := [(0, .ref v), (1, .int (nI 34))]) (cc := cJ7_copyOf_9075b) (maxL := 3) (ret := (some (.array .byte))) NNx_ok rfl (by decide +kernel) (Nat.le_of_ble_eq_true rfl) rfl ?_
  intro p e s m args below meth c X hB hin2 hml hr hlk
  have hA : ∀ q, s.heap.size ≤ q → (zz_A (ZW [(v, .inl (C 6, m0, .inl (tx t n)))]) s.heap.size) q := fun q h => Or.inr h
  generalize hQ : MQ below _ args s 1 34 _ = Q
  refine zz_iload_n 0 X.1 1 dJ7_copyOf_9075b_0 rfl ?_
  refine zz_aload_n 1 X.1 0 dJ7_copyOf_9075b_1 rfl ?_
  refine zl_alen 2 X 0 rfl dJ7_copyOf_9075b_2 ?_
  refine zz_icmp_ne 3 14 X.1 (nI_toInt (by omega)) (nI_toInt (by omega)) dJ7_copyOf_9075b_3 (by decide) (fun h3 => ?_) (fun h3 => ?_)
  · skip
    refine zz_iload_n 14 X.1 1 dJ7_copyOf_9075b_14 rfl ?_
    refine zl_newa 15 X hA (atype := .byte) (ty := .byte) 6 rfl rfl (by decide +kernel) (N' := 34) (a0 := (34, .inl (fun _ => 0))) (fun _ => rfl) (by omega) (by show 34 * 1 ≤ 536870912; omega) ⟨by show 0 + 1 ≤ _; exact Nat.le_of_ble_eq_true rfl, by show 0 + 34 ≤ 34; omega⟩ dJ7_copyOf_9075b_15 (fun q1 => ?_)
    refine zz_widen (k := 1) (j := 34) (Nat.le_refl _) (by omega) ?_
    refine zz_world (P' := (LPw (zz_A (ZW [(v, .inl (C 6, m0, .inl (tx t n)))]) s.heap.size) D [(v, .inl (C 6, m0, .inl (tx t n))), (q1, .inl (C 6, 34, .inl (fun _ => 0)))])) (fun _ h => h) ?_
    refine zz_astore_n 17 X.1 (lv' := [(2, .ref q1), (0, .ref v), (1, .int (nI 34))]) dJ7_copyOf_9075b_17 (by decide) rfl ?_
    refine zz_aload_n 18 X.1 1 dJ7_copyOf_9075b_18 rfl ?_
    refine zz_iconst 19 X.1 (v := nI 0) dJ7_copyOf_9075b_19 rfl ?_
    refine zz_aload_n 20 X.1 0 dJ7_copyOf_9075b_20 rfl ?_
    refine zz_iconst 21 X.1 (v := nI 0) dJ7_copyOf_9075b_21 rfl ?_
    refine zz_aload_n 22 X.1 1 dJ7_copyOf_9075b_22 rfl ?_
    refine zl_alen 23 X 0 rfl dJ7_copyOf_9075b_23 ?_
    refine zz_iload_n 24 X.1 2 dJ7_copyOf_9075b_24 rfl ?_
    refine zz_mmin 25 X.1 hml X.2.2.1 ((X.2.1 _ (by decide +kernel))) ((X.2.1 _ (by decide +kernel))) ((X.2.1 _ (by decide +kernel))) ((X.2.1 _ (by decide +kernel))) (Nat.le_of_ble_eq_true rfl) (Nat.le_of_ble_eq_true rfl) (Nat.le_of_ble_eq_true rfl) (Nat.le_of_ble_eq_true rfl) (v := (nI m0)) dJ7_copyOf_9075b_25 (zi_of ((zi_min (nI_toInt (by omega)) (nI_toInt (by omega))).trans (by omega))) ?_
    refine zl_copy 28 X hml (by decide +kernel) (index := 150) (by decide +kernel) 0 1 (sp := 0) (dp := 0) (k := m0) rfl rfl ⟨by omega, by omega, by omega⟩ (by omega) (by omega) (fun i _ => tx_fit ht) ⟨Nat.le_of_ble_eq_true rfl, Nat.le_of_ble_eq_true rfl⟩ dJ7_copyOf_9075b_28 ?_
    refine zz_world (P' := (LPw (zz_A (ZW [(v, .inl (C 6, m0, .inl (tx t n)))]) s.heap.size) D [(v, .inl (C 6, m0, .inl (tx t n))), (q1, .inl (C 6, 34, .inl (va_cpy (tx t n) (fun _ => 0) 0 0 m0)))])) (fun _ h => h) ?_
    refine zz_world (P' := (LPw (zz_A (ZW [(v, .inl (C 6, m0, .inl (tx t n)))]) s.heap.size) D [(v, .inl (C 6, m0, .inl (tx t n))), (q1, .inl (C 6, 34, .inl (tx t n)))])) (fun _ h => by rw [tx_cpy hn] at h; exact h) ?_
    refine zz_aload_n 31 X.1 0 dJ7_copyOf_9075b_31 rfl ?_
    rw [← hQ]
    refine zz_aret 32 X.1 hr (Or.inr ⟨_, rfl⟩) hlk q1 ?_ (fun _ h _ => ⟨rfl, h⟩) dJ7_copyOf_9075b_32
    exact trivial
  · exfalso; omega

abbrev rm_J5_ensureCapacityInternal_d00df : Room := { frames := 3, cells := 1, slots := 34, locals := 82 }
theorem yd_J5_ensureCapacityInternal_d00df : yJ5_ensureCapacityInternal_d00df.cls = RJ5 ∧ yJ5_ensureCapacityInternal_d00df.cls ≠ "java/lang/invoke/MethodHandle" ∧ yJ5_ensureCapacityInternal_d00df.cls ≠ "java/lang/invoke/VarHandle" ∧ (parseMethodDescriptor yJ5_ensureCapacityInternal_d00df.desc).map (fun d => d.parameters.length) = some 1 := by decide +kernel
set_option maxHeartbeats 4000000 in
set_option maxRecDepth 100000 in
theorem kt_J5_ensureCapacityInternal_d00df (l : Launch) (D : va_G) (C : Nat → ClassId) (a : Nat) (v : Nat) (n : Nat) (m0 : Nat) (t : Nat → Nat) (mn : Nat) (hm : m0 = 16 ∨ m0 = 34) (hmn : mn ≤ 34) (hn : n ≤ m0) (ht : ∀ j, t j < 128) : SLv l yJ5_ensureCapacityInternal_d00df wsJ5_ensureCapacityInternal_d00df rm_J5_ensureCapacityInternal_d00df D C COx 1 34 [.ref a, .int (nI mn)] [(a, .inr (9, [.ref v, .int 0, .int 0, .int (nI n)])), (v, .inl (C 6, m0, .inl (tx t n)))] (fun (u : Nat × Nat) => [(a, .inr (9, [.ref u.1, .int 0, .int 0, .int (nI n)])), (u.1, .inl (C 6, u.2, .inl (tx t n)))]) (fun (u : Nat × Nat) => (u.2 = 16 ∨ u.2 = 34) ∧ mn ≤ u.2 ∧ n ≤ u.2) := by
  refine SLv_of (lv := [(0, .ref a), (1, .int (nI mn))]) (cc := cJ5_ensureCapacityInternal_d00df) (maxL := 3) (ret := none) COx_ok rfl (by decide +kernel) (Nat.le_of_ble_eq_true rfl) rfl ?_
  intro p e s m args below meth c X hB hin2 hml hr hlk
  have hA : ∀ q, s.heap.size ≤ q → (zz_A (ZW [(a, .inr (9, [.ref v, .int 0, .int 0, .int (nI n)])), (v, .inl (C 6, m0, .inl (tx t n)))]) s.heap.size) q := fun q h => Or.inr h
  generalize hQ : MQ below _ args s 1 34 _ = Q
  refine zz_aload_n 0 X.1 0 dJ5_ensureCapacityInternal_d00df_0 rfl ?_
  refine zl_getS 1 X (Cn := RJ4) (ref := RJ5) (T := TJ4) (N0 := 4) (ci := 9) (by decide +kernel) rfl 0 rfl 0 (by decide) (by decide +kernel) rfl (v := .ref v) rfl dJ5_ensureCapacityInternal_d00df_1 ?_
  refine zl_alen 4 X 1 rfl dJ5_ensureCapacityInternal_d00df_4 ?_
  refine zz_aload_n 5 X.1 0 dJ5_ensureCapacityInternal_d00df_5 rfl ?_
  refine zl_getS 6 X (Cn := RJ4) (ref := RJ5) (T := TJ4) (N0 := 4) (ci := 9) (by decide +kernel) rfl 0 rfl 1 (by decide) (by decide +kernel) rfl (v := .int 0) rfl dJ5_ensureCapacityInternal_d00df_6 ?_
  refine zz_topi (nI 0) rfl ?_
  refine zz_ishr 9 X.1 (v := (nI m0)) dJ5_ensureCapacityInternal_d00df_9 (sh_r0 _) ?_
  refine zz_istore_n 10 X.1 (lv' := [(2, .int (nI m0)), (0, .ref a), (1, .int (nI mn))]) dJ5_ensureCapacityInternal_d00df_10 (by decide) rfl ?_
  refine zz_iload_n 11 X.1 2 dJ5_ensureCapacityInternal_d00df_11 rfl ?_
  refine zz_iload_n 12 X.1 0 dJ5_ensureCapacityInternal_d00df_12 rfl ?_
  refine zz_isub 13 X.1 (v := (nI mn - nI m0)) dJ5_ensureCapacityInternal_d00df_13 rfl ?_
  refine zz_if_le 14 38 X.1 (zi_subN (by omega) (by omega)) dJ5_ensureCapacityInternal_d00df_14 (by decide) (fun h14 => ?_) (fun h14 => ?_)
  · skip
    rw [← hQ]
    refine zz_widen (k := 1) (j := 34) (by decide) (by decide) ?_
    refine zz_vret 38 X.1 hr hlk (v, m0) ?_ (fun _ h _ => h) dJ5_ensureCapacityInternal_d00df_38
    exact ⟨by omega, by omega, by omega⟩
  · skip
    refine zz_aload_n 17 X.1 1 dJ5_ensureCapacityInternal_d00df_17 rfl ?_
    refine zz_aload_n 18 X.1 1 dJ5_ensureCapacityInternal_d00df_18 rfl ?_
    refine zl_getS 19 X (Cn := RJ4) (ref := RJ5) (T := TJ4) (N0 := 4) (ci := 9) (by decide +kernel) rfl 0 rfl 0 (by decide) (by decide +kernel) rfl (v := .ref v) rfl dJ5_ensureCapacityInternal_d00df_19 ?_
    refine zz_aload_n 22 X.1 1 dJ5_ensureCapacityInternal_d00df_22 rfl ?_
    refine zz_iload_n 23 X.1 2 dJ5_ensureCapacityInternal_d00df_23 rfl ?_
    refine sl_callUi 24 X hml hA COx_ok hB (R0 := []) (As := [.int (nI mn)]) (Cn := RJ4) (owner := "java/lang/AbstractStringBuilder") (yx := ⟨"java/lang/AbstractStringBuilder", "newCapacity", "(I)I"⟩) (na := 1) (kt_J5_newCapacity_0f7a4 l D C a v n m0 t mn (by first | rfl | assumption | omega) (by first | rfl | assumption | omega)) gJ5_ensureCapacityInternal_d00df_J5_newCapacity_0f7a4_u104J4 rfl ⟨rfl, rfl⟩ rfl (by decide +kernel) ⟨Nat.le_of_ble_eq_true rfl, Nat.le_of_ble_eq_true rfl⟩ (fun H locs hP hS => va_recv X.2.2.2 hP.1 (ci := 9) (q0 := 0) rfl rfl) rfl rfl (Nat.le_of_ble_eq_true rfl) ⟨Nat.le_of_ble_eq_true rfl, Nat.le_of_ble_eq_true rfl⟩ dJ5_ensureCapacityInternal_d00df_24 ?_
    rintro r1 _ rfl
    refine zz_world (P' := (LPw (zz_A (ZW [(a, .inr (9, [.ref v, .int 0, .int 0, .int (nI n)])), (v, .inl (C 6, m0, .inl (tx t n)))]) s.heap.size) D [(a, .inr (9, [.ref v, .int 0, .int 0, .int (nI n)])), (v, .inl (C 6, m0, .inl (tx t n)))])) (fun _ h => h) ?_
    refine zz_aload_n 27 X.1 1 dJ5_ensureCapacityInternal_d00df_27 rfl ?_
    refine zl_getS 28 X (Cn := RJ4) (ref := RJ5) (T := TJ4) (N0 := 4) (ci := 9) (by decide +kernel) rfl 0 rfl 1 (by decide) (by decide +kernel) rfl (v := .int 0) rfl dJ5_ensureCapacityInternal_d00df_28 ?_
    refine zz_topi (nI 0) rfl ?_
    refine zz_ishl 31 X.1 (v := (nI 34)) dJ5_ensureCapacityInternal_d00df_31 (sh_l0 _) ?_
    refine sl_callSr 32 X hml hA NNx_ok (show NNx _ _ from trivial) (R0 := [(a, .inr (9, [.ref v, .int 0, .int 0, .int (nI n)]))]) (As := [.ref v, .int (nI 34)]) (kt_J7_copyOf_9075b l D C v n m0 t (by first | rfl | assumption | omega) (by first | rfl | assumption | omega) (by first | rfl | assumption | omega)) gJ5_ensureCapacityInternal_d00df_J7_copyOf_9075b rfl ⟨rfl, rfl⟩ yd_J7_copyOf_9075b.2 ⟨Nat.le_of_ble_eq_true rfl, Nat.le_of_ble_eq_true rfl⟩ rfl rfl (Nat.le_of_ble_eq_true rfl) ⟨Nat.le_of_ble_eq_true rfl, Nat.le_of_ble_eq_true rfl⟩ dJ5_ensureCapacityInternal_d00df_32 ?_
    rintro w2 _
    refine zz_world (P' := (LPw (zz_A (ZW [(a, .inr (9, [.ref v, .int 0, .int 0, .int (nI n)])), (v, .inl (C 6, m0, .inl (tx t n)))]) s.heap.size) D [(a, .inr (9, [.ref v, .int 0, .int 0, .int (nI n)])), (v, .inl (C 6, m0, .inl (tx t n))), (w2, .inl (C 6, 34, .inl (tx t n)))])) (fun _ h => h) ?_
    refine zl_putS 35 X (Cn := RJ4) (ref := RJ5) (T := TJ4) (N0 := 4) (ci := 9) (ty := (.array .byte)) (by decide +kernel) tyJ4 tyJ4_ok nmJ4 rfl 0 rfl 0 (by decide) (by decide +kernel) rfl rfl (v := .ref w2) (by decide +kernel) rfl rfl (show 0 < 4 by decide) dJ5_ensureCapacityInternal_d00df_35 ?_
    refine zz_world (P' := (LPw (zz_A (ZW [(a, .inr (9, [.ref v, .int 0, .int 0, .int (nI n)])), (v, .inl (C 6, m0, .inl (tx t n)))]) s.heap.size) D [(a, .inr (9, [.ref w2, .int 0, .int 0, .int (nI n)])), (v, .inl (C 6, m0, .inl (tx t n))), (w2, .inl (C 6, 34, .inl (tx t n)))])) (fun _ h => h) ?_
    refine zl_sub [0, 2] (ws' := [(a, .inr (9, [.ref w2, .int 0, .int 0, .int (nI n)])), (w2, .inl (C 6, 34, .inl (tx t n)))]) rfl rfl rfl ?_
    rw [← hQ]
    refine zz_vret 38 X.1 hr hlk (w2, 34) ?_ (fun _ h _ => h) dJ5_ensureCapacityInternal_d00df_38
    exact ⟨by omega, by omega, by omega⟩

abbrev rm_J5_isLatin1_aae02 : Room := { frames := 0, cells := 0, slots := 0, locals := 0 }
theorem yd_J5_isLatin1_aae02 : yJ5_isLatin1_aae02.cls = RJ5 ∧ yJ5_isLatin1_aae02.cls ≠ "java/lang/invoke/MethodHandle" ∧ yJ5_isLatin1_aae02.cls ≠ "java/lang/invoke/VarHandle" ∧ (parseMethodDescriptor yJ5_isLatin1_aae02.desc).map (fun d => d.parameters.length) = some 0 := by decide +kernel
set_option maxHeartbeats 4000000 in
set_option maxRecDepth 100000 in
theorem kt_J5_isLatin1_aae02 (l : Launch) (D : va_G) (C : Nat → ClassId) (a : Nat) (v : Nat) (n : Nat) (m0 : Nat) (t : Nat → Nat)  : SLi l yJ5_isLatin1_aae02 wsJ5_isLatin1_aae02 rm_J5_isLatin1_aae02 D C COx 0 0 [.ref a] [(a, .inr (9, [.ref v, .int 0, .int 0, .int (nI n)])), (v, .inl (C 6, m0, .inl (tx t n)))] (fun (_ : Unit) => [(a, .inr (9, [.ref v, .int 0, .int 0, .int (nI n)])), (v, .inl (C 6, m0, .inl (tx t n)))]) (fun (r : Int32) (u : Unit) => r = (bI true)) := by
  refine SLi_of (lv := [(0, .ref a)]) (cc := cJ5_isLatin1_aae02) (maxL := 1) (ret := (some .boolean)) COx_ok rfl (by decide +kernel) (Nat.le_of_ble_eq_true rfl) rfl ?_
  intro p e s m args below meth c X hB hin2 hml hr hlk
  have hA : ∀ q, s.heap.size ≤ q → (zz_A (ZW [(a, .inr (9, [.ref v, .int 0, .int 0, .int (nI n)])), (v, .inl (C 6, m0, .inl (tx t n)))]) s.heap.size) q := fun q h => Or.inr h
  generalize hQ : MQ below _ args s 0 0 _ = Q
  refine zs_getsG 0 X.1 X.2.2.1 hB ((X.2.1 _ (by decide +kernel))) dJ5_isLatin1_aae02_0 ?_
  refine zz_topi (nI 1) rfl ?_
  refine zz_if_eq 3 17 X.1 (nI_toInt (by omega)) dJ5_isLatin1_aae02_3 (by decide) (fun h3 => ?_) (fun h3 => ?_)
  · exfalso; omega
  · skip
    refine zz_aload_n 6 X.1 0 dJ5_isLatin1_aae02_6 rfl ?_
    refine zl_getS 7 X (Cn := RJ4) (ref := RJ5) (T := TJ4) (N0 := 4) (ci := 9) (by decide +kernel) rfl 0 rfl 1 (by decide) (by decide +kernel) rfl (v := .int 0) rfl dJ5_isLatin1_aae02_7 ?_
    refine zz_topi (nI 0) rfl ?_
    refine zz_if_ne 10 17 X.1 (nI_toInt (by omega)) dJ5_isLatin1_aae02_10 (by decide) (fun h10 => ?_) (fun h10 => ?_)
    · exfalso; omega
    · skip
      refine zz_iconst 13 X.1 (v := nI 1) dJ5_isLatin1_aae02_13 rfl ?_
      refine zz_goto 14 18 X.1 dJ5_isLatin1_aae02_14 (by decide) ?_
      refine zz_topi (bI true) rfl ?_
      rw [← hQ]
      refine zz_iret 18 X.1 hr (bI_nar _) hlk () ?_ (fun _ h _ => h) dJ5_isLatin1_aae02_18
      exact rfl

abbrev rm_J1_canEncode_fc78d : Room := { frames := 0, cells := 0, slots := 0, locals := 0 }
theorem yd_J1_canEncode_fc78d : yJ1_canEncode_fc78d.cls = RJ1 ∧ yJ1_canEncode_fc78d.cls ≠ "java/lang/invoke/MethodHandle" ∧ yJ1_canEncode_fc78d.cls ≠ "java/lang/invoke/VarHandle" ∧ (parseMethodDescriptor yJ1_canEncode_fc78d.desc).map (fun d => d.parameters.length) = some 1 := by decide +kernel
set_option maxHeartbeats 4000000 in
set_option maxRecDepth 100000 in
theorem kt_J1_canEncode_fc78d (l : Launch) (x : Nat) (hx : x < 128) : NSi l yJ1_canEncode_fc78d wsJ1_canEncode_fc78d rm_J1_canEncode_fc78d NNx [.int (nI x)] (fun (r : Int32) => r = (bI true)) := by
  refine NSi_of (lv := [(0, .int (nI x))]) (cc := cJ1_canEncode_fc78d) (maxL := 1) (ret := (some .boolean)) NNx_ok rfl (by decide +kernel) (Nat.le_of_ble_eq_true rfl) rfl ?_
  intro p e s m args below meth c hc hts hown hB hml hr hlk
  have X : (p.tables.exec = Jvm.exec ∧ c.code = cJ1_canEncode_fc78d) ∧ True := ⟨hc, trivial⟩
  generalize hQ : MQ below _ args s 0 0 _ = Q
  refine zz_iload_n 0 X.1 0 dJ1_canEncode_fc78d_0 rfl ?_
  refine zz_sipush 1 X.1 (v := nI 255) dJ1_canEncode_fc78d_1 rfl ?_
  refine zz_icmp_gt 4 11 X.1 (nI_toInt (by omega)) (nI_toInt (by omega)) dJ1_canEncode_fc78d_4 (by decide) (fun h4 => ?_) (fun h4 => ?_)
  · exfalso; omega
  · skip
    refine zz_iconst 7 X.1 (v := nI 1) dJ1_canEncode_fc78d_7 rfl ?_
    refine zz_goto 8 12 X.1 dJ1_canEncode_fc78d_8 (by decide) ?_
    refine zz_topi (bI true) rfl ?_
    rw [← hQ]
    refine zz_iret 12 X.1 hr (bI_nar _) hlk () ?_ (fun _ _ _ => trivial) dJ1_canEncode_fc78d_12
    exact rfl

abbrev rm_J5_append_3fe6f : Room := { frames := 4, cells := 1, slots := 34, locals := 104 }
theorem yd_J5_append_3fe6f : yJ5_append_3fe6f.cls = RJ5 ∧ yJ5_append_3fe6f.cls ≠ "java/lang/invoke/MethodHandle" ∧ yJ5_append_3fe6f.cls ≠ "java/lang/invoke/VarHandle" ∧ (parseMethodDescriptor yJ5_append_3fe6f.desc).map (fun d => d.parameters.length) = some 1 := by decide +kernel
set_option maxHeartbeats 4000000 in
set_option maxRecDepth 100000 in
theorem kt_J5_append_3fe6f (l : Launch) (D : va_G) (C : Nat → ClassId) (a : Nat) (v : Nat) (n : Nat) (m0 : Nat) (t : Nat → Nat) (x : Nat) (hm : m0 = 16 ∨ m0 = 34) (hn : n ≤ m0) (hw : n + 1 ≤ 34) (ht : ∀ j, t j < 128) (hx : x < 128) : SLr l yJ5_append_3fe6f wsJ5_append_3fe6f rm_J5_append_3fe6f D C COx 1 34 [.ref a, .int (nI x)] [(a, .inr (9, [.ref v, .int 0, .int 0, .int (nI n)])), (v, .inl (C 6, m0, .inl (tx t n)))] (fun (u : Nat × Nat) => [(a, .inr (9, [.ref u.1, .int 0, .int 0, .int (nI (n + 1))])), (u.1, .inl (C 6, u.2, .inl (tx (cat t n (fun _ => x)) (n + 1))))]) (fun u => a) (fun (u : Nat × Nat) => (u.2 = 16 ∨ u.2 = 34) ∧ n + 1 ≤ u.2) := by
  refine SLr_of (lv := [(0, .ref a), (1, .int (nI x))]) (cc := cJ5_append_3fe6f) (maxL := 2) (ret := (some (.object "java/lang/AbstractStringBuilder"))) COx_ok rfl (by decide +kernel) (Nat.le_of_ble_eq_true rfl) rfl ?_
  intro p e s m args below meth c X hB hin2 hml hr hlk
  have hA : ∀ q, s.heap.size ≤ q → (zz_A (ZW [(a, .inr (9, [.ref v, .int 0, .int 0, .int (nI n)])), (v, .inl (C 6, m0, .inl (tx t n)))]) s.heap.size) q := fun q h => Or.inr h
  generalize hQ : MQ below _ args s 1 34 _ = Q
  refine zz_aload_n 0 X.1 0 dJ5_append_3fe6f_0 rfl ?_
  refine zz_aload_n 1 X.1 0 dJ5_append_3fe6f_1 rfl ?_
  refine zl_getS 2 X (Cn := RJ4) (ref := RJ5) (T := TJ4) (N0 := 4) (ci := 9) (by decide +kernel) rfl 0 rfl 3 (by decide) (by decide +kernel) rfl (v := .int (nI n)) rfl dJ5_append_3fe6f_2 ?_
  refine zz_iconst 5 X.1 (v := nI 1) dJ5_append_3fe6f_5 rfl ?_
  refine zz_iadd 6 X.1 (v := (nI (n + 1))) dJ5_append_3fe6f_6 (nI_add _ _) ?_
  refine sl_callUv 7 X hml hA COx_ok hB (R0 := []) (As := [.int (nI (n + 1))]) (Cn := RJ4) (owner := "java/lang/AbstractStringBuilder") (yx := ⟨"java/lang/AbstractStringBuilder", "ensureCapacityInternal", "(I)V"⟩) (na := 1) (kt_J5_ensureCapacityInternal_d00df l D C a v n m0 t (n + 1) (by first | rfl | assumption | omega) (by first | rfl | assumption | omega) (by first | rfl | assumption | omega) (by first | rfl | assumption | omega)) gJ5_append_3fe6f_J5_ensureCapacityInternal_d00df_u100J4 rfl ⟨rfl, rfl⟩ rfl (by decide +kernel) ⟨Nat.le_of_ble_eq_true rfl, Nat.le_of_ble_eq_true rfl⟩ (fun H locs hP hS => va_recv X.2.2.2 hP.1 (ci := 9) (q0 := 0) rfl rfl) rfl rfl (Nat.le_of_ble_eq_true rfl) ⟨Nat.le_of_ble_eq_true rfl, Nat.le_of_ble_eq_true rfl⟩ dJ5_append_3fe6f_7 ?_
  rintro ⟨w1, k1⟩ ⟨hf1_0, hf1_1, hf1_2⟩
  refine zz_world (P' := (LPw (zz_A (ZW [(a, .inr (9, [.ref v, .int 0, .int 0, .int (nI n)])), (v, .inl (C 6, m0, .inl (tx t n)))]) s.heap.size) D [(a, .inr (9, [.ref w1, .int 0, .int 0, .int (nI n)])), (w1, .inl (C 6, k1, .inl (tx t n)))])) (fun _ h => h) ?_
  refine zz_aload_n 10 X.1 0 dJ5_append_3fe6f_10 rfl ?_
  refine sl_callUi 11 X hml hA COx_ok hB (R0 := []) (As := []) (Cn := RJ4) (owner := "java/lang/AbstractStringBuilder") (yx := ⟨"java/lang/AbstractStringBuilder", "isLatin1", "()Z"⟩) (na := 0) (kt_J5_isLatin1_aae02 l D C a w1 n k1 t ) gJ5_append_3fe6f_J5_isLatin1_aae02_u83J4 rfl ⟨rfl, rfl⟩ rfl (by decide +kernel) ⟨Nat.le_of_ble_eq_true rfl, Nat.le_of_ble_eq_true rfl⟩ (fun H locs hP hS => va_recv X.2.2.2 hP.1 (ci := 9) (q0 := 0) rfl rfl) rfl rfl (Nat.le_of_ble_eq_true rfl) ⟨Nat.le_of_ble_eq_true rfl, Nat.le_of_ble_eq_true rfl⟩ dJ5_append_3fe6f_11 ?_
  rintro r2 _ rfl
  refine zz_world (P' := (LPw (zz_A (ZW [(a, .inr (9, [.ref v, .int 0, .int 0, .int (nI n)])), (v, .inl (C 6, m0, .inl (tx t n)))]) s.heap.size) D [(a, .inr (9, [.ref w1, .int 0, .int 0, .int (nI n)])), (w1, .inl (C 6, k1, .inl (tx t n)))])) (fun _ h => h) ?_
  refine zz_ifB_eq 14 45 X.1 dJ5_append_3fe6f_14 (by decide) (fun h14 => ?_) (fun h14 => ?_)
  · exact absurd h14 (by decide)
  · skip
    refine zz_iload_n 17 X.1 1 dJ5_append_3fe6f_17 rfl ?_
    refine zz_callSNi 18 NNx_ok (show NNx _ _ from trivial) ⟨X.1.1, X.1.2, hml, X.2.2.1, X.2.1⟩ (fun q h => Or.inr h) LPw_keep (As := [.int (nI x)]) (kt_J1_canEncode_fc78d l x (by first | rfl | assumption | omega)) gJ5_append_3fe6f_J1_canEncode_fc78d rfl ⟨rfl, rfl⟩ yd_J1_canEncode_fc78d.2 ⟨Nat.le_of_ble_eq_true rfl, Nat.le_of_ble_eq_true rfl⟩ rfl rfl (Nat.le_of_ble_eq_true rfl) ⟨Nat.le_of_ble_eq_true rfl, Nat.le_of_ble_eq_true rfl⟩ dJ5_append_3fe6f_18 ?_
    intro r3 hu3
    obtain rfl := hu3
    refine zz_ifB_eq 21 45 X.1 dJ5_append_3fe6f_21 (by decide) (fun h21 => ?_) (fun h21 => ?_)
    · exact absurd h21 (by decide)
    · skip
      refine zz_aload_n 24 X.1 0 dJ5_append_3fe6f_24 rfl ?_
      refine zl_getS 25 X (Cn := RJ4) (ref := RJ5) (T := TJ4) (N0 := 4) (ci := 9) (by decide +kernel) rfl 0 rfl 0 (by decide) (by decide +kernel) rfl (v := .ref w1) rfl dJ5_append_3fe6f_25 ?_
      refine zz_aload_n 28 X.1 0 dJ5_append_3fe6f_28 rfl ?_
      refine zz_dup 29 X.1 dJ5_append_3fe6f_29 rfl ?_
      refine zl_getS 30 X (Cn := RJ4) (ref := RJ5) (T := TJ4) (N0 := 4) (ci := 9) (by decide +kernel) rfl 0 rfl 3 (by decide) (by decide +kernel) rfl (v := .int (nI n)) rfl dJ5_append_3fe6f_30 ?_
      refine zz_dup_x1 33 X.1 dJ5_append_3fe6f_33 rfl rfl ?_
      refine zz_iconst 34 X.1 (v := nI 1) dJ5_append_3fe6f_34 rfl ?_
      refine zz_iadd 35 X.1 (v := (nI (n + 1))) dJ5_append_3fe6f_35 (nI_add _ _) ?_
      refine zl_putS 36 X (Cn := RJ4) (ref := RJ5) (T := TJ4) (N0 := 4) (ci := 9) (ty := .int) (by decide +kernel) tyJ4 tyJ4_ok nmJ4 rfl 0 rfl 3 (by decide) (by decide +kernel) rfl rfl (v := .int (nI (n + 1))) (by decide +kernel) rfl rfl (show 3 < 4 by decide) dJ5_append_3fe6f_36 ?_
      refine zz_world (P' := (LPw (zz_A (ZW [(a, .inr (9, [.ref v, .int 0, .int 0, .int (nI n)])), (v, .inl (C 6, m0, .inl (tx t n)))]) s.heap.size) D [(a, .inr (9, [.ref w1, .int 0, .int 0, .int (nI (n + 1))])), (w1, .inl (C 6, k1, .inl (tx t n)))])) (fun _ h => h) ?_
      refine zz_iload_n 39 X.1 1 dJ5_append_3fe6f_39 rfl ?_
      refine zz_i2b 40 X.1 (v := (nI x)) dJ5_append_3fe6f_40 (ch_i2b _ hx) ?_
      refine zl_bast 41 X 1 rfl (i := n) (by omega) (by omega) (y := nI x) (bt_nar _ (by omega)) dJ5_append_3fe6f_41 ?_
      refine zz_world (P' := (LPw (zz_A (ZW [(a, .inr (9, [.ref v, .int 0, .int 0, .int (nI n)])), (v, .inl (C 6, m0, .inl (tx t n)))]) s.heap.size) D [(a, .inr (9, [.ref w1, .int 0, .int 0, .int (nI (n + 1))])), (w1, .inl (C 6, k1, .inl (upd (tx t n) n (nI x))))])) (fun _ h => h) ?_
      refine zz_world (P' := (LPw (zz_A (ZW [(a, .inr (9, [.ref v, .int 0, .int 0, .int (nI n)])), (v, .inl (C 6, m0, .inl (tx t n)))]) s.heap.size) D [(a, .inr (9, [.ref w1, .int 0, .int 0, .int (nI (n + 1))])), (w1, .inl (C 6, k1, .inl (tx (cat t n (fun _ => x)) (n + 1))))])) (fun _ h => by rw [tx_put] at h; exact h) ?_
      refine zz_goto 42 75 X.1 dJ5_append_3fe6f_42 (by decide) ?_
      refine zz_aload_n 75 X.1 0 dJ5_append_3fe6f_75 rfl ?_
      rw [← hQ]
      refine zz_aret 76 X.1 hr (Or.inl ⟨_, rfl⟩) hlk (w1, k1) ?_ (fun _ h _ => ⟨rfl, h⟩) dJ5_append_3fe6f_76
      exact ⟨by omega, by omega⟩

abbrev rm_J0_getBytes_840e7 : Room := { frames := 1, cells := 0, slots := 0, locals := 60 }
theorem yd_J0_getBytes_840e7 : yJ0_getBytes_840e7.cls = RJ0 ∧ yJ0_getBytes_840e7.cls ≠ "java/lang/invoke/MethodHandle" ∧ yJ0_getBytes_840e7.cls ≠ "java/lang/invoke/VarHandle" ∧ (parseMethodDescriptor yJ0_getBytes_840e7.desc).map (fun d => d.parameters.length) = some 3 := by decide +kernel
set_option maxHeartbeats 4000000 in
set_option maxRecDepth 100000 in
theorem kt_J0_getBytes_840e7 (l : Launch) (D : va_G) (C : Nat → ClassId) (v : Nat) (n : Nat) (m0 : Nat) (t : Nat → Nat) (a2 : Nat) (v2 : Nat) (q : Nat) (f : Nat → Int32) (u0 : Nat → Nat) (hm : n + q ≤ m0 ∧ m0 < 1000) (ht : ∀ j, t j < 128) (hu : ∀ j, u0 j < 128) (hfu : ∀ j, j < q → f j = nI (u0 j)) : SLv l yJ0_getBytes_840e7 wsJ0_getBytes_840e7 rm_J0_getBytes_840e7 D C (STx a2 v2 q f) 0 0 [.ref a2, .ref v, .int (nI n), .int (nI 0)] [(v, .inl (C 6, m0, .inl (tx t n)))] (fun (_ : Unit) => [(v, .inl (C 6, m0, .inl (tx (cat t n u0) (n + q))))]) (fun (u : Unit) => True) := by
  refine SLv_of (lv := [(0, .ref a2), (1, .ref v), (2, .int (nI n)), (3, .int (nI 0))]) (cc := cJ0_getBytes_840e7) (maxL := 4) (ret := none) STx_ok rfl (by decide +kernel) (Nat.le_of_ble_eq_true rfl) rfl ?_
  intro p e s m args below meth c X hB hin2 hml hr hlk
  have hA : ∀ q, s.heap.size ≤ q → (zz_A (ZW [(v, .inl (C 6, m0, .inl (tx t n)))]) s.heap.size) q := fun q h => Or.inr h
  generalize hQ : MQ below _ args s 0 0 _ = Q
  refine zz_aload_n 0 X.1 0 dJ0_getBytes_840e7_0 rfl ?_
  refine zz_callVNi 1 STx_ok hB ⟨X.1.1, X.1.2, hml, X.2.2.1, X.2.1⟩ (fun q h => Or.inr h) LPw_keep (As := []) (kt_J0_coder_s l a2 v2 q f ) (hB.1.1) gJ0_getBytes_840e7_J0_coder_7d493 rfl ⟨rfl, rfl⟩ yd_J0_coder_7d493 ⟨Nat.le_of_ble_eq_true rfl, Nat.le_of_ble_eq_true rfl⟩ rfl rfl (Nat.le_of_ble_eq_true rfl) ⟨Nat.le_of_ble_eq_true rfl, Nat.le_of_ble_eq_true rfl⟩ dJ0_getBytes_840e7_1 ?_
  intro r1 hu1
  obtain rfl := hu1
  refine zz_iload_n 4 X.1 3 dJ0_getBytes_840e7_4 rfl ?_
  refine zz_icmp_ne 5 28 X.1 (nI_toInt (by omega)) (nI_toInt (by omega)) dJ0_getBytes_840e7_5 (by decide) (fun h5 => ?_) (fun h5 => ?_)
  · exfalso; omega
  · skip
    refine zz_aload_n 8 X.1 0 dJ0_getBytes_840e7_8 rfl ?_
    refine zs_getf 9 X.1 X.2.2.1 hB.1.2.2.1 ((X.2.1 _ (by decide +kernel))) dJ0_getBytes_840e7_9 ?_
    refine zz_iconst 12 X.1 (v := nI 0) dJ0_getBytes_840e7_12 rfl ?_
    refine zz_aload_n 13 X.1 1 dJ0_getBytes_840e7_13 rfl ?_
    refine zz_iload_n 14 X.1 2 dJ0_getBytes_840e7_14 rfl ?_
    refine zz_iload_n 15 X.1 3 dJ0_getBytes_840e7_15 rfl ?_
    refine zz_ishl 16 X.1 (v := (nI n)) dJ0_getBytes_840e7_16 (sh_l0 _) ?_
    refine zz_aload_n 17 X.1 0 dJ0_getBytes_840e7_17 rfl ?_
    refine zs_getf 18 X.1 X.2.2.1 hB.1.2.2.1 ((X.2.1 _ (by decide +kernel))) dJ0_getBytes_840e7_18 ?_
    refine zs_tlen 21 X.1 hB.1.2.2.2 (v := nI q) rfl dJ0_getBytes_840e7_21 ?_
    refine zl_copyt 22 X hml (by decide +kernel) (index := 212) (by decide +kernel) 0 (sp := 0) (dp := n) (k := q) hB.1.2.2.2 rfl ⟨by omega, by omega, by omega⟩ (by omega) (by omega) (fun i hi => by rw [hfu (0 + i) (by omega)]; exact bt_fit _ (hu _)) ⟨Nat.le_of_ble_eq_true rfl, Nat.le_of_ble_eq_true rfl⟩ dJ0_getBytes_840e7_22 ?_
    refine zz_world (P' := (LPw (zz_A (ZW [(v, .inl (C 6, m0, .inl (tx t n)))]) s.heap.size) D [(v, .inl (C 6, m0, .inl (va_cpy f (tx t n) 0 n q)))])) (fun _ h => h) ?_
    refine zz_world (P' := (LPw (zz_A (ZW [(v, .inl (C 6, m0, .inl (tx t n)))]) s.heap.size) D [(v, .inl (C 6, m0, .inl (tx (cat t n u0) (n + q))))])) (fun _ h => by rw [tx_app hfu] at h; exact h) ?_
    refine zz_goto 25 43 X.1 dJ0_getBytes_840e7_25 (by decide) ?_
    rw [← hQ]
    refine zz_vret 43 X.1 hr hlk () ?_ (fun _ h _ => h) dJ0_getBytes_840e7_43
    exact trivial

abbrev rm_J5_inflateIfNeededFor_a7421 : Room := { frames := 1, cells := 0, slots := 0, locals := 20 }
theorem yd_J5_inflateIfNeededFor_a7421 : yJ5_inflateIfNeededFor_a7421.cls = RJ5 ∧ yJ5_inflateIfNeededFor_a7421.cls ≠ "java/lang/invoke/MethodHandle" ∧ yJ5_inflateIfNeededFor_a7421.cls ≠ "java/lang/invoke/VarHandle" ∧ (parseMethodDescriptor yJ5_inflateIfNeededFor_a7421.desc).map (fun d => d.parameters.length) = some 1 := by decide +kernel
set_option maxHeartbeats 4000000 in
set_option maxRecDepth 100000 in
theorem kt_J5_inflateIfNeededFor_a7421 (l : Launch) (D : va_G) (C : Nat → ClassId) (a : Nat) (v : Nat) (n : Nat) (m0 : Nat) (t : Nat → Nat) (a2 : Nat) (v2 : Nat) (q : Nat) (f : Nat → Int32)  : SLv l yJ5_inflateIfNeededFor_a7421 wsJ5_inflateIfNeededFor_a7421 rm_J5_inflateIfNeededFor_a7421 D C (STx a2 v2 q f) 0 0 [.ref a, .ref a2] [(a, .inr (9, [.ref v, .int 0, .int 0, .int (nI n)])), (v, .inl (C 6, m0, .inl (tx t n)))] (fun (_ : Unit) => [(a, .inr (9, [.ref v, .int 0, .int 0, .int (nI n)])), (v, .inl (C 6, m0, .inl (tx t n)))]) (fun (u : Unit) => True) := by
  refine SLv_of (lv := [(0, .ref a), (1, .ref a2)]) (cc := cJ5_inflateIfNeededFor_a7421) (maxL := 2) (ret := none) STx_ok rfl (by decide +kernel) (Nat.le_of_ble_eq_true rfl) rfl ?_
  intro p e s m args below meth c X hB hin2 hml hr hlk
  have hA : ∀ q, s.heap.size ≤ q → (zz_A (ZW [(a, .inr (9, [.ref v, .int 0, .int 0, .int (nI n)])), (v, .inl (C 6, m0, .inl (tx t n)))]) s.heap.size) q := fun q h => Or.inr h
  generalize hQ : MQ below _ args s 0 0 _ = Q
  refine zs_getsG 0 X.1 X.2.2.1 hB.2 ((X.2.1 _ (by decide +kernel))) dJ5_inflateIfNeededFor_a7421_0 ?_
  refine zz_topi (nI 1) rfl ?_
  refine zz_if_eq 3 21 X.1 (nI_toInt (by omega)) dJ5_inflateIfNeededFor_a7421_3 (by decide) (fun h3 => ?_) (fun h3 => ?_)
  · exfalso; omega
  · skip
    refine zz_aload_n 6 X.1 0 dJ5_inflateIfNeededFor_a7421_6 rfl ?_
    refine zl_getS 7 X (Cn := RJ4) (ref := RJ5) (T := TJ4) (N0 := 4) (ci := 9) (by decide +kernel) rfl 0 rfl 1 (by decide) (by decide +kernel) rfl (v := .int 0) rfl dJ5_inflateIfNeededFor_a7421_7 ?_
    refine zz_topi (nI 0) rfl ?_
    refine zz_aload_n 10 X.1 1 dJ5_inflateIfNeededFor_a7421_10 rfl ?_
    refine zz_callVNi 11 STx_ok hB ⟨X.1.1, X.1.2, hml, X.2.2.1, X.2.1⟩ (fun q h => Or.inr h) LPw_keep (As := []) (kt_J0_coder_s l a2 v2 q f ) (hB.1.1) gJ5_inflateIfNeededFor_a7421_J0_coder_7d493 rfl ⟨rfl, rfl⟩ yd_J0_coder_7d493 ⟨Nat.le_of_ble_eq_true rfl, Nat.le_of_ble_eq_true rfl⟩ rfl rfl (Nat.le_of_ble_eq_true rfl) ⟨Nat.le_of_ble_eq_true rfl, Nat.le_of_ble_eq_true rfl⟩ dJ5_inflateIfNeededFor_a7421_11 ?_
    intro r1 hu1
    obtain rfl := hu1
    refine zz_icmp_eq 14 21 X.1 (nI_toInt (by omega)) (nI_toInt (by omega)) dJ5_inflateIfNeededFor_a7421_14 (by decide) (fun h14 => ?_) (fun h14 => ?_)
    · skip
      rw [← hQ]
      refine zz_vret 21 X.1 hr hlk () ?_ (fun _ h _ => h) dJ5_inflateIfNeededFor_a7421_21
      exact trivial
    · exfalso; omega

abbrev rm_J5_putStringAt_47b60 : Room := { frames := 2, cells := 0, slots := 0, locals := 83 }
theorem yd_J5_putStringAt_47b60 : yJ5_putStringAt_47b60.cls = RJ5 ∧ yJ5_putStringAt_47b60.cls ≠ "java/lang/invoke/MethodHandle" ∧ yJ5_putStringAt_47b60.cls ≠ "java/lang/invoke/VarHandle" ∧ (parseMethodDescriptor yJ5_putStringAt_47b60.desc).map (fun d => d.parameters.length) = some 2 := by decide +kernel
set_option maxHeartbeats 4000000 in
set_option maxRecDepth 100000 in
theorem kt_J5_putStringAt_47b60 (l : Launch) (D : va_G) (C : Nat → ClassId) (a : Nat) (v : Nat) (n : Nat) (m0 : Nat) (t : Nat → Nat) (a2 : Nat) (v2 : Nat) (q : Nat) (f : Nat → Int32) (u0 : Nat → Nat) (hm : n + q ≤ m0 ∧ m0 < 1000) (ht : ∀ j, t j < 128) (hu : ∀ j, u0 j < 128) (hfu : ∀ j, j < q → f j = nI (u0 j)) : SLv l yJ5_putStringAt_47b60 wsJ5_putStringAt_47b60 rm_J5_putStringAt_47b60 D C (STx a2 v2 q f) 0 0 [.ref a, .int (nI n), .ref a2] [(a, .inr (9, [.ref v, .int 0, .int 0, .int (nI n)])), (v, .inl (C 6, m0, .inl (tx t n)))] (fun (_ : Unit) => [(a, .inr (9, [.ref v, .int 0, .int 0, .int (nI n)])), (v, .inl (C 6, m0, .inl (tx (cat t n u0) (n + q))))]) (fun (u : Unit) => True) := by
  refine SLv_of (lv := [(0, .ref a), (1, .int (nI n)), (2, .ref a2)]) (cc := cJ5_putStringAt_47b60) (maxL := 3) (ret := none) STx_ok rfl (by decide +kernel) (Nat.le_of_ble_eq_true rfl) rfl ?_
  intro p e s m args below meth c X hB hin2 hml hr hlk
  have hA : ∀ q, s.heap.size ≤ q → (zz_A (ZW [(a, .inr (9, [.ref v, .int 0, .int 0, .int (nI n)])), (v, .inl (C 6, m0, .inl (tx t n)))]) s.heap.size) q := fun q h => Or.inr h
  generalize hQ : MQ below _ args s 0 0 _ = Q
  refine zz_aload_n 0 X.1 0 dJ5_putStringAt_47b60_0 rfl ?_
  refine zz_aload_n 1 X.1 2 dJ5_putStringAt_47b60_1 rfl ?_
  refine sl_callUv 2 X hml hA STx_ok hB (R0 := []) (As := [.ref a2]) (Cn := RJ4) (owner := "java/lang/AbstractStringBuilder") (yx := ⟨"java/lang/AbstractStringBuilder", "inflateIfNeededFor", "(Ljava/lang/String;)V"⟩) (na := 1) (kt_J5_inflateIfNeededFor_a7421 l D C a v n m0 t a2 v2 q f ) gJ5_putStringAt_47b60_J5_inflateIfNeededFor_a7421_u397J4 rfl ⟨rfl, rfl⟩ rfl (by decide +kernel) ⟨Nat.le_of_ble_eq_true rfl, Nat.le_of_ble_eq_true rfl⟩ (fun H locs hP hS => va_recv X.2.2.2 hP.1 (ci := 9) (q0 := 0) rfl rfl) rfl rfl (Nat.le_of_ble_eq_true rfl) ⟨Nat.le_of_ble_eq_true rfl, Nat.le_of_ble_eq_true rfl⟩ dJ5_putStringAt_47b60_2 ?_
  rintro _ _
  refine zz_world (P' := (LPw (zz_A (ZW [(a, .inr (9, [.ref v, .int 0, .int 0, .int (nI n)])), (v, .inl (C 6, m0, .inl (tx t n)))]) s.heap.size) D [(a, .inr (9, [.ref v, .int 0, .int 0, .int (nI n)])), (v, .inl (C 6, m0, .inl (tx t n)))])) (fun _ h => h) ?_
  refine zz_aload_n 5 X.1 2 dJ5_putStringAt_47b60_5 rfl ?_
  refine zz_aload_n 6 X.1 0 dJ5_putStringAt_47b60_6 rfl ?_
  refine zl_getS 7 X (Cn := RJ4) (ref := RJ5) (T := TJ4) (N0 := 4) (ci := 9) (by decide +kernel) rfl 0 rfl 0 (by decide) (by decide +kernel) rfl (v := .ref v) rfl dJ5_putStringAt_47b60_7 ?_
  refine zz_iload_n 10 X.1 1 dJ5_putStringAt_47b60_10 rfl ?_
  refine zz_aload_n 11 X.1 0 dJ5_putStringAt_47b60_11 rfl ?_
  refine zl_getS 12 X (Cn := RJ4) (ref := RJ5) (T := TJ4) (N0 := 4) (ci := 9) (by decide +kernel) rfl 0 rfl 1 (by decide) (by decide +kernel) rfl (v := .int 0) rfl dJ5_putStringAt_47b60_12 ?_
  refine zz_topi (nI 0) rfl ?_
  refine sl_callVv 15 X hml hA STx_ok hB (R0 := [(a, .inr (9, [.ref v, .int 0, .int 0, .int (nI n)]))]) (As := [.ref v, .int (nI n), .int (nI 0)]) (Cn := RJ0) (kt_J0_getBytes_840e7 l D C v n m0 t a2 v2 q f u0 (by first | rfl | assumption | omega) (by first | rfl | assumption | omega) (by first | rfl | assumption | omega) (by first | rfl | assumption | omega)) gJ5_putStringAt_47b60_J0_getBytes_840e7 rfl ⟨rfl, rfl⟩ yd_J0_getBytes_840e7 ⟨Nat.le_of_ble_eq_true rfl, Nat.le_of_ble_eq_true rfl⟩ (fun H locs hP hS => by obtain ⟨cell, h1, h2, h3, -⟩ := hB.1.1.kept hS.2.1; exact ⟨cell, h1, h2, h3⟩) rfl rfl (Nat.le_of_ble_eq_true rfl) ⟨Nat.le_of_ble_eq_true rfl, Nat.le_of_ble_eq_true rfl⟩ dJ5_putStringAt_47b60_15 ?_
  rintro _ _
  refine zz_world (P' := (LPw (zz_A (ZW [(a, .inr (9, [.ref v, .int 0, .int 0, .int (nI n)])), (v, .inl (C 6, m0, .inl (tx t n)))]) s.heap.size) D [(a, .inr (9, [.ref v, .int 0, .int 0, .int (nI n)])), (v, .inl (C 6, m0, .inl (tx (cat t n u0) (n + q))))])) (fun _ h => h) ?_
  rw [← hQ]
  refine zz_vret 18 X.1 hr hlk () ?_ (fun _ h _ => h) dJ5_putStringAt_47b60_18
  exact trivial

abbrev rm_J5_append_cf1ce : Room := { frames := 4, cells := 1, slots := 34, locals := 105 }
theorem yd_J5_append_cf1ce : yJ5_append_cf1ce.cls = RJ5 ∧ yJ5_append_cf1ce.cls ≠ "java/lang/invoke/MethodHandle" ∧ yJ5_append_cf1ce.cls ≠ "java/lang/invoke/VarHandle" ∧ (parseMethodDescriptor yJ5_append_cf1ce.desc).map (fun d => d.parameters.length) = some 1 := by decide +kernel
set_option maxHeartbeats 4000000 in
set_option maxRecDepth 100000 in
theorem kt_J5_append_cf1ce (l : Launch) (D : va_G) (C : Nat → ClassId) (a : Nat) (v : Nat) (n : Nat) (m0 : Nat) (t : Nat → Nat) (a2 : Nat) (v2 : Nat) (q : Nat) (f : Nat → Int32) (u0 : Nat → Nat) (hm : m0 = 16 ∨ m0 = 34) (hn : n ≤ m0) (hw : n + q ≤ 34) (ht : ∀ j, t j < 128) (hu : ∀ j, u0 j < 128) (hfu : ∀ j, j < q → f j = nI (u0 j)) : SLr l yJ5_append_cf1ce wsJ5_append_cf1ce rm_J5_append_cf1ce D C (STx a2 v2 q f) 1 34 [.ref a, .ref a2] [(a, .inr (9, [.ref v, .int 0, .int 0, .int (nI n)])), (v, .inl (C 6, m0, .inl (tx t n)))] (fun (u : Nat × Nat) => [(a, .inr (9, [.ref u.1, .int 0, .int 0, .int (nI (n + q))])), (u.1, .inl (C 6, u.2, .inl (tx (cat t n u0) (n + q))))]) (fun u => a) (fun (u : Nat × Nat) => (u.2 = 16 ∨ u.2 = 34) ∧ n + q ≤ u.2) := by
  refine SLr_of (lv := [(0, .ref a), (1, .ref a2)]) (cc := cJ5_append_cf1ce) (maxL := 3) (ret := (some (.object "java/lang/AbstractStringBuilder"))) STx_ok rfl (by decide +kernel) (Nat.le_of_ble_eq_true rfl) rfl ?_
  intro p e s m args below meth c X hB hin2 hml hr hlk
  have hA : ∀ q, s.heap.size ≤ q → (zz_A (ZW [(a, .inr (9, [.ref v, .int 0, .int 0, .int (nI n)])), (v, .inl (C 6, m0, .inl (tx t n)))]) s.heap.size) q := fun q h => Or.inr h
  generalize hQ : MQ below _ args s 1 34 _ = Q
  refine zz_aload_n 0 X.1 1 dJ5_append_cf1ce_0 rfl ?_
  refine zz_ifnn 1 9 X.1 dJ5_append_cf1ce_1 (by decide) ?_
  refine zz_aload_n 9 X.1 1 dJ5_append_cf1ce_9 rfl ?_
  refine zz_callVNi 10 STx_ok hB ⟨X.1.1, X.1.2, hml, X.2.2.1, X.2.1⟩ (fun q h => Or.inr h) LPw_keep (As := []) (kt_J0_length_s l a2 v2 q f ) (hB.1.1) gJ5_append_cf1ce_J0_length_8abf5 rfl ⟨rfl, rfl⟩ yd_J0_length_8abf5 ⟨Nat.le_of_ble_eq_true rfl, Nat.le_of_ble_eq_true rfl⟩ rfl rfl (Nat.le_of_ble_eq_true rfl) ⟨Nat.le_of_ble_eq_true rfl, Nat.le_of_ble_eq_true rfl⟩ dJ5_append_cf1ce_10 ?_
  intro r1 hu1
  obtain rfl := hu1
  refine zz_istore_n 13 X.1 (lv' := [(2, .int (nI q)), (0, .ref a), (1, .ref a2)]) dJ5_append_cf1ce_13 (by decide) rfl ?_
  refine zz_aload_n 14 X.1 1 dJ5_append_cf1ce_14 rfl ?_
  refine zz_aload_n 15 X.1 1 dJ5_append_cf1ce_15 rfl ?_
  refine zl_getS 16 X (Cn := RJ4) (ref := RJ5) (T := TJ4) (N0 := 4) (ci := 9) (by decide +kernel) rfl 0 rfl 3 (by decide) (by decide +kernel) rfl (v := .int (nI n)) rfl dJ5_append_cf1ce_16 ?_
  refine zz_iload_n 19 X.1 0 dJ5_append_cf1ce_19 rfl ?_
  refine zz_iadd 20 X.1 (v := (nI (n + q))) dJ5_append_cf1ce_20 (nI_add _ _) ?_
  refine sl_callUv 21 X hml hA COx_ok hB.2 (R0 := []) (As := [.int (nI (n + q))]) (Cn := RJ4) (owner := "java/lang/AbstractStringBuilder") (yx := ⟨"java/lang/AbstractStringBuilder", "ensureCapacityInternal", "(I)V"⟩) (na := 1) (kt_J5_ensureCapacityInternal_d00df l D C a v n m0 t (n + q) (by first | rfl | assumption | omega) (by first | rfl | assumption | omega) (by first | rfl | assumption | omega) (by first | rfl | assumption | omega)) gJ5_append_cf1ce_J5_ensureCapacityInternal_d00df_u100J4 rfl ⟨rfl, rfl⟩ rfl (by decide +kernel) ⟨Nat.le_of_ble_eq_true rfl, Nat.le_of_ble_eq_true rfl⟩ (fun H locs hP hS => va_recv X.2.2.2 hP.1 (ci := 9) (q0 := 0) rfl rfl) rfl rfl (Nat.le_of_ble_eq_true rfl) ⟨Nat.le_of_ble_eq_true rfl, Nat.le_of_ble_eq_true rfl⟩ dJ5_append_cf1ce_21 ?_
  rintro ⟨w2, k2⟩ ⟨hf2_0, hf2_1, hf2_2⟩
  refine zz_world (P' := (LPw (zz_A (ZW [(a, .inr (9, [.ref v, .int 0, .int 0, .int (nI n)])), (v, .inl (C 6, m0, .inl (tx t n)))]) s.heap.size) D [(a, .inr (9, [.ref w2, .int 0, .int 0, .int (nI n)])), (w2, .inl (C 6, k2, .inl (tx t n)))])) (fun _ h => h) ?_
  refine zz_aload_n 24 X.1 1 dJ5_append_cf1ce_24 rfl ?_
  refine zz_aload_n 25 X.1 1 dJ5_append_cf1ce_25 rfl ?_
  refine zl_getS 26 X (Cn := RJ4) (ref := RJ5) (T := TJ4) (N0 := 4) (ci := 9) (by decide +kernel) rfl 0 rfl 3 (by decide) (by decide +kernel) rfl (v := .int (nI n)) rfl dJ5_append_cf1ce_26 ?_
  refine zz_aload_n 29 X.1 2 dJ5_append_cf1ce_29 rfl ?_
  refine sl_callUv 30 X hml hA STx_ok hB (R0 := []) (As := [.int (nI n), .ref a2]) (Cn := RJ4) (owner := "java/lang/AbstractStringBuilder") (yx := ⟨"java/lang/AbstractStringBuilder", "putStringAt", "(ILjava/lang/String;)V"⟩) (na := 2) (kt_J5_putStringAt_47b60 l D C a w2 n k2 t a2 v2 q f u0 (by first | rfl | assumption | omega) (by first | rfl | assumption | omega) (by first | rfl | assumption | omega) (by first | rfl | assumption | omega)) gJ5_append_cf1ce_J5_putStringAt_47b60_u208J4 rfl ⟨rfl, rfl⟩ rfl (by decide +kernel) ⟨Nat.le_of_ble_eq_true rfl, Nat.le_of_ble_eq_true rfl⟩ (fun H locs hP hS => va_recv X.2.2.2 hP.1 (ci := 9) (q0 := 0) rfl rfl) rfl rfl (Nat.le_of_ble_eq_true rfl) ⟨Nat.le_of_ble_eq_true rfl, Nat.le_of_ble_eq_true rfl⟩ dJ5_append_cf1ce_30 ?_
  rintro _ _
  refine zz_world (P' := (LPw (zz_A (ZW [(a, .inr (9, [.ref v, .int 0, .int 0, .int (nI n)])), (v, .inl (C 6, m0, .inl (tx t n)))]) s.heap.size) D [(a, .inr (9, [.ref w2, .int 0, .int 0, .int (nI n)])), (w2, .inl (C 6, k2, .inl (tx (cat t n u0) (n + q))))])) (fun _ h => h) ?_
  refine zz_aload_n 33 X.1 1 dJ5_append_cf1ce_33 rfl ?_
  refine zz_dup 34 X.1 dJ5_append_cf1ce_34 rfl ?_
  refine zl_getS 35 X (Cn := RJ4) (ref := RJ5) (T := TJ4) (N0 := 4) (ci := 9) (by decide +kernel) rfl 0 rfl 3 (by decide) (by decide +kernel) rfl (v := .int (nI n)) rfl dJ5_append_cf1ce_35 ?_
  refine zz_iload_n 38 X.1 0 dJ5_append_cf1ce_38 rfl ?_
  refine zz_iadd 39 X.1 (v := (nI (n + q))) dJ5_append_cf1ce_39 (nI_add _ _) ?_
  refine zl_putS 40 X (Cn := RJ4) (ref := RJ5) (T := TJ4) (N0 := 4) (ci := 9) (ty := .int) (by decide +kernel) tyJ4 tyJ4_ok nmJ4 rfl 0 rfl 3 (by decide) (by decide +kernel) rfl rfl (v := .int (nI (n + q))) (by decide +kernel) rfl rfl (show 3 < 4 by decide) dJ5_append_cf1ce_40 ?_
  refine zz_world (P' := (LPw (zz_A (ZW [(a, .inr (9, [.ref v, .int 0, .int 0, .int (nI n)])), (v, .inl (C 6, m0, .inl (tx t n)))]) s.heap.size) D [(a, .inr (9, [.ref w2, .int 0, .int 0, .int (nI (n + q))])), (w2, .inl (C 6, k2, .inl (tx (cat t n u0) (n + q))))])) (fun _ h => h) ?_
  refine zz_aload_n 43 X.1 1 dJ5_append_cf1ce_43 rfl ?_
  rw [← hQ]
  refine zz_aret 44 X.1 hr (Or.inl ⟨_, rfl⟩) hlk (w2, k2) ?_ (fun _ h _ => ⟨rfl, h⟩) dJ5_append_cf1ce_44
  exact ⟨by omega, by omega⟩

abbrev rm_J6_stringSize_0f7a4 : Room := { frames := 0, cells := 0, slots := 0, locals := 0 }
theorem yd_J6_stringSize_0f7a4 : yJ6_stringSize_0f7a4.cls = RJ6 ∧ yJ6_stringSize_0f7a4.cls ≠ "java/lang/invoke/MethodHandle" ∧ yJ6_stringSize_0f7a4.cls ≠ "java/lang/invoke/VarHandle" ∧ (parseMethodDescriptor yJ6_stringSize_0f7a4.desc).map (fun d => d.parameters.length) = some 1 := by decide +kernel
set_option maxHeartbeats 4000000 in
set_option maxRecDepth 100000 in
theorem kt_J6_stringSize_0f7a4 (l : Launch) (i0 : Nat) (hi : i0 < 1024) : NSi l yJ6_stringSize_0f7a4 wsJ6_stringSize_0f7a4 rm_J6_stringSize_0f7a4 NNx [.int (nI i0)] (fun (r : Int32) => r = (nI (dgs i0))) := by
  refine NSi_of (lv := [(0, .int (nI i0))]) (cc := cJ6_stringSize_0f7a4) (maxL := 4) (ret := (some .int)) NNx_ok rfl (by decide +kernel) (Nat.le_of_ble_eq_true rfl) rfl ?_
  intro p e s m args below meth c hc hts hown hB hml hr hlk
  have X : (p.tables.exec = Jvm.exec ∧ c.code = cJ6_stringSize_0f7a4) ∧ True := ⟨hc, trivial⟩
  generalize hQ : MQ below _ args s 0 0 _ = Q
  refine zz_iconst 0 X.1 (v := nI 1) dJ6_stringSize_0f7a4_0 rfl ?_
  refine zz_istore_n 1 X.1 (lv' := [(1, .int (nI 1)), (0, .int (nI i0))]) dJ6_stringSize_0f7a4_1 (by decide) rfl ?_
  refine zz_iload_n 2 X.1 1 dJ6_stringSize_0f7a4_2 rfl ?_
  refine zz_if_lt 3 11 X.1 (nI_toInt (by omega)) dJ6_stringSize_0f7a4_3 (by decide) (fun h3 => ?_) (fun h3 => ?_)
  · exfalso; omega
  · skip
    refine zz_iconst 6 X.1 (v := nI 0) dJ6_stringSize_0f7a4_6 rfl ?_
    refine zz_istore_n 7 X.1 (lv' := [(1, .int (nI 0)), (0, .int (nI i0))]) dJ6_stringSize_0f7a4_7 (by decide) rfl ?_
    refine zz_iload_n 8 X.1 1 dJ6_stringSize_0f7a4_8 rfl ?_
    refine zz_ineg 9 X.1 (v := (-(nI i0))) dJ6_stringSize_0f7a4_9 rfl ?_
    refine zz_istore_n 10 X.1 (lv' := [(0, .int (-(nI i0))), (1, .int (nI 0))]) dJ6_stringSize_0f7a4_10 (by decide) rfl ?_
    refine zz_bipush 11 X.1 (v := (-10)) dJ6_stringSize_0f7a4_11 (by decide) ?_
    refine zz_istore_n 13 X.1 (lv' := [(2, .int (-10)), (0, .int (-(nI i0))), (1, .int (nI 0))]) dJ6_stringSize_0f7a4_13 (by decide) rfl ?_
    refine zz_iconst 14 X.1 (v := nI 1) dJ6_stringSize_0f7a4_14 rfl ?_
    refine zz_istore_n 15 X.1 (lv' := [(3, .int (nI 1)), (2, .int (-10)), (0, .int (-(nI i0))), (1, .int (nI 0))]) dJ6_stringSize_0f7a4_15 (by decide) rfl ?_
    refine zz_iload_n 16 X.1 0 dJ6_stringSize_0f7a4_16 rfl ?_
    refine zz_bipush 17 X.1 (v := nI 10) dJ6_stringSize_0f7a4_17 rfl ?_
    refine zz_icmp_ge 19 42 X.1 (nI_toInt (by omega)) (nI_toInt (by omega)) dJ6_stringSize_0f7a4_19 (by decide) (fun h19 => ?_) (fun h19 => ?_)
    · exfalso; omega
    · skip
      refine zz_iload_n 22 X.1 2 dJ6_stringSize_0f7a4_22 rfl ?_
      refine zz_iload_n 23 X.1 1 dJ6_stringSize_0f7a4_23 rfl ?_
      refine zz_icmp_le 24 31 X.1 (gc_neg _ hi) (by decide : (-10 : Int32).toInt = -10) dJ6_stringSize_0f7a4_24 (by decide) (fun h24 => ?_) (fun h24 => ?_)
      · skip
        refine zz_bipush 31 X.1 (v := nI 10) dJ6_stringSize_0f7a4_31 rfl ?_
        refine zz_iload_n 33 X.1 1 dJ6_stringSize_0f7a4_33 rfl ?_
        refine zz_imul 34 X.1 (v := (-100)) dJ6_stringSize_0f7a4_34 (by decide) ?_
        refine zz_istore_n 35 X.1 (lv' := [(2, .int (-100)), (3, .int (nI 1)), (0, .int (-(nI i0))), (1, .int (nI 0))]) dJ6_stringSize_0f7a4_35 (by decide) rfl ?_
        refine zz_iinc 36 X.1 1 (v := (nI 2)) (lv' := [(3, .int (nI 2)), (2, .int (-100)), (0, .int (-(nI i0))), (1, .int (nI 0))]) dJ6_stringSize_0f7a4_36 rfl (nI_add _ _) (by decide) rfl ?_
        refine zz_goto 39 16 X.1 dJ6_stringSize_0f7a4_39 (by decide) ?_
        refine zz_iload_n 16 X.1 0 dJ6_stringSize_0f7a4_16 rfl ?_
        refine zz_bipush 17 X.1 (v := nI 10) dJ6_stringSize_0f7a4_17 rfl ?_
        refine zz_icmp_ge 19 42 X.1 (nI_toInt (by omega)) (nI_toInt (by omega)) dJ6_stringSize_0f7a4_19 (by decide) (fun h19 => ?_) (fun h19 => ?_)
        · exfalso; omega
        · skip
          refine zz_iload_n 22 X.1 2 dJ6_stringSize_0f7a4_22 rfl ?_
          refine zz_iload_n 23 X.1 1 dJ6_stringSize_0f7a4_23 rfl ?_
          refine zz_icmp_le 24 31 X.1 (gc_neg _ hi) (by decide : (-100 : Int32).toInt = -100) dJ6_stringSize_0f7a4_24 (by decide) (fun h24 => ?_) (fun h24 => ?_)
          · skip
            refine zz_bipush 31 X.1 (v := nI 10) dJ6_stringSize_0f7a4_31 rfl ?_
            refine zz_iload_n 33 X.1 1 dJ6_stringSize_0f7a4_33 rfl ?_
            refine zz_imul 34 X.1 (v := (-1000)) dJ6_stringSize_0f7a4_34 (by decide) ?_
            refine zz_istore_n 35 X.1 (lv' := [(2, .int (-1000)), (3, .int (nI 2)), (0, .int (-(nI i0))), (1, .int (nI 0))]) dJ6_stringSize_0f7a4_35 (by decide) rfl ?_
            refine zz_iinc 36 X.1 1 (v := (nI 3)) (lv' := [(3, .int (nI 3)), (2, .int (-1000)), (0, .int (-(nI i0))), (1, .int (nI 0))]) dJ6_stringSize_0f7a4_36 rfl (nI_add _ _) (by decide) rfl ?_
            refine zz_goto 39 16 X.1 dJ6_stringSize_0f7a4_39 (by decide) ?_
            refine zz_iload_n 16 X.1 0 dJ6_stringSize_0f7a4_16 rfl ?_
            refine zz_bipush 17 X.1 (v := nI 10) dJ6_stringSize_0f7a4_17 rfl ?_
            refine zz_icmp_ge 19 42 X.1 (nI_toInt (by omega)) (nI_toInt (by omega)) dJ6_stringSize_0f7a4_19 (by decide) (fun h19 => ?_) (fun h19 => ?_)
            · exfalso; omega
            · skip
              refine zz_iload_n 22 X.1 2 dJ6_stringSize_0f7a4_22 rfl ?_
              refine zz_iload_n 23 X.1 1 dJ6_stringSize_0f7a4_23 rfl ?_
              refine zz_icmp_le 24 31 X.1 (gc_neg _ hi) (by decide : (-1000 : Int32).toInt = -1000) dJ6_stringSize_0f7a4_24 (by decide) (fun h24 => ?_) (fun h24 => ?_)
              · skip
                refine zz_bipush 31 X.1 (v := nI 10) dJ6_stringSize_0f7a4_31 rfl ?_
                refine zz_iload_n 33 X.1 1 dJ6_stringSize_0f7a4_33 rfl ?_
                refine zz_imul 34 X.1 (v := (-10000)) dJ6_stringSize_0f7a4_34 (by decide) ?_
                refine zz_istore_n 35 X.1 (lv' := [(2, .int (-10000)), (3, .int (nI 3)), (0, .int (-(nI i0))), (1, .int (nI 0))]) dJ6_stringSize_0f7a4_35 (by decide) rfl ?_
                refine zz_iinc 36 X.1 1 (v := (nI 4)) (lv' := [(3, .int (nI 4)), (2, .int (-10000)), (0, .int (-(nI i0))), (1, .int (nI 0))]) dJ6_stringSize_0f7a4_36 rfl (nI_add _ _) (by decide) rfl ?_
                refine zz_goto 39 16 X.1 dJ6_stringSize_0f7a4_39 (by decide) ?_
                refine zz_iload_n 16 X.1 0 dJ6_stringSize_0f7a4_16 rfl ?_
                refine zz_bipush 17 X.1 (v := nI 10) dJ6_stringSize_0f7a4_17 rfl ?_
                refine zz_icmp_ge 19 42 X.1 (nI_toInt (by omega)) (nI_toInt (by omega)) dJ6_stringSize_0f7a4_19 (by decide) (fun h19 => ?_) (fun h19 => ?_)
                · exfalso; omega
                · skip
                  refine zz_iload_n 22 X.1 2 dJ6_stringSize_0f7a4_22 rfl ?_
                  refine zz_iload_n 23 X.1 1 dJ6_stringSize_0f7a4_23 rfl ?_
                  refine zz_icmp_le 24 31 X.1 (gc_neg _ hi) (by decide : (-10000 : Int32).toInt = -10000) dJ6_stringSize_0f7a4_24 (by decide) (fun h24 => ?_) (fun h24 => ?_)
                  · exfalso; omega
                  · skip
                    refine zz_iload_n 27 X.1 0 dJ6_stringSize_0f7a4_27 rfl ?_
                    refine zz_iload_n 28 X.1 3 dJ6_stringSize_0f7a4_28 rfl ?_
                    refine zz_iadd 29 X.1 (v := (nI 4)) dJ6_stringSize_0f7a4_29 (nI_add _ _) ?_
                    rw [← hQ]
                    refine zz_iret 30 X.1 hr rfl hlk () ?_ (fun _ _ _ => trivial) dJ6_stringSize_0f7a4_30
                    exact congrArg nI (by unfold dgs; (repeat' split) <;> omega)
              · skip
                refine zz_iload_n 27 X.1 0 dJ6_stringSize_0f7a4_27 rfl ?_
                refine zz_iload_n 28 X.1 3 dJ6_stringSize_0f7a4_28 rfl ?_
                refine zz_iadd 29 X.1 (v := (nI 3)) dJ6_stringSize_0f7a4_29 (nI_add _ _) ?_
                rw [← hQ]
                refine zz_iret 30 X.1 hr rfl hlk () ?_ (fun _ _ _ => trivial) dJ6_stringSize_0f7a4_30
                exact congrArg nI (by unfold dgs; (repeat' split) <;> omega)
          · skip
            refine zz_iload_n 27 X.1 0 dJ6_stringSize_0f7a4_27 rfl ?_
            refine zz_iload_n 28 X.1 3 dJ6_stringSize_0f7a4_28 rfl ?_
            refine zz_iadd 29 X.1 (v := (nI 2)) dJ6_stringSize_0f7a4_29 (nI_add _ _) ?_
            rw [← hQ]
            refine zz_iret 30 X.1 hr rfl hlk () ?_ (fun _ _ _ => trivial) dJ6_stringSize_0f7a4_30
            exact congrArg nI (by unfold dgs; (repeat' split) <;> omega)
      · skip
        refine zz_iload_n 27 X.1 0 dJ6_stringSize_0f7a4_27 rfl ?_
        refine zz_iload_n 28 X.1 3 dJ6_stringSize_0f7a4_28 rfl ?_
        refine zz_iadd 29 X.1 (v := (nI 1)) dJ6_stringSize_0f7a4_29 (nI_add _ _) ?_
        rw [← hQ]
        refine zz_iret 30 X.1 hr rfl hlk () ?_ (fun _ _ _ => trivial) dJ6_stringSize_0f7a4_30
        exact congrArg nI (by unfold dgs; (repeat' split) <;> omega)

abbrev rm_J6_getChars_ba4f3 : Room := { frames := 0, cells := 0, slots := 0, locals := 0 }
theorem yd_J6_getChars_ba4f3 : yJ6_getChars_ba4f3.cls = RJ6 ∧ yJ6_getChars_ba4f3.cls ≠ "java/lang/invoke/MethodHandle" ∧ yJ6_getChars_ba4f3.cls ≠ "java/lang/invoke/VarHandle" ∧ (parseMethodDescriptor yJ6_getChars_ba4f3.desc).map (fun d => d.parameters.length) = some 3 := by decide +kernel
set_option maxHeartbeats 4000000 in
set_option maxRecDepth 100000 in
theorem kt_J6_getChars_1 (l : Launch) (D : va_G) (C : Nat → ClassId) (v : Nat) (n : Nat) (m0 : Nat) (t : Nat → Nat) (t1 : Nat) (t2 : Nat) (i0 : Nat) (hi : i0 < 10) (hm : n + 1 ≤ m0 ∧ m0 < 1000) : SLi l yJ6_getChars_ba4f3 wsJ6_getChars_ba4f3 rm_J6_getChars_ba4f3 D C (DGx t1 t2) 0 0 [.int (nI i0), .int (nI (n + 1)), .ref v] [(v, .inl (C 6, m0, .inl (tx t n)))] (fun (_ : Unit) => [(v, .inl (C 6, m0, .inl (tx (cat t n (dgt i0 1)) (n + 1))))]) (fun (r : Int32) (u : Unit) => True) := by
  refine SLi_of (lv := [(0, .int (nI i0)), (1, .int (nI (n + 1))), (2, .ref v)]) (cc := cJ6_getChars_ba4f3) (maxL := 7) (ret := (some .int)) DGx_ok rfl (by decide +kernel) (Nat.le_of_ble_eq_true rfl) rfl ?_
  intro p e s m args below meth c X hB hin2 hml hr hlk
  have hA : ∀ q, s.heap.size ≤ q → (zz_A (ZW [(v, .inl (C 6, m0, .inl (tx t n)))]) s.heap.size) q := fun q h => Or.inr h
  generalize hQ : MQ below _ args s 0 0 _ = Q
  refine zz_world (P' := (LPw (zz_A (ZW [(v, .inl (C 6, m0, .inl (tx t n)))]) s.heap.size) D [(v, .inl (C 6, m0, .inl (px t n 1 (dgt i0 1) 1)))])) (fun H9 h => Eq.mp (congrArg (fun z9 : Nat → Int32 => LPw (zz_A (ZW [(v, .inl (C 6, m0, .inl (tx t n)))]) s.heap.size) D [(v, .inl (C 6, m0, .inl z9))] H9) (show tx t n = px t n 1 (dgt i0 1) 1 from px_w)) h) ?_
  refine zz_iload_n 0 X.1 1 dJ6_getChars_ba4f3_0 rfl ?_
  refine zz_istore 1 X.1 (lv' := [(5, .int (nI (n + 1))), (0, .int (nI i0)), (1, .int (nI (n + 1))), (2, .ref v)]) dJ6_getChars_ba4f3_1 (by decide) rfl ?_
  refine zz_iload_n 3 X.1 1 dJ6_getChars_ba4f3_3 rfl ?_
  refine zz_if_ge 4 11 X.1 (nI_toInt (by omega)) dJ6_getChars_ba4f3_4 (by decide) (fun h4 => ?_) (fun h4 => ?_)
  · skip
    refine zz_iconst 11 X.1 (v := nI 0) dJ6_getChars_ba4f3_11 rfl ?_
    refine zz_istore 12 X.1 (lv' := [(6, .int (nI 0)), (5, .int (nI (n + 1))), (0, .int (nI i0)), (1, .int (nI (n + 1))), (2, .ref v)]) dJ6_getChars_ba4f3_12 (by decide) rfl ?_
    refine zz_iload 14 X.1 0 dJ6_getChars_ba4f3_14 rfl ?_
    refine zz_if_ne 16 22 X.1 (nI_toInt (by omega)) dJ6_getChars_ba4f3_16 (by decide) (fun h16 => ?_) (fun h16 => ?_)
    · exfalso; omega
    · skip
      refine zz_iload_n 19 X.1 2 dJ6_getChars_ba4f3_19 rfl ?_
      refine zz_ineg 20 X.1 (v := (-(nI i0))) dJ6_getChars_ba4f3_20 rfl ?_
      refine zz_istore_n 21 X.1 (lv' := [(0, .int (-(nI i0))), (6, .int (nI 0)), (5, .int (nI (n + 1))), (1, .int (nI (n + 1))), (2, .ref v)]) dJ6_getChars_ba4f3_21 (by decide) rfl ?_
      refine zz_iload_n 22 X.1 0 dJ6_getChars_ba4f3_22 rfl ?_
      refine zz_bipush 23 X.1 (v := (-100)) dJ6_getChars_ba4f3_23 (by decide) ?_
      refine zz_icmp_gt 25 72 X.1 (gc_neg _ (by omega)) (by decide : (-100 : Int32).toInt = -100) dJ6_getChars_ba4f3_25 (by decide) (fun h25 => ?_) (fun h25 => ?_)
      · skip
        refine zz_aload_n 72 X.1 4 dJ6_getChars_ba4f3_72 rfl ?_
        refine zz_iinc 73 X.1 2 (v := (nI (n + 0))) (lv' := [(5, .int (nI (n + 0))), (0, .int (-(nI i0))), (6, .int (nI 0)), (1, .int (nI (n + 1))), (2, .ref v)]) dJ6_getChars_ba4f3_73 rfl (zn_dec 1 (by omega)) (by decide) rfl ?_
        refine zz_iload 76 X.1 0 dJ6_getChars_ba4f3_76 rfl ?_
        refine zs_getsG 78 X.1 X.2.2.1 hB.1 ((X.2.1 _ (by decide +kernel))) dJ6_getChars_ba4f3_78 ?_
        refine zz_iload_n 81 X.1 1 dJ6_getChars_ba4f3_81 rfl ?_
        refine zz_ineg 82 X.1 (v := (nI i0)) dJ6_getChars_ba4f3_82 (gc_nn _ (by omega)) ?_
        refine zs_tb 83 X.1 hB.2.1 (i := nI i0) (vp_in_nI (show i0 < 100 by omega) (by decide)) (v := .int (nI (48 + i0 % 10))) (by rw [nI_clamp (by omega)]) dJ6_getChars_ba4f3_83 ?_
        refine zl_bast 84 X 0 rfl (i := n + 0) (by omega) (by omega) (y := nI (48 + i0 % 10)) (bt_nar _ (by omega)) dJ6_getChars_ba4f3_84 ?_
        refine zz_world (P' := (LPw (zz_A (ZW [(v, .inl (C 6, m0, .inl (tx t n)))]) s.heap.size) D [(v, .inl (C 6, m0, .inl (upd (px t n 1 (dgt i0 1) 1) (n + 0) (nI (48 + i0 % 10)))))])) (fun _ h => h) ?_
        refine zz_world (P' := (LPw (zz_A (ZW [(v, .inl (C 6, m0, .inl (tx t n)))]) s.heap.size) D [(v, .inl (C 6, m0, .inl (px t n 1 (dgt i0 1) 0)))])) (fun _ h => by rw [px_up (k := 0) (by decide) (by unfold dgt; simp only [show (10 : Nat) ^ (1 - 1 - 0) = 1 from rfl] <;> omega)] at h; exact h) ?_
        refine zz_iload_n 85 X.1 1 dJ6_getChars_ba4f3_85 rfl ?_
        refine zz_bipush 86 X.1 (v := (-9)) dJ6_getChars_ba4f3_86 (by decide) ?_
        refine zz_icmp_ge 88 104 X.1 (gc_neg _ (by omega)) (by decide : (-9 : Int32).toInt = -9) dJ6_getChars_ba4f3_88 (by decide) (fun h88 => ?_) (fun h88 => ?_)
        · skip
          refine zz_iload 104 X.1 2 dJ6_getChars_ba4f3_104 rfl ?_
          refine zz_if_eq 106 118 X.1 (nI_toInt (by omega)) dJ6_getChars_ba4f3_106 (by decide) (fun h106 => ?_) (fun h106 => ?_)
          · skip
            refine zz_world (P' := (LPw (zz_A (ZW [(v, .inl (C 6, m0, .inl (tx t n)))]) s.heap.size) D [(v, .inl (C 6, m0, .inl (tx (cat t n (dgt i0 1)) (n + 1))))])) (fun _ h => by rw [px_0] at h; exact h) ?_
            refine zz_iload 118 X.1 0 dJ6_getChars_ba4f3_118 rfl ?_
            rw [← hQ]
            refine zz_iret 120 X.1 hr rfl hlk () ?_ (fun _ h _ => h) dJ6_getChars_ba4f3_120
            exact trivial
          · exfalso; omega
        · exfalso; omega
      · exfalso; omega
  · exfalso; omega

set_option maxHeartbeats 4000000 in
set_option maxRecDepth 100000 in
theorem kt_J6_getChars_2 (l : Launch) (D : va_G) (C : Nat → ClassId) (v : Nat) (n : Nat) (m0 : Nat) (t : Nat → Nat) (t1 : Nat) (t2 : Nat) (i0 : Nat) (hi : 10 ≤ i0 ∧ i0 < 100) (hm : n + 2 ≤ m0 ∧ m0 < 1000) : SLi l yJ6_getChars_ba4f3 wsJ6_getChars_ba4f3 rm_J6_getChars_ba4f3 D C (DGx t1 t2) 0 0 [.int (nI i0), .int (nI (n + 2)), .ref v] [(v, .inl (C 6, m0, .inl (tx t n)))] (fun (_ : Unit) => [(v, .inl (C 6, m0, .inl (tx (cat t n (dgt i0 2)) (n + 2))))]) (fun (r : Int32) (u : Unit) => True) := by
  refine SLi_of (lv := [(0, .int (nI i0)), (1, .int (nI (n + 2))), (2, .ref v)]) (cc := cJ6_getChars_ba4f3) (maxL := 7) (ret := (some .int)) DGx_ok rfl (by decide +kernel) (Nat.le_of_ble_eq_true rfl) rfl ?_
  intro p e s m args below meth c X hB hin2 hml hr hlk
  have hA : ∀ q, s.heap.size ≤ q → (zz_A (ZW [(v, .inl (C 6, m0, .inl (tx t n)))]) s.heap.size) q := fun q h => Or.inr h
  generalize hQ : MQ below _ args s 0 0 _ = Q
  refine zz_world (P' := (LPw (zz_A (ZW [(v, .inl (C 6, m0, .inl (tx t n)))]) s.heap.size) D [(v, .inl (C 6, m0, .inl (px t n 2 (dgt i0 2) 2)))])) (fun H9 h => Eq.mp (congrArg (fun z9 : Nat → Int32 => LPw (zz_A (ZW [(v, .inl (C 6, m0, .inl (tx t n)))]) s.heap.size) D [(v, .inl (C 6, m0, .inl z9))] H9) (show tx t n = px t n 2 (dgt i0 2) 2 from px_w)) h) ?_
  refine zz_iload_n 0 X.1 1 dJ6_getChars_ba4f3_0 rfl ?_
  refine zz_istore 1 X.1 (lv' := [(5, .int (nI (n + 2))), (0, .int (nI i0)), (1, .int (nI (n + 2))), (2, .ref v)]) dJ6_getChars_ba4f3_1 (by decide) rfl ?_
  refine zz_iload_n 3 X.1 1 dJ6_getChars_ba4f3_3 rfl ?_
  refine zz_if_ge 4 11 X.1 (nI_toInt (by omega)) dJ6_getChars_ba4f3_4 (by decide) (fun h4 => ?_) (fun h4 => ?_)
  · skip
    refine zz_iconst 11 X.1 (v := nI 0) dJ6_getChars_ba4f3_11 rfl ?_
    refine zz_istore 12 X.1 (lv' := [(6, .int (nI 0)), (5, .int (nI (n + 2))), (0, .int (nI i0)), (1, .int (nI (n + 2))), (2, .ref v)]) dJ6_getChars_ba4f3_12 (by decide) rfl ?_
    refine zz_iload 14 X.1 0 dJ6_getChars_ba4f3_14 rfl ?_
    refine zz_if_ne 16 22 X.1 (nI_toInt (by omega)) dJ6_getChars_ba4f3_16 (by decide) (fun h16 => ?_) (fun h16 => ?_)
    · exfalso; omega
    · skip
      refine zz_iload_n 19 X.1 2 dJ6_getChars_ba4f3_19 rfl ?_
      refine zz_ineg 20 X.1 (v := (-(nI i0))) dJ6_getChars_ba4f3_20 rfl ?_
      refine zz_istore_n 21 X.1 (lv' := [(0, .int (-(nI i0))), (6, .int (nI 0)), (5, .int (nI (n + 2))), (1, .int (nI (n + 2))), (2, .ref v)]) dJ6_getChars_ba4f3_21 (by decide) rfl ?_
      refine zz_iload_n 22 X.1 0 dJ6_getChars_ba4f3_22 rfl ?_
      refine zz_bipush 23 X.1 (v := (-100)) dJ6_getChars_ba4f3_23 (by decide) ?_
      refine zz_icmp_gt 25 72 X.1 (gc_neg _ (by omega)) (by decide : (-100 : Int32).toInt = -100) dJ6_getChars_ba4f3_25 (by decide) (fun h25 => ?_) (fun h25 => ?_)
      · skip
        refine zz_aload_n 72 X.1 4 dJ6_getChars_ba4f3_72 rfl ?_
        refine zz_iinc 73 X.1 2 (v := (nI (n + 1))) (lv' := [(5, .int (nI (n + 1))), (0, .int (-(nI i0))), (6, .int (nI 0)), (1, .int (nI (n + 2))), (2, .ref v)]) dJ6_getChars_ba4f3_73 rfl (zn_dec 1 (by omega)) (by decide) rfl ?_
        refine zz_iload 76 X.1 0 dJ6_getChars_ba4f3_76 rfl ?_
        refine zs_getsG 78 X.1 X.2.2.1 hB.1 ((X.2.1 _ (by decide +kernel))) dJ6_getChars_ba4f3_78 ?_
        refine zz_iload_n 81 X.1 1 dJ6_getChars_ba4f3_81 rfl ?_
        refine zz_ineg 82 X.1 (v := (nI i0)) dJ6_getChars_ba4f3_82 (gc_nn _ (by omega)) ?_
        refine zs_tb 83 X.1 hB.2.1 (i := nI i0) (vp_in_nI (show i0 < 100 by omega) (by decide)) (v := .int (nI (48 + i0 % 10))) (by rw [nI_clamp (by omega)]) dJ6_getChars_ba4f3_83 ?_
        refine zl_bast 84 X 0 rfl (i := n + 1) (by omega) (by omega) (y := nI (48 + i0 % 10)) (bt_nar _ (by omega)) dJ6_getChars_ba4f3_84 ?_
        refine zz_world (P' := (LPw (zz_A (ZW [(v, .inl (C 6, m0, .inl (tx t n)))]) s.heap.size) D [(v, .inl (C 6, m0, .inl (upd (px t n 2 (dgt i0 2) 2) (n + 1) (nI (48 + i0 % 10)))))])) (fun _ h => h) ?_
        refine zz_world (P' := (LPw (zz_A (ZW [(v, .inl (C 6, m0, .inl (tx t n)))]) s.heap.size) D [(v, .inl (C 6, m0, .inl (px t n 2 (dgt i0 2) 1)))])) (fun _ h => by rw [px_up (k := 1) (by decide) (by unfold dgt; simp only [show (10 : Nat) ^ (2 - 1 - 1) = 1 from rfl] <;> omega)] at h; exact h) ?_
        refine zz_iload_n 85 X.1 1 dJ6_getChars_ba4f3_85 rfl ?_
        refine zz_bipush 86 X.1 (v := (-9)) dJ6_getChars_ba4f3_86 (by decide) ?_
        refine zz_icmp_ge 88 104 X.1 (gc_neg _ (by omega)) (by decide : (-9 : Int32).toInt = -9) dJ6_getChars_ba4f3_88 (by decide) (fun h88 => ?_) (fun h88 => ?_)
        · exfalso; omega
        · skip
          refine zz_aload_n 91 X.1 4 dJ6_getChars_ba4f3_91 rfl ?_
          refine zz_iinc 92 X.1 0 (v := (nI (n + 0))) (lv' := [(5, .int (nI (n + 0))), (0, .int (-(nI i0))), (6, .int (nI 0)), (1, .int (nI (n + 2))), (2, .ref v)]) dJ6_getChars_ba4f3_92 rfl (zn_dec 1 (by omega)) (by decide) rfl ?_
          refine zz_iload 95 X.1 0 dJ6_getChars_ba4f3_95 rfl ?_
          refine zs_getsG 97 X.1 X.2.2.1 hB.2.2.1 ((X.2.1 _ (by decide +kernel))) dJ6_getChars_ba4f3_97 ?_
          refine zz_iload_n 100 X.1 1 dJ6_getChars_ba4f3_100 rfl ?_
          refine zz_ineg 101 X.1 (v := (nI i0)) dJ6_getChars_ba4f3_101 (gc_nn _ (by omega)) ?_
          refine zs_tb 102 X.1 hB.2.2.2 (i := nI i0) (vp_in_nI (show i0 < 100 by omega) (by decide)) (v := .int (nI (48 + i0 / 10))) (by rw [nI_clamp (by omega)]) dJ6_getChars_ba4f3_102 ?_
          refine zl_bast 103 X 0 rfl (i := n + 0) (by omega) (by omega) (y := nI (48 + i0 / 10)) (bt_nar _ (by omega)) dJ6_getChars_ba4f3_103 ?_
          refine zz_world (P' := (LPw (zz_A (ZW [(v, .inl (C 6, m0, .inl (tx t n)))]) s.heap.size) D [(v, .inl (C 6, m0, .inl (upd (px t n 2 (dgt i0 2) 1) (n + 0) (nI (48 + i0 / 10)))))])) (fun _ h => h) ?_
          refine zz_world (P' := (LPw (zz_A (ZW [(v, .inl (C 6, m0, .inl (tx t n)))]) s.heap.size) D [(v, .inl (C 6, m0, .inl (px t n 2 (dgt i0 2) 0)))])) (fun _ h => by rw [px_up (k := 0) (by decide) (by unfold dgt; simp only [show (10 : Nat) ^ (2 - 1 - 0) = 10 from rfl] <;> omega)] at h; exact h) ?_
          refine zz_iload 104 X.1 2 dJ6_getChars_ba4f3_104 rfl ?_
          refine zz_if_eq 106 118 X.1 (nI_toInt (by omega)) dJ6_getChars_ba4f3_106 (by decide) (fun h106 => ?_) (fun h106 => ?_)
          · skip
            refine zz_world (P' := (LPw (zz_A (ZW [(v, .inl (C 6, m0, .inl (tx t n)))]) s.heap.size) D [(v, .inl (C 6, m0, .inl (tx (cat t n (dgt i0 2)) (n + 2))))])) (fun _ h => by rw [px_0] at h; exact h) ?_
            refine zz_iload 118 X.1 0 dJ6_getChars_ba4f3_118 rfl ?_
            rw [← hQ]
            refine zz_iret 120 X.1 hr rfl hlk () ?_ (fun _ h _ => h) dJ6_getChars_ba4f3_120
            exact trivial
          · exfalso; omega
      · exfalso; omega
  · exfalso; omega

set_option maxHeartbeats 4000000 in
set_option maxRecDepth 100000 in
theorem kt_J6_getChars_3 (l : Launch) (D : va_G) (C : Nat → ClassId) (v : Nat) (n : Nat) (m0 : Nat) (t : Nat → Nat) (t1 : Nat) (t2 : Nat) (i0 : Nat) (hi : 100 ≤ i0 ∧ i0 < 1000) (hm : n + 3 ≤ m0 ∧ m0 < 1000) : SLi l yJ6_getChars_ba4f3 wsJ6_getChars_ba4f3 rm_J6_getChars_ba4f3 D C (DGx t1 t2) 0 0 [.int (nI i0), .int (nI (n + 3)), .ref v] [(v, .inl (C 6, m0, .inl (tx t n)))] (fun (_ : Unit) => [(v, .inl (C 6, m0, .inl (tx (cat t n (dgt i0 3)) (n + 3))))]) (fun (r : Int32) (u : Unit) => True) := by
  refine SLi_of (lv := [(0, .int (nI i0)), (1, .int (nI (n + 3))), (2, .ref v)]) (cc := cJ6_getChars_ba4f3) (maxL := 7) (ret := (some .int)) DGx_ok rfl (by decide +kernel) (Nat.le_of_ble_eq_true rfl) rfl ?_
  intro p e s m args below meth c X hB hin2 hml hr hlk
  have hA : ∀ q, s.heap.size ≤ q → (zz_A (ZW [(v, .inl (C 6, m0, .inl (tx t n)))]) s.heap.size) q := fun q h => Or.inr h
  generalize hQ : MQ below _ args s 0 0 _ = Q
  refine zz_world (P' := (LPw (zz_A (ZW [(v, .inl (C 6, m0, .inl (tx t n)))]) s.heap.size) D [(v, .inl (C 6, m0, .inl (px t n 3 (dgt i0 3) 3)))])) (fun H9 h => Eq.mp (congrArg (fun z9 : Nat → Int32 => LPw (zz_A (ZW [(v, .inl (C 6, m0, .inl (tx t n)))]) s.heap.size) D [(v, .inl (C 6, m0, .inl z9))] H9) (show tx t n = px t n 3 (dgt i0 3) 3 from px_w)) h) ?_
  refine zz_iload_n 0 X.1 1 dJ6_getChars_ba4f3_0 rfl ?_
  refine zz_istore 1 X.1 (lv' := [(5, .int (nI (n + 3))), (0, .int (nI i0)), (1, .int (nI (n + 3))), (2, .ref v)]) dJ6_getChars_ba4f3_1 (by decide) rfl ?_
  refine zz_iload_n 3 X.1 1 dJ6_getChars_ba4f3_3 rfl ?_
  refine zz_if_ge 4 11 X.1 (nI_toInt (by omega)) dJ6_getChars_ba4f3_4 (by decide) (fun h4 => ?_) (fun h4 => ?_)
  · skip
    refine zz_iconst 11 X.1 (v := nI 0) dJ6_getChars_ba4f3_11 rfl ?_
    refine zz_istore 12 X.1 (lv' := [(6, .int (nI 0)), (5, .int (nI (n + 3))), (0, .int (nI i0)), (1, .int (nI (n + 3))), (2, .ref v)]) dJ6_getChars_ba4f3_12 (by decide) rfl ?_
    refine zz_iload 14 X.1 0 dJ6_getChars_ba4f3_14 rfl ?_
    refine zz_if_ne 16 22 X.1 (nI_toInt (by omega)) dJ6_getChars_ba4f3_16 (by decide) (fun h16 => ?_) (fun h16 => ?_)
    · exfalso; omega
    · skip
      refine zz_iload_n 19 X.1 2 dJ6_getChars_ba4f3_19 rfl ?_
      refine zz_ineg 20 X.1 (v := (-(nI i0))) dJ6_getChars_ba4f3_20 rfl ?_
      refine zz_istore_n 21 X.1 (lv' := [(0, .int (-(nI i0))), (6, .int (nI 0)), (5, .int (nI (n + 3))), (1, .int (nI (n + 3))), (2, .ref v)]) dJ6_getChars_ba4f3_21 (by decide) rfl ?_
      refine zz_iload_n 22 X.1 0 dJ6_getChars_ba4f3_22 rfl ?_
      refine zz_bipush 23 X.1 (v := (-100)) dJ6_getChars_ba4f3_23 (by decide) ?_
      refine zz_icmp_gt 25 72 X.1 (gc_neg _ (by omega)) (by decide : (-100 : Int32).toInt = -100) dJ6_getChars_ba4f3_25 (by decide) (fun h25 => ?_) (fun h25 => ?_)
      · exfalso; omega
      · skip
        refine zz_iload_n 28 X.1 0 dJ6_getChars_ba4f3_28 rfl ?_
        refine zz_bipush 29 X.1 (v := nI 100) dJ6_getChars_ba4f3_29 rfl ?_
        refine zz_idiv 31 X.1 (v := (-(nI (i0 / 100)))) dJ6_getChars_ba4f3_31 (zn_ne0 (by omega) (by omega)) (gc_div _ (by omega)) ?_
        refine zz_istore_n 32 X.1 (lv' := [(3, .int (-(nI (i0 / 100)))), (0, .int (-(nI i0))), (6, .int (nI 0)), (5, .int (nI (n + 3))), (1, .int (nI (n + 3))), (2, .ref v)]) dJ6_getChars_ba4f3_32 (by decide) rfl ?_
        refine zz_iload_n 33 X.1 0 dJ6_getChars_ba4f3_33 rfl ?_
        refine zz_bipush 34 X.1 (v := nI 100) dJ6_getChars_ba4f3_34 rfl ?_
        refine zz_imul 36 X.1 (v := (-(nI (i0 / 100)) * nI 100)) dJ6_getChars_ba4f3_36 rfl ?_
        refine zz_iload_n 37 X.1 1 dJ6_getChars_ba4f3_37 rfl ?_
        refine zz_isub 38 X.1 (v := (nI (i0 % 100))) dJ6_getChars_ba4f3_38 (gc_rem _ (by omega)) ?_
        refine zz_istore 39 X.1 (lv' := [(4, .int (nI (i0 % 100))), (3, .int (-(nI (i0 / 100)))), (0, .int (-(nI i0))), (6, .int (nI 0)), (5, .int (nI (n + 3))), (1, .int (nI (n + 3))), (2, .ref v)]) dJ6_getChars_ba4f3_39 (by decide) rfl ?_
        refine zz_iload_n 41 X.1 1 dJ6_getChars_ba4f3_41 rfl ?_
        refine zz_istore_n 42 X.1 (lv' := [(0, .int (-(nI (i0 / 100)))), (4, .int (nI (i0 % 100))), (3, .int (-(nI (i0 / 100)))), (6, .int (nI 0)), (5, .int (nI (n + 3))), (1, .int (nI (n + 3))), (2, .ref v)]) dJ6_getChars_ba4f3_42 (by decide) rfl ?_
        refine zz_aload_n 43 X.1 6 dJ6_getChars_ba4f3_43 rfl ?_
        refine zz_iinc 44 X.1 4 (v := (nI (n + 2))) (lv' := [(5, .int (nI (n + 2))), (0, .int (-(nI (i0 / 100)))), (4, .int (nI (i0 % 100))), (3, .int (-(nI (i0 / 100)))), (6, .int (nI 0)), (1, .int (nI (n + 3))), (2, .ref v)]) dJ6_getChars_ba4f3_44 rfl (zn_dec 1 (by omega)) (by decide) rfl ?_
        refine zz_iload 47 X.1 0 dJ6_getChars_ba4f3_47 rfl ?_
        refine zs_getsG 49 X.1 X.2.2.1 hB.1 ((X.2.1 _ (by decide +kernel))) dJ6_getChars_ba4f3_49 ?_
        refine zz_iload 52 X.1 2 dJ6_getChars_ba4f3_52 rfl ?_
        refine zs_tb 54 X.1 hB.2.1 (i := nI (i0 % 100)) (vp_in_nI (show i0 % 100 < 100 by omega) (by decide)) (v := .int (nI (48 + (i0 % 100) % 10))) (by rw [nI_clamp (by omega)]) dJ6_getChars_ba4f3_54 ?_
        refine zl_bast 55 X 0 rfl (i := n + 2) (by omega) (by omega) (y := nI (48 + (i0 % 100) % 10)) (bt_nar _ (by omega)) dJ6_getChars_ba4f3_55 ?_
        refine zz_world (P' := (LPw (zz_A (ZW [(v, .inl (C 6, m0, .inl (tx t n)))]) s.heap.size) D [(v, .inl (C 6, m0, .inl (upd (px t n 3 (dgt i0 3) 3) (n + 2) (nI (48 + (i0 % 100) % 10)))))])) (fun _ h => h) ?_
        refine zz_world (P' := (LPw (zz_A (ZW [(v, .inl (C 6, m0, .inl (tx t n)))]) s.heap.size) D [(v, .inl (C 6, m0, .inl (px t n 3 (dgt i0 3) 2)))])) (fun _ h => by rw [px_up (k := 2) (by decide) (by unfold dgt; simp only [show (10 : Nat) ^ (3 - 1 - 2) = 1 from rfl] <;> omega)] at h; exact h) ?_
        refine zz_aload_n 56 X.1 6 dJ6_getChars_ba4f3_56 rfl ?_
        refine zz_iinc 57 X.1 0 (v := (nI (n + 1))) (lv' := [(5, .int (nI (n + 1))), (0, .int (-(nI (i0 / 100)))), (4, .int (nI (i0 % 100))), (3, .int (-(nI (i0 / 100)))), (6, .int (nI 0)), (1, .int (nI (n + 3))), (2, .ref v)]) dJ6_getChars_ba4f3_57 rfl (zn_dec 1 (by omega)) (by decide) rfl ?_
        refine zz_iload 60 X.1 0 dJ6_getChars_ba4f3_60 rfl ?_
        refine zs_getsG 62 X.1 X.2.2.1 hB.2.2.1 ((X.2.1 _ (by decide +kernel))) dJ6_getChars_ba4f3_62 ?_
        refine zz_iload 65 X.1 2 dJ6_getChars_ba4f3_65 rfl ?_
        refine zs_tb 67 X.1 hB.2.2.2 (i := nI (i0 % 100)) (vp_in_nI (show i0 % 100 < 100 by omega) (by decide)) (v := .int (nI (48 + (i0 % 100) / 10))) (by rw [nI_clamp (by omega)]) dJ6_getChars_ba4f3_67 ?_
        refine zl_bast 68 X 0 rfl (i := n + 1) (by omega) (by omega) (y := nI (48 + (i0 % 100) / 10)) (bt_nar _ (by omega)) dJ6_getChars_ba4f3_68 ?_
        refine zz_world (P' := (LPw (zz_A (ZW [(v, .inl (C 6, m0, .inl (tx t n)))]) s.heap.size) D [(v, .inl (C 6, m0, .inl (upd (px t n 3 (dgt i0 3) 2) (n + 1) (nI (48 + (i0 % 100) / 10)))))])) (fun _ h => h) ?_
        refine zz_world (P' := (LPw (zz_A (ZW [(v, .inl (C 6, m0, .inl (tx t n)))]) s.heap.size) D [(v, .inl (C 6, m0, .inl (px t n 3 (dgt i0 3) 1)))])) (fun _ h => by rw [px_up (k := 1) (by decide) (by unfold dgt; simp only [show (10 : Nat) ^ (3 - 1 - 1) = 10 from rfl] <;> omega)] at h; exact h) ?_
        refine zz_goto 69 22 X.1 dJ6_getChars_ba4f3_69 (by decide) ?_
        refine zz_iload_n 22 X.1 1 dJ6_getChars_ba4f3_22 rfl ?_
        refine zz_bipush 23 X.1 (v := (-100)) dJ6_getChars_ba4f3_23 (by decide) ?_
        refine zz_icmp_gt 25 72 X.1 (gc_neg _ (by omega)) (by decide : (-100 : Int32).toInt = -100) dJ6_getChars_ba4f3_25 (by decide) (fun h25 => ?_) (fun h25 => ?_)
        · skip
          refine zz_aload_n 72 X.1 6 dJ6_getChars_ba4f3_72 rfl ?_
          refine zz_iinc 73 X.1 0 (v := (nI (n + 0))) (lv' := [(5, .int (nI (n + 0))), (0, .int (-(nI (i0 / 100)))), (4, .int (nI (i0 % 100))), (3, .int (-(nI (i0 / 100)))), (6, .int (nI 0)), (1, .int (nI (n + 3))), (2, .ref v)]) dJ6_getChars_ba4f3_73 rfl (zn_dec 1 (by omega)) (by decide) rfl ?_
          refine zz_iload 76 X.1 0 dJ6_getChars_ba4f3_76 rfl ?_
          refine zs_getsG 78 X.1 X.2.2.1 hB.1 ((X.2.1 _ (by decide +kernel))) dJ6_getChars_ba4f3_78 ?_
          refine zz_iload_n 81 X.1 1 dJ6_getChars_ba4f3_81 rfl ?_
          refine zz_ineg 82 X.1 (v := (nI (i0 / 100))) dJ6_getChars_ba4f3_82 (gc_nn _ (by omega)) ?_
          refine zs_tb 83 X.1 hB.2.1 (i := nI (i0 / 100)) (vp_in_nI (show i0 / 100 < 100 by omega) (by decide)) (v := .int (nI (48 + (i0 / 100) % 10))) (by rw [nI_clamp (by omega)]) dJ6_getChars_ba4f3_83 ?_
          refine zl_bast 84 X 0 rfl (i := n + 0) (by omega) (by omega) (y := nI (48 + (i0 / 100) % 10)) (bt_nar _ (by omega)) dJ6_getChars_ba4f3_84 ?_
          refine zz_world (P' := (LPw (zz_A (ZW [(v, .inl (C 6, m0, .inl (tx t n)))]) s.heap.size) D [(v, .inl (C 6, m0, .inl (upd (px t n 3 (dgt i0 3) 1) (n + 0) (nI (48 + (i0 / 100) % 10)))))])) (fun _ h => h) ?_
          refine zz_world (P' := (LPw (zz_A (ZW [(v, .inl (C 6, m0, .inl (tx t n)))]) s.heap.size) D [(v, .inl (C 6, m0, .inl (px t n 3 (dgt i0 3) 0)))])) (fun _ h => by rw [px_up (k := 0) (by decide) (by unfold dgt; simp only [show (10 : Nat) ^ (3 - 1 - 0) = 100 from rfl] <;> omega)] at h; exact h) ?_
          refine zz_iload_n 85 X.1 1 dJ6_getChars_ba4f3_85 rfl ?_
          refine zz_bipush 86 X.1 (v := (-9)) dJ6_getChars_ba4f3_86 (by decide) ?_
          refine zz_icmp_ge 88 104 X.1 (gc_neg _ (by omega)) (by decide : (-9 : Int32).toInt = -9) dJ6_getChars_ba4f3_88 (by decide) (fun h88 => ?_) (fun h88 => ?_)
          · skip
            refine zz_iload 104 X.1 4 dJ6_getChars_ba4f3_104 rfl ?_
            refine zz_if_eq 106 118 X.1 (nI_toInt (by omega)) dJ6_getChars_ba4f3_106 (by decide) (fun h106 => ?_) (fun h106 => ?_)
            · skip
              refine zz_world (P' := (LPw (zz_A (ZW [(v, .inl (C 6, m0, .inl (tx t n)))]) s.heap.size) D [(v, .inl (C 6, m0, .inl (tx (cat t n (dgt i0 3)) (n + 3))))])) (fun _ h => by rw [px_0] at h; exact h) ?_
              refine zz_iload 118 X.1 0 dJ6_getChars_ba4f3_118 rfl ?_
              rw [← hQ]
              refine zz_iret 120 X.1 hr rfl hlk () ?_ (fun _ h _ => h) dJ6_getChars_ba4f3_120
              exact trivial
            · exfalso; omega
          · exfalso; omega
        · exfalso; omega
  · exfalso; omega

set_option maxHeartbeats 4000000 in
set_option maxRecDepth 100000 in
theorem kt_J6_getChars_4 (l : Launch) (D : va_G) (C : Nat → ClassId) (v : Nat) (n : Nat) (m0 : Nat) (t : Nat → Nat) (t1 : Nat) (t2 : Nat) (i0 : Nat) (hi : 1000 ≤ i0 ∧ i0 < 1024) (hm : n + 4 ≤ m0 ∧ m0 < 1000) : SLi l yJ6_getChars_ba4f3 wsJ6_getChars_ba4f3 rm_J6_getChars_ba4f3 D C (DGx t1 t2) 0 0 [.int (nI i0), .int (nI (n + 4)), .ref v] [(v, .inl (C 6, m0, .inl (tx t n)))] (fun (_ : Unit) => [(v, .inl (C 6, m0, .inl (tx (cat t n (dgt i0 4)) (n + 4))))]) (fun (r : Int32) (u : Unit) => True) := by
  refine SLi_of (lv := [(0, .int (nI i0)), (1, .int (nI (n + 4))), (2, .ref v)]) (cc := cJ6_getChars_ba4f3) (maxL := 7) (ret := (some .int)) DGx_ok rfl (by decide +kernel) (Nat.le_of_ble_eq_true rfl) rfl ?_
  intro p e s m args below meth c X hB hin2 hml hr hlk
  have hA : ∀ q, s.heap.size ≤ q → (zz_A (ZW [(v, .inl (C 6, m0, .inl (tx t n)))]) s.heap.size) q := fun q h => Or.inr h
  generalize hQ : MQ below _ args s 0 0 _ = Q
  refine zz_world (P' := (LPw (zz_A (ZW [(v, .inl (C 6, m0, .inl (tx t n)))]) s.heap.size) D [(v, .inl (C 6, m0, .inl (px t n 4 (dgt i0 4) 4)))])) (fun H9 h => Eq.mp (congrArg (fun z9 : Nat → Int32 => LPw (zz_A (ZW [(v, .inl (C 6, m0, .inl (tx t n)))]) s.heap.size) D [(v, .inl (C 6, m0, .inl z9))] H9) (show tx t n = px t n 4 (dgt i0 4) 4 from px_w)) h) ?_
  refine zz_iload_n 0 X.1 1 dJ6_getChars_ba4f3_0 rfl ?_
  refine zz_istore 1 X.1 (lv' := [(5, .int (nI (n + 4))), (0, .int (nI i0)), (1, .int (nI (n + 4))), (2, .ref v)]) dJ6_getChars_ba4f3_1 (by decide) rfl ?_
  refine zz_iload_n 3 X.1 1 dJ6_getChars_ba4f3_3 rfl ?_
  refine zz_if_ge 4 11 X.1 (nI_toInt (by omega)) dJ6_getChars_ba4f3_4 (by decide) (fun h4 => ?_) (fun h4 => ?_)
  · skip
    refine zz_iconst 11 X.1 (v := nI 0) dJ6_getChars_ba4f3_11 rfl ?_
    refine zz_istore 12 X.1 (lv' := [(6, .int (nI 0)), (5, .int (nI (n + 4))), (0, .int (nI i0)), (1, .int (nI (n + 4))), (2, .ref v)]) dJ6_getChars_ba4f3_12 (by decide) rfl ?_
    refine zz_iload 14 X.1 0 dJ6_getChars_ba4f3_14 rfl ?_
    refine zz_if_ne 16 22 X.1 (nI_toInt (by omega)) dJ6_getChars_ba4f3_16 (by decide) (fun h16 => ?_) (fun h16 => ?_)
    · exfalso; omega
    · skip
      refine zz_iload_n 19 X.1 2 dJ6_getChars_ba4f3_19 rfl ?_
      refine zz_ineg 20 X.1 (v := (-(nI i0))) dJ6_getChars_ba4f3_20 rfl ?_
      refine zz_istore_n 21 X.1 (lv' := [(0, .int (-(nI i0))), (6, .int (nI 0)), (5, .int (nI (n + 4))), (1, .int (nI (n + 4))), (2, .ref v)]) dJ6_getChars_ba4f3_21 (by decide) rfl ?_
      refine zz_iload_n 22 X.1 0 dJ6_getChars_ba4f3_22 rfl ?_
      refine zz_bipush 23 X.1 (v := (-100)) dJ6_getChars_ba4f3_23 (by decide) ?_
      refine zz_icmp_gt 25 72 X.1 (gc_neg _ (by omega)) (by decide : (-100 : Int32).toInt = -100) dJ6_getChars_ba4f3_25 (by decide) (fun h25 => ?_) (fun h25 => ?_)
      · exfalso; omega
      · skip
        refine zz_iload_n 28 X.1 0 dJ6_getChars_ba4f3_28 rfl ?_
        refine zz_bipush 29 X.1 (v := nI 100) dJ6_getChars_ba4f3_29 rfl ?_
        refine zz_idiv 31 X.1 (v := (-(nI (i0 / 100)))) dJ6_getChars_ba4f3_31 (zn_ne0 (by omega) (by omega)) (gc_div _ (by omega)) ?_
        refine zz_istore_n 32 X.1 (lv' := [(3, .int (-(nI (i0 / 100)))), (0, .int (-(nI i0))), (6, .int (nI 0)), (5, .int (nI (n + 4))), (1, .int (nI (n + 4))), (2, .ref v)]) dJ6_getChars_ba4f3_32 (by decide) rfl ?_
        refine zz_iload_n 33 X.1 0 dJ6_getChars_ba4f3_33 rfl ?_
        refine zz_bipush 34 X.1 (v := nI 100) dJ6_getChars_ba4f3_34 rfl ?_
        refine zz_imul 36 X.1 (v := (-(nI (i0 / 100)) * nI 100)) dJ6_getChars_ba4f3_36 rfl ?_
        refine zz_iload_n 37 X.1 1 dJ6_getChars_ba4f3_37 rfl ?_
        refine zz_isub 38 X.1 (v := (nI (i0 % 100))) dJ6_getChars_ba4f3_38 (gc_rem _ (by omega)) ?_
        refine zz_istore 39 X.1 (lv' := [(4, .int (nI (i0 % 100))), (3, .int (-(nI (i0 / 100)))), (0, .int (-(nI i0))), (6, .int (nI 0)), (5, .int (nI (n + 4))), (1, .int (nI (n + 4))), (2, .ref v)]) dJ6_getChars_ba4f3_39 (by decide) rfl ?_
        refine zz_iload_n 41 X.1 1 dJ6_getChars_ba4f3_41 rfl ?_
        refine zz_istore_n 42 X.1 (lv' := [(0, .int (-(nI (i0 / 100)))), (4, .int (nI (i0 % 100))), (3, .int (-(nI (i0 / 100)))), (6, .int (nI 0)), (5, .int (nI (n + 4))), (1, .int (nI (n + 4))), (2, .ref v)]) dJ6_getChars_ba4f3_42 (by decide) rfl ?_
        refine zz_aload_n 43 X.1 6 dJ6_getChars_ba4f3_43 rfl ?_
        refine zz_iinc 44 X.1 4 (v := (nI (n + 3))) (lv' := [(5, .int (nI (n + 3))), (0, .int (-(nI (i0 / 100)))), (4, .int (nI (i0 % 100))), (3, .int (-(nI (i0 / 100)))), (6, .int (nI 0)), (1, .int (nI (n + 4))), (2, .ref v)]) dJ6_getChars_ba4f3_44 rfl (zn_dec 1 (by omega)) (by decide) rfl ?_
        refine zz_iload 47 X.1 0 dJ6_getChars_ba4f3_47 rfl ?_
        refine zs_getsG 49 X.1 X.2.2.1 hB.1 ((X.2.1 _ (by decide +kernel))) dJ6_getChars_ba4f3_49 ?_
        refine zz_iload 52 X.1 2 dJ6_getChars_ba4f3_52 rfl ?_
        refine zs_tb 54 X.1 hB.2.1 (i := nI (i0 % 100)) (vp_in_nI (show i0 % 100 < 100 by omega) (by decide)) (v := .int (nI (48 + (i0 % 100) % 10))) (by rw [nI_clamp (by omega)]) dJ6_getChars_ba4f3_54 ?_
        refine zl_bast 55 X 0 rfl (i := n + 3) (by omega) (by omega) (y := nI (48 + (i0 % 100) % 10)) (bt_nar _ (by omega)) dJ6_getChars_ba4f3_55 ?_
        refine zz_world (P' := (LPw (zz_A (ZW [(v, .inl (C 6, m0, .inl (tx t n)))]) s.heap.size) D [(v, .inl (C 6, m0, .inl (upd (px t n 4 (dgt i0 4) 4) (n + 3) (nI (48 + (i0 % 100) % 10)))))])) (fun _ h => h) ?_
        refine zz_world (P' := (LPw (zz_A (ZW [(v, .inl (C 6, m0, .inl (tx t n)))]) s.heap.size) D [(v, .inl (C 6, m0, .inl (px t n 4 (dgt i0 4) 3)))])) (fun _ h => by rw [px_up (k := 3) (by decide) (by unfold dgt; simp only [show (10 : Nat) ^ (4 - 1 - 3) = 1 from rfl] <;> omega)] at h; exact h) ?_
        refine zz_aload_n 56 X.1 6 dJ6_getChars_ba4f3_56 rfl ?_
        refine zz_iinc 57 X.1 0 (v := (nI (n + 2))) (lv' := [(5, .int (nI (n + 2))), (0, .int (-(nI (i0 / 100)))), (4, .int (nI (i0 % 100))), (3, .int (-(nI (i0 / 100)))), (6, .int (nI 0)), (1, .int (nI (n + 4))), (2, .ref v)]) dJ6_getChars_ba4f3_57 rfl (zn_dec 1 (by omega)) (by decide) rfl ?_
        refine zz_iload 60 X.1 0 dJ6_getChars_ba4f3_60 rfl ?_
        refine zs_getsG 62 X.1 X.2.2.1 hB.2.2.1 ((X.2.1 _ (by decide +kernel))) dJ6_getChars_ba4f3_62 ?_
        refine zz_iload 65 X.1 2 dJ6_getChars_ba4f3_65 rfl ?_
        refine zs_tb 67 X.1 hB.2.2.2 (i := nI (i0 % 100)) (vp_in_nI (show i0 % 100 < 100 by omega) (by decide)) (v := .int (nI (48 + (i0 % 100) / 10))) (by rw [nI_clamp (by omega)]) dJ6_getChars_ba4f3_67 ?_
        refine zl_bast 68 X 0 rfl (i := n + 2) (by omega) (by omega) (y := nI (48 + (i0 % 100) / 10)) (bt_nar _ (by omega)) dJ6_getChars_ba4f3_68 ?_
        refine zz_world (P' := (LPw (zz_A (ZW [(v, .inl (C 6, m0, .inl (tx t n)))]) s.heap.size) D [(v, .inl (C 6, m0, .inl (upd (px t n 4 (dgt i0 4) 3) (n + 2) (nI (48 + (i0 % 100) / 10)))))])) (fun _ h => h) ?_
        refine zz_world (P' := (LPw (zz_A (ZW [(v, .inl (C 6, m0, .inl (tx t n)))]) s.heap.size) D [(v, .inl (C 6, m0, .inl (px t n 4 (dgt i0 4) 2)))])) (fun _ h => by rw [px_up (k := 2) (by decide) (by unfold dgt; simp only [show (10 : Nat) ^ (4 - 1 - 2) = 10 from rfl] <;> omega)] at h; exact h) ?_
        refine zz_goto 69 22 X.1 dJ6_getChars_ba4f3_69 (by decide) ?_
        refine zz_iload_n 22 X.1 1 dJ6_getChars_ba4f3_22 rfl ?_
        refine zz_bipush 23 X.1 (v := (-100)) dJ6_getChars_ba4f3_23 (by decide) ?_
        refine zz_icmp_gt 25 72 X.1 (gc_neg _ (by omega)) (by decide : (-100 : Int32).toInt = -100) dJ6_getChars_ba4f3_25 (by decide) (fun h25 => ?_) (fun h25 => ?_)
        · skip
          refine zz_aload_n 72 X.1 6 dJ6_getChars_ba4f3_72 rfl ?_
          refine zz_iinc 73 X.1 0 (v := (nI (n + 1))) (lv' := [(5, .int (nI (n + 1))), (0, .int (-(nI (i0 / 100)))), (4, .int (nI (i0 % 100))), (3, .int (-(nI (i0 / 100)))), (6, .int (nI 0)), (1, .int (nI (n + 4))), (2, .ref v)]) dJ6_getChars_ba4f3_73 rfl (zn_dec 1 (by omega)) (by decide) rfl ?_
          refine zz_iload 76 X.1 0 dJ6_getChars_ba4f3_76 rfl ?_
          refine zs_getsG 78 X.1 X.2.2.1 hB.1 ((X.2.1 _ (by decide +kernel))) dJ6_getChars_ba4f3_78 ?_
          refine zz_iload_n 81 X.1 1 dJ6_getChars_ba4f3_81 rfl ?_
          refine zz_ineg 82 X.1 (v := (nI (i0 / 100))) dJ6_getChars_ba4f3_82 (gc_nn _ (by omega)) ?_
          refine zs_tb 83 X.1 hB.2.1 (i := nI (i0 / 100)) (vp_in_nI (show i0 / 100 < 100 by omega) (by decide)) (v := .int (nI (48 + (i0 / 100) % 10))) (by rw [nI_clamp (by omega)]) dJ6_getChars_ba4f3_83 ?_
          refine zl_bast 84 X 0 rfl (i := n + 1) (by omega) (by omega) (y := nI (48 + (i0 / 100) % 10)) (bt_nar _ (by omega)) dJ6_getChars_ba4f3_84 ?_
          refine zz_world (P' := (LPw (zz_A (ZW [(v, .inl (C 6, m0, .inl (tx t n)))]) s.heap.size) D [(v, .inl (C 6, m0, .inl (upd (px t n 4 (dgt i0 4) 2) (n + 1) (nI (48 + (i0 / 100) % 10)))))])) (fun _ h => h) ?_
          refine zz_world (P' := (LPw (zz_A (ZW [(v, .inl (C 6, m0, .inl (tx t n)))]) s.heap.size) D [(v, .inl (C 6, m0, .inl (px t n 4 (dgt i0 4) 1)))])) (fun _ h => by rw [px_up (k := 1) (by decide) (by unfold dgt; simp only [show (10 : Nat) ^ (4 - 1 - 1) = 100 from rfl] <;> omega)] at h; exact h) ?_
          refine zz_iload_n 85 X.1 1 dJ6_getChars_ba4f3_85 rfl ?_
          refine zz_bipush 86 X.1 (v := (-9)) dJ6_getChars_ba4f3_86 (by decide) ?_
          refine zz_icmp_ge 88 104 X.1 (gc_neg _ (by omega)) (by decide : (-9 : Int32).toInt = -9) dJ6_getChars_ba4f3_88 (by decide) (fun h88 => ?_) (fun h88 => ?_)
          · exfalso; omega
          · skip
            refine zz_aload_n 91 X.1 6 dJ6_getChars_ba4f3_91 rfl ?_
            refine zz_iinc 92 X.1 0 (v := (nI (n + 0))) (lv' := [(5, .int (nI (n + 0))), (0, .int (-(nI (i0 / 100)))), (4, .int (nI (i0 % 100))), (3, .int (-(nI (i0 / 100)))), (6, .int (nI 0)), (1, .int (nI (n + 4))), (2, .ref v)]) dJ6_getChars_ba4f3_92 rfl (zn_dec 1 (by omega)) (by decide) rfl ?_
            refine zz_iload 95 X.1 0 dJ6_getChars_ba4f3_95 rfl ?_
            refine zs_getsG 97 X.1 X.2.2.1 hB.2.2.1 ((X.2.1 _ (by decide +kernel))) dJ6_getChars_ba4f3_97 ?_
            refine zz_iload_n 100 X.1 1 dJ6_getChars_ba4f3_100 rfl ?_
            refine zz_ineg 101 X.1 (v := (nI (i0 / 100))) dJ6_getChars_ba4f3_101 (gc_nn _ (by omega)) ?_
            refine zs_tb 102 X.1 hB.2.2.2 (i := nI (i0 / 100)) (vp_in_nI (show i0 / 100 < 100 by omega) (by decide)) (v := .int (nI (48 + (i0 / 100) / 10))) (by rw [nI_clamp (by omega)]) dJ6_getChars_ba4f3_102 ?_
            refine zl_bast 103 X 0 rfl (i := n + 0) (by omega) (by omega) (y := nI (48 + (i0 / 100) / 10)) (bt_nar _ (by omega)) dJ6_getChars_ba4f3_103 ?_
            refine zz_world (P' := (LPw (zz_A (ZW [(v, .inl (C 6, m0, .inl (tx t n)))]) s.heap.size) D [(v, .inl (C 6, m0, .inl (upd (px t n 4 (dgt i0 4) 1) (n + 0) (nI (48 + (i0 / 100) / 10)))))])) (fun _ h => h) ?_
            refine zz_world (P' := (LPw (zz_A (ZW [(v, .inl (C 6, m0, .inl (tx t n)))]) s.heap.size) D [(v, .inl (C 6, m0, .inl (px t n 4 (dgt i0 4) 0)))])) (fun _ h => by rw [px_up (k := 0) (by decide) (by unfold dgt; simp only [show (10 : Nat) ^ (4 - 1 - 0) = 1000 from rfl] <;> omega)] at h; exact h) ?_
            refine zz_iload 104 X.1 4 dJ6_getChars_ba4f3_104 rfl ?_
            refine zz_if_eq 106 118 X.1 (nI_toInt (by omega)) dJ6_getChars_ba4f3_106 (by decide) (fun h106 => ?_) (fun h106 => ?_)
            · skip
              refine zz_world (P' := (LPw (zz_A (ZW [(v, .inl (C 6, m0, .inl (tx t n)))]) s.heap.size) D [(v, .inl (C 6, m0, .inl (tx (cat t n (dgt i0 4)) (n + 4))))])) (fun _ h => by rw [px_0] at h; exact h) ?_
              refine zz_iload 118 X.1 0 dJ6_getChars_ba4f3_118 rfl ?_
              rw [← hQ]
              refine zz_iret 120 X.1 hr rfl hlk () ?_ (fun _ h _ => h) dJ6_getChars_ba4f3_120
              exact trivial
            · exfalso; omega
        · exfalso; omega
  · exfalso; omega

theorem kt_J6_getChars (l : Launch) (D : va_G) (C : Nat → ClassId) (v : Nat) (n : Nat) (m0 : Nat) (t : Nat → Nat) (t1 : Nat) (t2 : Nat) (i0 : Nat) (w : Nat) (hw : w = dgs i0) (hi : i0 < 1024) (hm : n + w ≤ m0 ∧ m0 < 1000) : SLi l yJ6_getChars_ba4f3 wsJ6_getChars_ba4f3 rm_J6_getChars_ba4f3 D C (DGx t1 t2) 0 0 [.int (nI i0), .int (nI (n + w)), .ref v] [(v, .inl (C 6, m0, .inl (tx t n)))] (fun (_ : Unit) => [(v, .inl (C 6, m0, .inl (tx (cat t n (dgt i0 w)) (n + w))))]) (fun (r : Int32) (u : Unit) => True) := by
  have h4 : w = 1 ∧ i0 < 10 ∨ w = 2 ∧ (10 ≤ i0 ∧ i0 < 100) ∨ w = 3 ∧ (100 ≤ i0 ∧ i0 < 1000) ∨ w = 4 ∧ (1000 ≤ i0 ∧ i0 < 1024) := by
    unfold dgs at hw
    split at hw
    · omega
    · split at hw
      · omega
      · split at hw <;> omega
  rcases h4 with ⟨rfl, h⟩ | ⟨rfl, h⟩ | ⟨rfl, h⟩ | ⟨rfl, h⟩
  · exact kt_J6_getChars_1 l D C v n m0 t t1 t2 i0 h hm
  · exact kt_J6_getChars_2 l D C v n m0 t t1 t2 i0 h hm
  · exact kt_J6_getChars_3 l D C v n m0 t t1 t2 i0 h hm
  · exact kt_J6_getChars_4 l D C v n m0 t t1 t2 i0 h hm

abbrev rm_J5_append_c97b9 : Room := { frames := 4, cells := 1, slots := 34, locals := 104 }
theorem yd_J5_append_c97b9 : yJ5_append_c97b9.cls = RJ5 ∧ yJ5_append_c97b9.cls ≠ "java/lang/invoke/MethodHandle" ∧ yJ5_append_c97b9.cls ≠ "java/lang/invoke/VarHandle" ∧ (parseMethodDescriptor yJ5_append_c97b9.desc).map (fun d => d.parameters.length) = some 1 := by decide +kernel
set_option maxHeartbeats 4000000 in
set_option maxRecDepth 100000 in
theorem kt_J5_append_c97b9 (l : Launch) (D : va_G) (C : Nat → ClassId) (a : Nat) (v : Nat) (n : Nat) (m0 : Nat) (t : Nat → Nat) (t1 : Nat) (t2 : Nat) (i0 : Nat) (hm : m0 = 16 ∨ m0 = 34) (hn : n ≤ m0) (hw : n + dgs i0 ≤ 34) (ht : ∀ j, t j < 128) (hi : i0 < 1024) : SLr l yJ5_append_c97b9 wsJ5_append_c97b9 rm_J5_append_c97b9 D C (DCx t1 t2) 1 34 [.ref a, .int (nI i0)] [(a, .inr (9, [.ref v, .int 0, .int 0, .int (nI n)])), (v, .inl (C 6, m0, .inl (tx t n)))] (fun (u : Nat × Nat) => [(a, .inr (9, [.ref u.1, .int 0, .int 0, .int (nI (n + dgs i0))])), (u.1, .inl (C 6, u.2, .inl (tx (cat t n (dgt i0 (dgs i0))) (n + dgs i0))))]) (fun u => a) (fun (u : Nat × Nat) => (u.2 = 16 ∨ u.2 = 34) ∧ n + dgs i0 ≤ u.2) := by
  refine SLr_of (lv := [(0, .ref a), (1, .int (nI i0))]) (cc := cJ5_append_c97b9) (maxL := 4) (ret := (some (.object "java/lang/AbstractStringBuilder"))) DCx_ok rfl (by decide +kernel) (Nat.le_of_ble_eq_true rfl) rfl ?_
  intro p e s m args below meth c X hB hin2 hml hr hlk
  have hA : ∀ q, s.heap.size ≤ q → (zz_A (ZW [(a, .inr (9, [.ref v, .int 0, .int 0, .int (nI n)])), (v, .inl (C 6, m0, .inl (tx t n)))]) s.heap.size) q := fun q h => Or.inr h
  generalize hQ : MQ below _ args s 1 34 _ = Q
  refine zz_aload_n 0 X.1 0 dJ5_append_c97b9_0 rfl ?_
  refine zl_getS 1 X (Cn := RJ4) (ref := RJ5) (T := TJ4) (N0 := 4) (ci := 9) (by decide +kernel) rfl 0 rfl 3 (by decide) (by decide +kernel) rfl (v := .int (nI n)) rfl dJ5_append_c97b9_1 ?_
  refine zz_istore_n 4 X.1 (lv' := [(2, .int (nI n)), (0, .ref a), (1, .int (nI i0))]) dJ5_append_c97b9_4 (by decide) rfl ?_
  refine zz_iload_n 5 X.1 0 dJ5_append_c97b9_5 rfl ?_
  refine zz_iload_n 6 X.1 2 dJ5_append_c97b9_6 rfl ?_
  refine zz_callSNi 7 NNx_ok (show NNx _ _ from trivial) ⟨X.1.1, X.1.2, hml, X.2.2.1, X.2.1⟩ (fun q h => Or.inr h) LPw_keep (As := [.int (nI i0)]) (kt_J6_stringSize_0f7a4 l i0 (by first | rfl | assumption | omega)) gJ5_append_c97b9_J6_stringSize_0f7a4 rfl ⟨rfl, rfl⟩ yd_J6_stringSize_0f7a4.2 ⟨Nat.le_of_ble_eq_true rfl, Nat.le_of_ble_eq_true rfl⟩ rfl rfl (Nat.le_of_ble_eq_true rfl) ⟨Nat.le_of_ble_eq_true rfl, Nat.le_of_ble_eq_true rfl⟩ dJ5_append_c97b9_7 ?_
  intro r1 hu1
  obtain rfl := hu1
  refine zz_iadd 10 X.1 (v := (nI (n + (dgs i0)))) dJ5_append_c97b9_10 (nI_add _ _) ?_
  refine zz_istore_n 11 X.1 (lv' := [(3, .int (nI (n + (dgs i0)))), (2, .int (nI n)), (0, .ref a), (1, .int (nI i0))]) dJ5_append_c97b9_11 (by decide) rfl ?_
  refine zz_aload_n 12 X.1 2 dJ5_append_c97b9_12 rfl ?_
  refine zz_iload_n 13 X.1 0 dJ5_append_c97b9_13 rfl ?_
  refine sl_callUv 14 X hml hA COx_ok hB.2 (R0 := []) (As := [.int (nI (n + (dgs i0)))]) (Cn := RJ4) (owner := "java/lang/AbstractStringBuilder") (yx := ⟨"java/lang/AbstractStringBuilder", "ensureCapacityInternal", "(I)V"⟩) (na := 1) (kt_J5_ensureCapacityInternal_d00df l D C a v n m0 t (n + (dgs i0)) (by first | rfl | assumption | omega) (by first | rfl | assumption | omega) (by first | rfl | assumption | omega) (by first | rfl | assumption | omega)) gJ5_append_c97b9_J5_ensureCapacityInternal_d00df_u100J4 rfl ⟨rfl, rfl⟩ rfl (by decide +kernel) ⟨Nat.le_of_ble_eq_true rfl, Nat.le_of_ble_eq_true rfl⟩ (fun H locs hP hS => va_recv X.2.2.2 hP.1 (ci := 9) (q0 := 0) rfl rfl) rfl rfl (Nat.le_of_ble_eq_true rfl) ⟨Nat.le_of_ble_eq_true rfl, Nat.le_of_ble_eq_true rfl⟩ dJ5_append_c97b9_14 ?_
  rintro ⟨w2, k2⟩ ⟨hf2_0, hf2_1, hf2_2⟩
  refine zz_world (P' := (LPw (zz_A (ZW [(a, .inr (9, [.ref v, .int 0, .int 0, .int (nI n)])), (v, .inl (C 6, m0, .inl (tx t n)))]) s.heap.size) D [(a, .inr (9, [.ref w2, .int 0, .int 0, .int (nI n)])), (w2, .inl (C 6, k2, .inl (tx t n)))])) (fun _ h => h) ?_
  refine zz_aload_n 17 X.1 2 dJ5_append_c97b9_17 rfl ?_
  refine sl_callUi 18 X hml hA COx_ok hB.2 (R0 := []) (As := []) (Cn := RJ4) (owner := "java/lang/AbstractStringBuilder") (yx := ⟨"java/lang/AbstractStringBuilder", "isLatin1", "()Z"⟩) (na := 0) (kt_J5_isLatin1_aae02 l D C a w2 n k2 t ) gJ5_append_c97b9_J5_isLatin1_aae02_u83J4 rfl ⟨rfl, rfl⟩ rfl (by decide +kernel) ⟨Nat.le_of_ble_eq_true rfl, Nat.le_of_ble_eq_true rfl⟩ (fun H locs hP hS => va_recv X.2.2.2 hP.1 (ci := 9) (q0 := 0) rfl rfl) rfl rfl (Nat.le_of_ble_eq_true rfl) ⟨Nat.le_of_ble_eq_true rfl, Nat.le_of_ble_eq_true rfl⟩ dJ5_append_c97b9_18 ?_
  rintro r3 _ rfl
  refine zz_world (P' := (LPw (zz_A (ZW [(a, .inr (9, [.ref v, .int 0, .int 0, .int (nI n)])), (v, .inl (C 6, m0, .inl (tx t n)))]) s.heap.size) D [(a, .inr (9, [.ref w2, .int 0, .int 0, .int (nI n)])), (w2, .inl (C 6, k2, .inl (tx t n)))])) (fun _ h => h) ?_
  refine zz_ifB_eq 21 37 X.1 dJ5_append_c97b9_21 (by decide) (fun h21 => ?_) (fun h21 => ?_)
  · exact absurd h21 (by decide)
  · skip
    refine zz_iload_n 24 X.1 3 dJ5_append_c97b9_24 rfl ?_
    refine zz_iload_n 25 X.1 0 dJ5_append_c97b9_25 rfl ?_
    refine zz_aload_n 26 X.1 2 dJ5_append_c97b9_26 rfl ?_
    refine zl_getS 27 X (Cn := RJ4) (ref := RJ5) (T := TJ4) (N0 := 4) (ci := 9) (by decide +kernel) rfl 0 rfl 0 (by decide) (by decide +kernel) rfl (v := .ref w2) rfl dJ5_append_c97b9_27 ?_
    refine sl_callSi 30 X hml hA DGx_ok hB.1 (R0 := [(a, .inr (9, [.ref w2, .int 0, .int 0, .int (nI n)]))]) (As := [.int (nI i0), .int (nI (n + (dgs i0))), .ref w2]) (kt_J6_getChars l D C w2 n k2 t t1 t2 i0 (dgs i0) (by first | rfl | assumption | omega) (by first | rfl | assumption | omega) (by first | rfl | assumption | omega)) gJ5_append_c97b9_J6_getChars_ba4f3 rfl ⟨rfl, rfl⟩ yd_J6_getChars_ba4f3.2 ⟨Nat.le_of_ble_eq_true rfl, Nat.le_of_ble_eq_true rfl⟩ rfl rfl (Nat.le_of_ble_eq_true rfl) ⟨Nat.le_of_ble_eq_true rfl, Nat.le_of_ble_eq_true rfl⟩ dJ5_append_c97b9_30 ?_
    rintro r4 _ _
    refine zz_world (P' := (LPw (zz_A (ZW [(a, .inr (9, [.ref v, .int 0, .int 0, .int (nI n)])), (v, .inl (C 6, m0, .inl (tx t n)))]) s.heap.size) D [(a, .inr (9, [.ref w2, .int 0, .int 0, .int (nI n)])), (w2, .inl (C 6, k2, .inl (tx (cat t n (dgt i0 (dgs i0))) (n + (dgs i0)))))])) (fun _ h => h) ?_
    refine zz_pop 33 X.1 dJ5_append_c97b9_33 rfl ?_
    refine zz_goto 34 48 X.1 dJ5_append_c97b9_34 (by decide) ?_
    refine zz_aload_n 48 X.1 2 dJ5_append_c97b9_48 rfl ?_
    refine zz_iload_n 49 X.1 0 dJ5_append_c97b9_49 rfl ?_
    refine zl_putS 50 X (Cn := RJ4) (ref := RJ5) (T := TJ4) (N0 := 4) (ci := 9) (ty := .int) (by decide +kernel) tyJ4 tyJ4_ok nmJ4 rfl 0 rfl 3 (by decide) (by decide +kernel) rfl rfl (v := .int (nI (n + (dgs i0)))) (by decide +kernel) rfl rfl (show 3 < 4 by decide) dJ5_append_c97b9_50 ?_
    refine zz_world (P' := (LPw (zz_A (ZW [(a, .inr (9, [.ref v, .int 0, .int 0, .int (nI n)])), (v, .inl (C 6, m0, .inl (tx t n)))]) s.heap.size) D [(a, .inr (9, [.ref w2, .int 0, .int 0, .int (nI (n + (dgs i0)))])), (w2, .inl (C 6, k2, .inl (tx (cat t n (dgt i0 (dgs i0))) (n + (dgs i0)))))])) (fun _ h => h) ?_
    refine zz_aload_n 53 X.1 2 dJ5_append_c97b9_53 rfl ?_
    rw [← hQ]
    refine zz_aret 54 X.1 hr (Or.inl ⟨_, rfl⟩) hlk (w2, k2) ?_ (fun _ h _ => ⟨rfl, h⟩) dJ5_append_c97b9_54
    exact ⟨by omega, by omega⟩

abbrev rm_J4_append_cf468 : Room := { frames := 5, cells := 1, slots := 34, locals := 125 }
theorem yd_J4_append_cf468 : yJ4_append_cf468.cls = RJ4 ∧ yJ4_append_cf468.cls ≠ "java/lang/invoke/MethodHandle" ∧ yJ4_append_cf468.cls ≠ "java/lang/invoke/VarHandle" ∧ (parseMethodDescriptor yJ4_append_cf468.desc).map (fun d => d.parameters.length) = some 1 := by decide +kernel
set_option maxHeartbeats 4000000 in
set_option maxRecDepth 100000 in
theorem kt_J4_append_cf468 (l : Launch) (D : va_G) (C : Nat → ClassId) (a : Nat) (v : Nat) (n : Nat) (m0 : Nat) (t : Nat → Nat) (x : Nat) (hm : m0 = 16 ∨ m0 = 34) (hn : n ≤ m0) (hw : n + 1 ≤ 34) (ht : ∀ j, t j < 128) (hx : x < 128) : SLr l yJ4_append_cf468 wsJ4_append_cf468 rm_J4_append_cf468 D C COx 1 34 [.ref a, .int (nI x)] [(a, .inr (9, [.ref v, .int 0, .int 0, .int (nI n)])), (v, .inl (C 6, m0, .inl (tx t n)))] (fun (u : Nat × Nat) => [(a, .inr (9, [.ref u.1, .int 0, .int 0, .int (nI (n + 1))])), (u.1, .inl (C 6, u.2, .inl (tx (cat t n (fun _ => x)) (n + 1))))]) (fun u => a) (fun (u : Nat × Nat) => (u.2 = 16 ∨ u.2 = 34) ∧ n + 1 ≤ u.2) := by
  refine SLr_of (lv := [(0, .ref a), (1, .int (nI x))]) (cc := cJ4_append_cf468) (maxL := 2) (ret := (some (.object "java/lang/StringBuilder"))) COx_ok rfl (by decide +kernel) (Nat.le_of_ble_eq_true rfl) rfl ?_
  intro p e s m args below meth c X hB hin2 hml hr hlk
  have hA : ∀ q, s.heap.size ≤ q → (zz_A (ZW [(a, .inr (9, [.ref v, .int 0, .int 0, .int (nI n)])), (v, .inl (C 6, m0, .inl (tx t n)))]) s.heap.size) q := fun q h => Or.inr h
  generalize hQ : MQ below _ args s 1 34 _ = Q
  refine zz_aload_n 0 X.1 0 dJ4_append_cf468_0 rfl ?_
  refine zz_iload_n 1 X.1 1 dJ4_append_cf468_1 rfl ?_
  refine sl_callSUr 2 X hml hA COx_ok hB (R0 := []) (As := [.int (nI x)]) (Cn := RJ4) (na := 1) (X.2.2.2.1 9 _ rfl).2 (kt_J5_append_3fe6f l D C a v n m0 t x (by first | rfl | assumption | omega) (by first | rfl | assumption | omega) (by first | rfl | assumption | omega) (by first | rfl | assumption | omega) (by first | rfl | assumption | omega)) gJ4_append_cf468_J5_append_3fe6f_s50 rfl ⟨rfl, rfl⟩ (by decide +kernel) ⟨Nat.le_of_ble_eq_true rfl, Nat.le_of_ble_eq_true rfl⟩ (fun H locs hP hS => va_recv X.2.2.2 hP.1 (ci := 9) (q0 := 0) rfl rfl) rfl rfl (Nat.le_of_ble_eq_true rfl) ⟨Nat.le_of_ble_eq_true rfl, Nat.le_of_ble_eq_true rfl⟩ dJ4_append_cf468_2 ?_
  rintro ⟨w1, k1⟩ ⟨hf1_0, hf1_1⟩
  refine zz_world (P' := (LPw (zz_A (ZW [(a, .inr (9, [.ref v, .int 0, .int 0, .int (nI n)])), (v, .inl (C 6, m0, .inl (tx t n)))]) s.heap.size) D [(a, .inr (9, [.ref w1, .int 0, .int 0, .int (nI (n + 1))])), (w1, .inl (C 6, k1, .inl (tx (cat t n (fun _ => x)) (n + 1))))])) (fun _ h => h) ?_
  refine zz_pop 5 X.1 dJ4_append_cf468_5 rfl ?_
  refine zz_aload_n 6 X.1 0 dJ4_append_cf468_6 rfl ?_
  rw [← hQ]
  refine zz_aret 7 X.1 hr (Or.inl ⟨_, rfl⟩) hlk (w1, k1) ?_ (fun _ h _ => ⟨rfl, h⟩) dJ4_append_cf468_7
  exact ⟨by omega, by omega⟩

abbrev rm_J4_append_15ec4 : Room := { frames := 5, cells := 1, slots := 34, locals := 127 }
theorem yd_J4_append_15ec4 : yJ4_append_15ec4.cls = RJ4 ∧ yJ4_append_15ec4.cls ≠ "java/lang/invoke/MethodHandle" ∧ yJ4_append_15ec4.cls ≠ "java/lang/invoke/VarHandle" ∧ (parseMethodDescriptor yJ4_append_15ec4.desc).map (fun d => d.parameters.length) = some 1 := by decide +kernel
set_option maxHeartbeats 4000000 in
set_option maxRecDepth 100000 in
theorem kt_J4_append_15ec4 (l : Launch) (D : va_G) (C : Nat → ClassId) (a : Nat) (v : Nat) (n : Nat) (m0 : Nat) (t : Nat → Nat) (a2 : Nat) (v2 : Nat) (q : Nat) (f : Nat → Int32) (u0 : Nat → Nat) (hm : m0 = 16 ∨ m0 = 34) (hn : n ≤ m0) (hw : n + q ≤ 34) (ht : ∀ j, t j < 128) (hu : ∀ j, u0 j < 128) (hfu : ∀ j, j < q → f j = nI (u0 j)) : SLr l yJ4_append_15ec4 wsJ4_append_15ec4 rm_J4_append_15ec4 D C (STx a2 v2 q f) 1 34 [.ref a, .ref a2] [(a, .inr (9, [.ref v, .int 0, .int 0, .int (nI n)])), (v, .inl (C 6, m0, .inl (tx t n)))] (fun (u : Nat × Nat) => [(a, .inr (9, [.ref u.1, .int 0, .int 0, .int (nI (n + q))])), (u.1, .inl (C 6, u.2, .inl (tx (cat t n u0) (n + q))))]) (fun u => a) (fun (u : Nat × Nat) => (u.2 = 16 ∨ u.2 = 34) ∧ n + q ≤ u.2) := by
  refine SLr_of (lv := [(0, .ref a), (1, .ref a2)]) (cc := cJ4_append_15ec4) (maxL := 2) (ret := (some (.object "java/lang/StringBuilder"))) STx_ok rfl (by decide +kernel) (Nat.le_of_ble_eq_true rfl) rfl ?_
  intro p e s m args below meth c X hB hin2 hml hr hlk
  have hA : ∀ q, s.heap.size ≤ q → (zz_A (ZW [(a, .inr (9, [.ref v, .int 0, .int 0, .int (nI n)])), (v, .inl (C 6, m0, .inl (tx t n)))]) s.heap.size) q := fun q h => Or.inr h
  generalize hQ : MQ below _ args s 1 34 _ = Q
  refine zz_aload_n 0 X.1 0 dJ4_append_15ec4_0 rfl ?_
  refine zz_aload_n 1 X.1 1 dJ4_append_15ec4_1 rfl ?_
  refine sl_callSUr 2 X hml hA STx_ok hB (R0 := []) (As := [.ref a2]) (Cn := RJ4) (na := 1) (X.2.2.2.1 9 _ rfl).2 (kt_J5_append_cf1ce l D C a v n m0 t a2 v2 q f u0 (by first | rfl | assumption | omega) (by first | rfl | assumption | omega) (by first | rfl | assumption | omega) (by first | rfl | assumption | omega) (by first | rfl | assumption | omega) (by first | rfl | assumption | omega)) gJ4_append_15ec4_J5_append_cf1ce_s29 rfl ⟨rfl, rfl⟩ (by decide +kernel) ⟨Nat.le_of_ble_eq_true rfl, Nat.le_of_ble_eq_true rfl⟩ (fun H locs hP hS => va_recv X.2.2.2 hP.1 (ci := 9) (q0 := 0) rfl rfl) rfl rfl (Nat.le_of_ble_eq_true rfl) ⟨Nat.le_of_ble_eq_true rfl, Nat.le_of_ble_eq_true rfl⟩ dJ4_append_15ec4_2 ?_
  rintro ⟨w1, k1⟩ ⟨hf1_0, hf1_1⟩
  refine zz_world (P' := (LPw (zz_A (ZW [(a, .inr (9, [.ref v, .int 0, .int 0, .int (nI n)])), (v, .inl (C 6, m0, .inl (tx t n)))]) s.heap.size) D [(a, .inr (9, [.ref w1, .int 0, .int 0, .int (nI (n + q))])), (w1, .inl (C 6, k1, .inl (tx (cat t n u0) (n + q))))])) (fun _ h => h) ?_
  refine zz_pop 5 X.1 dJ4_append_15ec4_5 rfl ?_
  refine zz_aload_n 6 X.1 0 dJ4_append_15ec4_6 rfl ?_
  rw [← hQ]
  refine zz_aret 7 X.1 hr (Or.inl ⟨_, rfl⟩) hlk (w1, k1) ?_ (fun _ h _ => ⟨rfl, h⟩) dJ4_append_15ec4_7
  exact ⟨by omega, by omega⟩

abbrev rm_J4_append_bf812 : Room := { frames := 5, cells := 1, slots := 34, locals := 127 }
theorem yd_J4_append_bf812 : yJ4_append_bf812.cls = RJ4 ∧ yJ4_append_bf812.cls ≠ "java/lang/invoke/MethodHandle" ∧ yJ4_append_bf812.cls ≠ "java/lang/invoke/VarHandle" ∧ (parseMethodDescriptor yJ4_append_bf812.desc).map (fun d => d.parameters.length) = some 1 := by decide +kernel
set_option maxHeartbeats 4000000 in
set_option maxRecDepth 100000 in
theorem kt_J4_append_bf812 (l : Launch) (D : va_G) (C : Nat → ClassId) (a : Nat) (v : Nat) (n : Nat) (m0 : Nat) (t : Nat → Nat) (t1 : Nat) (t2 : Nat) (i0 : Nat) (hm : m0 = 16 ∨ m0 = 34) (hn : n ≤ m0) (hw : n + dgs i0 ≤ 34) (ht : ∀ j, t j < 128) (hi : i0 < 1024) : SLr l yJ4_append_bf812 wsJ4_append_bf812 rm_J4_append_bf812 D C (DCx t1 t2) 1 34 [.ref a, .int (nI i0)] [(a, .inr (9, [.ref v, .int 0, .int 0, .int (nI n)])), (v, .inl (C 6, m0, .inl (tx t n)))] (fun (u : Nat × Nat) => [(a, .inr (9, [.ref u.1, .int 0, .int 0, .int (nI (n + dgs i0))])), (u.1, .inl (C 6, u.2, .inl (tx (cat t n (dgt i0 (dgs i0))) (n + dgs i0))))]) (fun u => a) (fun (u : Nat × Nat) => (u.2 = 16 ∨ u.2 = 34) ∧ n + dgs i0 ≤ u.2) := by
  refine SLr_of (lv := [(0, .ref a), (1, .int (nI i0))]) (cc := cJ4_append_bf812) (maxL := 2) (ret := (some (.object "java/lang/StringBuilder"))) DCx_ok rfl (by decide +kernel) (Nat.le_of_ble_eq_true rfl) rfl ?_
  intro p e s m args below meth c X hB hin2 hml hr hlk
  have hA : ∀ q, s.heap.size ≤ q → (zz_A (ZW [(a, .inr (9, [.ref v, .int 0, .int 0, .int (nI n)])), (v, .inl (C 6, m0, .inl (tx t n)))]) s.heap.size) q := fun q h => Or.inr h
  generalize hQ : MQ below _ args s 1 34 _ = Q
  refine zz_aload_n 0 X.1 0 dJ4_append_bf812_0 rfl ?_
  refine zz_iload_n 1 X.1 1 dJ4_append_bf812_1 rfl ?_
  refine sl_callSUr 2 X hml hA DCx_ok hB (R0 := []) (As := [.int (nI i0)]) (Cn := RJ4) (na := 1) (X.2.2.2.1 9 _ rfl).2 (kt_J5_append_c97b9 l D C a v n m0 t t1 t2 i0 (by first | rfl | assumption | omega) (by first | rfl | assumption | omega) (by first | rfl | assumption | omega) (by first | rfl | assumption | omega) (by first | rfl | assumption | omega)) gJ4_append_bf812_J5_append_c97b9_s53 rfl ⟨rfl, rfl⟩ (by decide +kernel) ⟨Nat.le_of_ble_eq_true rfl, Nat.le_of_ble_eq_true rfl⟩ (fun H locs hP hS => va_recv X.2.2.2 hP.1 (ci := 9) (q0 := 0) rfl rfl) rfl rfl (Nat.le_of_ble_eq_true rfl) ⟨Nat.le_of_ble_eq_true rfl, Nat.le_of_ble_eq_true rfl⟩ dJ4_append_bf812_2 ?_
  rintro ⟨w1, k1⟩ ⟨hf1_0, hf1_1⟩
  refine zz_world (P' := (LPw (zz_A (ZW [(a, .inr (9, [.ref v, .int 0, .int 0, .int (nI n)])), (v, .inl (C 6, m0, .inl (tx t n)))]) s.heap.size) D [(a, .inr (9, [.ref w1, .int 0, .int 0, .int (nI (n + dgs i0))])), (w1, .inl (C 6, k1, .inl (tx (cat t n (dgt i0 (dgs i0))) (n + dgs i0))))])) (fun _ h => h) ?_
  refine zz_pop 5 X.1 dJ4_append_bf812_5 rfl ?_
  refine zz_aload_n 6 X.1 0 dJ4_append_bf812_6 rfl ?_
  rw [← hQ]
  refine zz_aret 7 X.1 hr (Or.inl ⟨_, rfl⟩) hlk (w1, k1) ?_ (fun _ h _ => ⟨rfl, h⟩) dJ4_append_bf812_7
  exact ⟨by omega, by omega⟩
