abbrev rm_L_next : Room := { frames := 0, cells := 0, slots := 0, locals := 0 }
theorem yd_L_next : yL_next.cls = RL ∧ yL_next.cls ≠ "java/lang/invoke/MethodHandle" ∧ yL_next.cls ≠ "java/lang/invoke/VarHandle" ∧ (parseMethodDescriptor yL_next.desc).map (fun d => d.parameters.length) = some 1 := by decide +kernel
set_option maxHeartbeats 4000000 in
set_option maxRecDepth 100000 in
theorem kt_L_next (l : Launch) (D : va_G) (C : Nat → ClassId) (K : Nat → Nat) (kL kH : Nat) (ad : Nat → Nat) (hAp : LAp K kL kH) (x : Int32) (F : Nat → Int32) (hs : Nat → Bool) (G T : Nat → Nat → Int32) (b : Nat → Bool) (n0 : Nat) (hn : 0 < n0 ∧ n0 < 2 ^ 31) : LMi l yL_next wsL_next rm_L_next D C K kL kH ad 0 0 [.int (nI n0)] x F hs G T b (fun (r : Int32) (q : LSt) => ∃ (k1 : Nat) (x1 : Int32), r = (nI k1) ∧ q = (x1, (F, hs, G, T), b) ∧ k1 < n0) := by
  refine LMi_of (lv := [(0, .ref kL), (1, .int (nI n0))]) (cc := cL_next) (maxL := 2) (ret := (some .int)) rfl (by decide +kernel) (Nat.le_of_ble_eq_true rfl) rfl ?_
  intro p e s m args below meth c X hLA hml hr hlk
  generalize hQ : MQ below _ args s 0 0 _ = Q
  refine zz_aload_n 0 X.1 0 dL_next_0 rfl ?_
  refine zz_aload_n 1 X.1 0 dL_next_1 rfl ?_
  refine ll_get 2 X (by decide +kernel) 0 (by decide) (v := .int x) rfl (by decide +kernel) rfl dL_next_2 ?_
  refine zz_ldci 5 X.1 (v := 1103515245) dL_next_5 X.2.2.1 (by exact (X.2.1 _ (by decide +kernel))) ?_
  refine zz_topi (nI 1103515245) (by decide) ?_
  refine zz_imul 7 X.1 (v := (x * (nI 1103515245))) dL_next_7 rfl ?_
  refine zz_sipush 8 X.1 (v := nI 12345) dL_next_8 rfl ?_
  refine zz_iadd 11 X.1 (v := ((x * (nI 1103515245)) + (nI 12345))) dL_next_11 rfl ?_
  refine ll_putx 12 hAp X (by decide +kernel) (y := ((x * (nI 1103515245)) + (nI 12345))) (by decide +kernel) (by decide +kernel) (by decide +kernel) dL_next_12 ?_
  refine zz_aload_n 15 X.1 0 dL_next_15 rfl ?_
  refine ll_get 16 X (by decide +kernel) 0 (by decide) (v := .int ((x * (nI 1103515245)) + (nI 12345))) rfl (by decide +kernel) rfl dL_next_16 ?_
  refine zz_bipush 19 X.1 (v := nI 16) dL_next_19 rfl ?_
  refine zz_iushr 21 X.1 (v := ((((x * (nI 1103515245)) + (nI 12345)).toUInt32 >>> ((nI 16).toUInt32 &&& Int32.toUInt32 31)).toInt32)) dL_next_21 rfl ?_
  obtain ⟨k0, hk0, hk1⟩ := ll_ush ((x * (nI 1103515245)) + (nI 12345))
  refine zz_topi (nI k0) hk0 ?_
  refine zz_iload_n 22 X.1 1 dL_next_22 rfl ?_
  refine zz_irem 23 X.1 (v := (nI (k0 % n0))) dL_next_23 (zn_ne0 (by omega) (by omega)) (pk_rem (by omega) (by omega) (by omega)) ?_
  rw [← hQ]
  refine zz_iret 24 X.1 hr rfl hlk (((x * (nI 1103515245)) + (nI 12345)), (F, hs, G, T), b) ?_ (fun _ h _ => h) dL_next_24
  exact ⟨_, _, rfl, rfl, Nat.mod_lt _ hn.1⟩

abbrev rm_L_word : Room := { frames := 1, cells := 0, slots := 0, locals := 21 }
theorem yd_L_word : yL_word.cls = RL ∧ yL_word.cls ≠ "java/lang/invoke/MethodHandle" ∧ yL_word.cls ≠ "java/lang/invoke/VarHandle" ∧ (parseMethodDescriptor yL_word.desc).map (fun d => d.parameters.length) = some 0 := by decide +kernel
set_option maxHeartbeats 4000000 in
set_option maxRecDepth 100000 in
theorem kt_L_word (l : Launch) (D : va_G) (C : Nat → ClassId) (K : Nat → Nat) (kL kH : Nat) (ad : Nat → Nat) (hAp : LAp K kL kH) (x : Int32) (F : Nat → Int32) (hs : Nat → Bool) (G T : Nat → Nat → Int32) (b : Nat → Bool)   : LMl l yL_word wsL_word rm_L_word D C K kL kH ad 0 0 [] x F hs G T b (fun (r : Int64) (q : LSt) => ∃ (w1 : Int64) (x1 : Int32), r = w1 ∧ q = (x1, (F, hs, G, T), b)) := by
  refine LMl_of (lv := [(0, .ref kL)]) (cc := cL_word) (maxL := 4) (ret := (some .long)) rfl (by decide +kernel) (Nat.le_of_ble_eq_true rfl) rfl ?_
  intro p e s m args below meth c X hLA hml hr hlk
  generalize hQ : MQ below _ args s 0 0 _ = Q
  refine zz_lconst 0 X.1 (v := 0) dL_word_0 (by decide) ?_
  refine zz_lstore_n 1 X.1 (lv' := [(1, .long 0), (0, .ref kL)]) dL_word_1 (by decide) rfl ?_
  refine zz_iconst 2 X.1 (v := nI 0) dL_word_2 rfl ?_
  refine zz_istore_n 3 X.1 (lv' := [(3, .int (nI 0)), (1, .long 0), (0, .ref kL)]) dL_word_3 (by decide) rfl ?_
  have C4 : ∀ (d : Nat) (x9 : Int32) (w9 : Int64) (i : Nat) (hi : i ≤ 5) (hd : 5 - i < d), ZZ p l e rm_L_word s m args below meth c 0 0 Q (zz_A (LZ K kL kH) s.heap.size) (LPo D C K kL kH (x9, (F, hs, G, T), b)) 4 [(0, .ref kL), (1, .long w9), (3, .int (nI i))] [] 4 := by
    intro d
    induction d with
    | zero => intro x9 w9 i hi hd; exact absurd hd (Nat.not_lt_zero _)
    | succ d ih4 =>
      intro x9 w9 i hi hd
      refine zz_iload_n 4 X.1 2 dL_word_4 rfl ?_
      refine zz_iconst 5 X.1 (v := nI 5) dL_word_5 rfl ?_
      refine zz_icmp_ge 6 28 X.1 (nI_toInt (by omega)) (nI_toInt (by omega)) dL_word_6 (by decide) (fun h6 => ?_) (fun h6 => ?_)
      · skip
        refine zz_aload_n 28 X.1 0 dL_word_28 rfl ?_
        refine zz_iconst 29 X.1 (v := nI 3) dL_word_29 rfl ?_
        refine ll_callLi 30 X hLA hml (As := [.int (nI 3)]) (kt_L_next l D C K kL kH ad hAp x9 F hs G T b 3 (by first | rfl | assumption | omega)) gL_word_L_next rfl ⟨rfl, rfl⟩ yd_L_next ⟨Nat.le_of_ble_eq_true rfl, Nat.le_of_ble_eq_true rfl⟩ rfl rfl (Nat.le_of_ble_eq_true rfl) ⟨Nat.le_of_ble_eq_true rfl, Nat.le_of_ble_eq_true rfl⟩ dL_word_30 ?_
        rintro r1 ⟨x1, ⟨F1, hs1, G1, T1⟩, b1⟩ hu1
        obtain ⟨k1_1, x1_1, rfl, hv1, hf1_0⟩ := hu1
        cases hv1
        refine zz_world (P' := (LPo D C K kL kH (x1, (F, hs, G, T), b))) (fun _ h => h) ?_
        refine zz_if_ne 33 44 X.1 (nI_toInt (by omega)) dL_word_33 (by decide) (fun h33 => ?_) (fun h33 => ?_)
        · skip
          refine zz_lload_n 44 X.1 1 dL_word_44 rfl ?_
          rw [← hQ]
          refine zz_lret 45 X.1 hr hlk (x1, (F, hs, G, T), b) ?_ (fun _ h _ => h) dL_word_45
          exact ⟨_, _, rfl, rfl⟩
        · skip
          refine zz_lload_n 36 X.1 1 dL_word_36 rfl ?_
          refine zz_ldc2 37 X.1 (v := 1095216660480) dL_word_37 X.2.2.1 (by exact (X.2.1 _ (by decide +kernel))) ?_
          refine zz_land 40 X.1 (v := w9 &&& (1095216660480 : Int64)) dL_word_40 rfl ?_
          refine zz_goto 41 45 X.1 dL_word_41 (by decide) ?_
          rw [← hQ]
          refine zz_lret 45 X.1 hr hlk (x1, (F, hs, G, T), b) ?_ (fun _ h _ => h) dL_word_45
          exact ⟨_, _, rfl, rfl⟩
      · skip
        refine zz_lload_n 9 X.1 1 dL_word_9 rfl ?_
        refine zz_bipush 10 X.1 (v := nI 15) dL_word_10 rfl ?_
        refine zz_lshl 12 X.1 (v := w9 <<< ((nI 15).toInt64 &&& 63)) dL_word_12 rfl ?_
        refine zz_aload_n 13 X.1 0 dL_word_13 rfl ?_
        refine zz_ldci 14 X.1 (v := 32768) dL_word_14 X.2.2.1 (by exact (X.2.1 _ (by decide +kernel))) ?_
        refine zz_topi (nI 32768) (by decide) ?_
        refine ll_callLi 16 X hLA hml (As := [.int (nI 32768)]) (kt_L_next l D C K kL kH ad hAp x9 F hs G T b 32768 (by first | rfl | assumption | omega)) gL_word_L_next rfl ⟨rfl, rfl⟩ yd_L_next ⟨Nat.le_of_ble_eq_true rfl, Nat.le_of_ble_eq_true rfl⟩ rfl rfl (Nat.le_of_ble_eq_true rfl) ⟨Nat.le_of_ble_eq_true rfl, Nat.le_of_ble_eq_true rfl⟩ dL_word_16 ?_
        rintro r2 ⟨x2, ⟨F2, hs2, G2, T2⟩, b2⟩ hu2
        obtain ⟨k1_2, x1_2, rfl, hv2, hf2_0⟩ := hu2
        cases hv2
        refine zz_world (P' := (LPo D C K kL kH (x2, (F, hs, G, T), b))) (fun _ h => h) ?_
        refine zz_i2l 19 X.1 (v := (nI k1_2).toInt64) dL_word_19 rfl ?_
        refine zz_lxor 20 X.1 (v := (w9 <<< ((nI 15).toInt64 &&& 63)) ^^^ ((nI k1_2).toInt64)) dL_word_20 rfl ?_
        refine zz_lstore_n 21 X.1 (lv' := [(1, .long ((w9 <<< ((nI 15).toInt64 &&& 63)) ^^^ ((nI k1_2).toInt64))), (0, .ref kL), (3, .int (nI i))]) dL_word_21 (by decide) rfl ?_
        refine zz_iinc 22 X.1 2 (v := (nI (i + 1))) (lv' := [(3, .int (nI (i + 1))), (1, .long ((w9 <<< ((nI 15).toInt64 &&& 63)) ^^^ ((nI k1_2).toInt64))), (0, .ref kL)]) dL_word_22 rfl (nI_add i 1) (by decide) rfl ?_
        refine zz_goto 25 4 X.1 dL_word_25 (by decide) ?_
        refine zz_lvs [2, 1, 0] rfl ?_
        exact ih4 x2 ((w9 <<< ((nI 15).toInt64 &&& 63)) ^^^ ((nI k1_2).toInt64)) (i + 1) (by omega) (by omega)
  refine zz_lvs [2, 1, 0] rfl ?_
  exact C4 (5 - 0 + 1) x 0 0 (by omega) (Nat.lt_succ_self _)

abbrev rm_L_number : Room := { frames := 1, cells := 0, slots := 0, locals := 23 }
theorem yd_L_number : yL_number.cls = RL ∧ yL_number.cls ≠ "java/lang/invoke/MethodHandle" ∧ yL_number.cls ≠ "java/lang/invoke/VarHandle" ∧ (parseMethodDescriptor yL_number.desc).map (fun d => d.parameters.length) = some 0 := by decide +kernel
set_option maxHeartbeats 4000000 in
set_option maxRecDepth 100000 in
theorem kt_L_number (l : Launch) (D : va_G) (C : Nat → ClassId) (K : Nat → Nat) (kL kH : Nat) (ad : Nat → Nat) (hAp : LAp K kL kH) (x : Int32) (F : Nat → Int32) (hs : Nat → Bool) (G T : Nat → Nat → Int32) (b : Nat → Bool)   : LMi l yL_number wsL_number rm_L_number D C K kL kH ad 0 0 [] x F hs G T b (fun (r : Int32) (q : LSt) => ∃ (k1 : Nat) (x1 : Int32), r = (nI k1) ∧ q = (x1, (F, hs, G, T), b) ∧ k1 ≤ 1024) := by
  refine LMi_of (lv := [(0, .ref kL)]) (cc := cL_number) (maxL := 2) (ret := (some .int)) rfl (by decide +kernel) (Nat.le_of_ble_eq_true rfl) rfl ?_
  intro p e s m args below meth c X hLA hml hr hlk
  generalize hQ : MQ below _ args s 0 0 _ = Q
  refine zz_aload_n 0 X.1 0 dL_number_0 rfl ?_
  refine zz_iconst 1 X.1 (v := nI 4) dL_number_1 rfl ?_
  refine ll_callLi 2 X hLA hml (As := [.int (nI 4)]) (kt_L_next l D C K kL kH ad hAp x F hs G T b 4 (by first | rfl | assumption | omega)) gL_number_L_next rfl ⟨rfl, rfl⟩ yd_L_next ⟨Nat.le_of_ble_eq_true rfl, Nat.le_of_ble_eq_true rfl⟩ rfl rfl (Nat.le_of_ble_eq_true rfl) ⟨Nat.le_of_ble_eq_true rfl, Nat.le_of_ble_eq_true rfl⟩ dL_number_2 ?_
  rintro r1 ⟨x1, ⟨F1, hs1, G1, T1⟩, b1⟩ hu1
  obtain ⟨k1_1, x1_1, rfl, hv1, hf1_0⟩ := hu1
  cases hv1
  refine zz_world (P' := (LPo D C K kL kH (x1, (F, hs, G, T), b))) (fun _ h => h) ?_
  refine zz_istore_n 5 X.1 (lv' := [(1, .int (nI k1_1)), (0, .ref kL)]) dL_number_5 (by decide) rfl ?_
  refine zz_iload_n 6 X.1 0 dL_number_6 rfl ?_
  refine zz_if_ne 7 20 X.1 (nI_toInt (by omega)) dL_number_7 (by decide) (fun h7 => ?_) (fun h7 => ?_)
  · skip
    refine zz_iload_n 20 X.1 0 dL_number_20 rfl ?_
    refine zz_iconst 21 X.1 (v := nI 1) dL_number_21 rfl ?_
    refine zz_icmp_ne 22 55 X.1 (nI_toInt (by omega)) (nI_toInt (by omega)) dL_number_22 (by decide) (fun h22 => ?_) (fun h22 => ?_)
    · skip
      refine zz_aload_n 55 X.1 1 dL_number_55 rfl ?_
      refine zz_sipush 56 X.1 (v := nI 200) dL_number_56 rfl ?_
      refine ll_callLi 59 X hLA hml (As := [.int (nI 200)]) (kt_L_next l D C K kL kH ad hAp x1 F hs G T b 200 (by first | rfl | assumption | omega)) gL_number_L_next rfl ⟨rfl, rfl⟩ yd_L_next ⟨Nat.le_of_ble_eq_true rfl, Nat.le_of_ble_eq_true rfl⟩ rfl rfl (Nat.le_of_ble_eq_true rfl) ⟨Nat.le_of_ble_eq_true rfl, Nat.le_of_ble_eq_true rfl⟩ dL_number_59 ?_
      rintro r2 ⟨x2, ⟨F2, hs2, G2, T2⟩, b2⟩ hu2
      obtain ⟨k1_2, x1_2, rfl, hv2, hf2_0⟩ := hu2
      cases hv2
      refine zz_world (P' := (LPo D C K kL kH (x2, (F, hs, G, T), b))) (fun _ h => h) ?_
      rw [← hQ]
      refine zz_iret 62 X.1 hr rfl hlk (x2, (F, hs, G, T), b) ?_ (fun _ h _ => h) dL_number_62
      exact ⟨_, _, rfl, rfl, by omega⟩
    · skip
      refine zz_iconst 25 X.1 (v := nI 0) dL_number_25 rfl ?_
      refine zz_sipush 26 X.1 (v := nI 1024) dL_number_26 rfl ?_
      refine zz_bipush 29 X.1 (v := nI 64) dL_number_29 rfl ?_
      refine zz_aload_n 31 X.1 1 dL_number_31 rfl ?_
      refine zz_bipush 32 X.1 (v := nI 17) dL_number_32 rfl ?_
      refine ll_callLi 34 X hLA hml (As := [.int (nI 17)]) (kt_L_next l D C K kL kH ad hAp x1 F hs G T b 17 (by first | rfl | assumption | omega)) gL_number_L_next rfl ⟨rfl, rfl⟩ yd_L_next ⟨Nat.le_of_ble_eq_true rfl, Nat.le_of_ble_eq_true rfl⟩ rfl rfl (Nat.le_of_ble_eq_true rfl) ⟨Nat.le_of_ble_eq_true rfl, Nat.le_of_ble_eq_true rfl⟩ dL_number_34 ?_
      rintro r3 ⟨x3, ⟨F3, hs3, G3, T3⟩, b3⟩ hu3
      obtain ⟨k1_3, x1_3, rfl, hv3, hf3_0⟩ := hu3
      cases hv3
      refine zz_world (P' := (LPo D C K kL kH (x3, (F, hs, G, T), b))) (fun _ h => h) ?_
      refine zz_imul 37 X.1 (v := (nI (64 * k1_3))) dL_number_37 (pk_mul _ _) ?_
      refine zz_aload_n 38 X.1 1 dL_number_38 rfl ?_
      refine zz_iconst 39 X.1 (v := nI 3) dL_number_39 rfl ?_
      refine ll_callLi 40 X hLA hml (As := [.int (nI 3)]) (kt_L_next l D C K kL kH ad hAp x3 F hs G T b 3 (by first | rfl | assumption | omega)) gL_number_L_next rfl ⟨rfl, rfl⟩ yd_L_next ⟨Nat.le_of_ble_eq_true rfl, Nat.le_of_ble_eq_true rfl⟩ rfl rfl (Nat.le_of_ble_eq_true rfl) ⟨Nat.le_of_ble_eq_true rfl, Nat.le_of_ble_eq_true rfl⟩ dL_number_40 ?_
      rintro r4 ⟨x4, ⟨F4, hs4, G4, T4⟩, b4⟩ hu4
      obtain ⟨k1_4, x1_4, rfl, hv4, hf4_0⟩ := hu4
      cases hv4
      refine zz_world (P' := (LPo D C K kL kH (x4, (F, hs, G, T), b))) (fun _ h => h) ?_
      refine zz_iadd 43 X.1 (v := (nI ((64 * k1_3) + k1_4))) dL_number_43 (nI_add _ _) ?_
      refine zz_iconst 44 X.1 (v := nI 1) dL_number_44 rfl ?_
      refine zz_isub 45 X.1 (v := (nI ((64 * k1_3) + k1_4) - nI 1)) dL_number_45 rfl ?_
      refine zz_mmin 46 X.1 hml X.2.2.1 ((X.2.1 _ (by decide +kernel))) ((X.2.1 _ (by decide +kernel))) ((X.2.1 _ (by decide +kernel))) ((X.2.1 _ (by decide +kernel))) (Nat.le_of_ble_eq_true rfl) (Nat.le_of_ble_eq_true rfl) (Nat.le_of_ble_eq_true rfl) (Nat.le_of_ble_eq_true rfl) (v := (if nI ((64 * k1_3) + k1_4) - nI 1 < nI 1024 then nI ((64 * k1_3) + k1_4) - nI 1 else nI 1024)) dL_number_46 rfl ?_
      refine zz_mmax 49 X.1 hml X.2.2.1 ((X.2.1 _ (by decide +kernel))) ((X.2.1 _ (by decide +kernel))) ((X.2.1 _ (by decide +kernel))) ((X.2.1 _ (by decide +kernel))) (Nat.le_of_ble_eq_true rfl) (Nat.le_of_ble_eq_true rfl) (Nat.le_of_ble_eq_true rfl) (Nat.le_of_ble_eq_true rfl) (v := (nI (min 1024 ((64 * k1_3) + k1_4 - 1)))) dL_number_49 (zi_of ((zi_max (nI_toInt (by omega)) ((zi_min (nI_toInt (by omega)) (pk_sub_toInt (by omega) (by omega))).trans (Int.min_comm _ _))).trans (by omega))) ?_
      refine zz_goto 52 62 X.1 dL_number_52 (by decide) ?_
      rw [← hQ]
      refine zz_iret 62 X.1 hr rfl hlk (x4, (F, hs, G, T), b) ?_ (fun _ h _ => h) dL_number_62
      exact ⟨_, _, rfl, rfl, by omega⟩
  · skip
    refine zz_aload_n 10 X.1 1 dL_number_10 rfl ?_
    refine zz_sipush 11 X.1 (v := nI 1025) dL_number_11 rfl ?_
    refine ll_callLi 14 X hLA hml (As := [.int (nI 1025)]) (kt_L_next l D C K kL kH ad hAp x1 F hs G T b 1025 (by first | rfl | assumption | omega)) gL_number_L_next rfl ⟨rfl, rfl⟩ yd_L_next ⟨Nat.le_of_ble_eq_true rfl, Nat.le_of_ble_eq_true rfl⟩ rfl rfl (Nat.le_of_ble_eq_true rfl) ⟨Nat.le_of_ble_eq_true rfl, Nat.le_of_ble_eq_true rfl⟩ dL_number_14 ?_
    rintro r5 ⟨x5, ⟨F5, hs5, G5, T5⟩, b5⟩ hu5
    obtain ⟨k1_5, x1_5, rfl, hv5, hf5_0⟩ := hu5
    cases hv5
    refine zz_world (P' := (LPo D C K kL kH (x5, (F, hs, G, T), b))) (fun _ h => h) ?_
    refine zz_goto 17 62 X.1 dL_number_17 (by decide) ?_
    rw [← hQ]
    refine zz_iret 62 X.1 hr rfl hlk (x5, (F, hs, G, T), b) ?_ (fun _ h _ => h) dL_number_62
    exact ⟨_, _, rfl, rfl, by omega⟩

abbrev rm_L_copies : Room := { frames := 10, cells := 0, slots := 0, locals := 182 }
theorem yd_L_copies : yL_copies.cls = RL ∧ yL_copies.cls ≠ "java/lang/invoke/MethodHandle" ∧ yL_copies.cls ≠ "java/lang/invoke/VarHandle" ∧ (parseMethodDescriptor yL_copies.desc).map (fun d => d.parameters.length) = some 3 := by decide +kernel
set_option maxHeartbeats 4000000 in
set_option maxRecDepth 100000 in
theorem kt_L_copies (l : Launch) (D : va_G) (C : Nat → ClassId) (K : Nat → Nat) (kL kH : Nat) (ad : Nat → Nat) (hAp : LAp K kL kH) (x : Int32) (F : Nat → Int32) (hs : Nat → Bool) (G T : Nat → Nat → Int32) (b : Nat → Bool) (s0 : Nat) (o0 : Nat) (bb : Bool) (hs0 : s0 < 8) (ho0 : o0 < 8) : LMv l yL_copies wsL_copies rm_L_copies D C K kL kH ad 0 0 [.int (nI s0), .int (nI o0), .int (bI bb)] x F hs G T b (fun (q : LSt) => q = (x, (F, (sS hs s0 (fun i => bb ^^ hM hs o0 i)), G, T), b)) := by
  refine LMv_of (lv := [(0, .ref kL), (1, .int (nI s0)), (2, .int (nI o0)), (3, .int (bI bb))]) (cc := cL_copies) (maxL := 4) (ret := none) rfl (by decide +kernel) (Nat.le_of_ble_eq_true rfl) rfl ?_
  intro p e s m args below meth c X hLA hml hr hlk
  generalize hQ : MQ below _ args s 0 0 _ = Q
  refine zz_aload_n 0 X.1 0 dL_copies_0 rfl ?_
  refine ll_get 1 X (by decide +kernel) 1 (by decide) (v := .ref (K 0)) rfl (by decide +kernel) rfl dL_copies_1 ?_
  refine zz_iload_n 4 X.1 1 dL_copies_4 rfl ?_
  refine zz_iload_n 5 X.1 2 dL_copies_5 rfl ?_
  refine ll_callDi 6 X hml hAp (As := [.int (nI s0), .int (nI o0)]) (kt_X6_copy_ok l D C K hAp.1 F hs G T s0 o0 (by first | rfl | assumption | omega) (by first | rfl | assumption | omega)) gL_copies_X6_copy rfl ⟨rfl, rfl⟩ yd_X6_copy ⟨Nat.le_of_ble_eq_true rfl, Nat.le_of_ble_eq_true rfl⟩ rfl rfl (Nat.le_of_ble_eq_true rfl) ⟨Nat.le_of_ble_eq_true rfl, Nat.le_of_ble_eq_true rfl⟩ dL_copies_6 ?_
  rintro r1 ⟨F1, hs1, G1, T1⟩ hu1
  obtain ⟨rfl, hv1⟩ := hu1
  cases hv1
  refine zz_world (P' := (LPo D C K kL kH (x, (F, (sS hs s0 (fun i => pJ 61 (hM hs s0 i) (hM hs o0 i))), G, T), b))) (fun _ h => h) ?_
  refine zz_pop 9 X.1 dL_copies_9 rfl ?_
  refine zz_iload_n 10 X.1 3 dL_copies_10 rfl ?_
  refine zz_ifB_eq 11 27 X.1 dL_copies_11 (by decide) (fun h11 => ?_) (fun h11 => ?_)
  · skip
    refine zz_world (P' := (LPo D C K kL kH (x, (F, (sS hs s0 (fun i => bb ^^ hM hs o0 i)), G, T), b))) (lp_hs (sS_cong (fun i hi => by rw [h11]; simp [pJ]))) ?_
    rw [← hQ]
    refine zz_vret 27 X.1 hr hlk (x, (F, (sS hs s0 (fun i => bb ^^ hM hs o0 i)), G, T), b) ?_ (fun _ h _ => h) dL_copies_27
    exact rfl
  · skip
    refine zz_aload_n 14 X.1 0 dL_copies_14 rfl ?_
    refine ll_get 15 X (by decide +kernel) 1 (by decide) (v := .ref (K 0)) rfl (by decide +kernel) rfl dL_copies_15 ?_
    refine zz_iload_n 18 X.1 1 dL_copies_18 rfl ?_
    refine zz_iconst 19 X.1 (v := nI 0) dL_copies_19 rfl ?_
    refine zz_sipush 20 X.1 (v := nI 1024) dL_copies_20 rfl ?_
    refine ll_callDi 23 X hml hAp (As := [.int (nI s0), .int (nI 0), .int (nI 1024)]) (kt_X6_flipRange_ok l D C K hAp.1 F (sS hs s0 (fun i => pJ 61 (hM hs s0 i) (hM hs o0 i))) G T s0 0 1024 (by first | rfl | assumption | omega) (by first | rfl | assumption | omega)) gL_copies_X6_flipRange rfl ⟨rfl, rfl⟩ yd_X6_flipRange ⟨Nat.le_of_ble_eq_true rfl, Nat.le_of_ble_eq_true rfl⟩ rfl rfl (Nat.le_of_ble_eq_true rfl) ⟨Nat.le_of_ble_eq_true rfl, Nat.le_of_ble_eq_true rfl⟩ dL_copies_23 ?_
    rintro r2 ⟨F2, hs2, G2, T2⟩ hu2
    obtain ⟨rfl, hv2⟩ := hu2
    cases hv2
    refine zz_world (P' := (LPo D C K kL kH (x, (F, (sS (sS hs s0 (fun i => pJ 61 (hM hs s0 i) (hM hs o0 i))) s0 (pX (hM (sS hs s0 (fun i => pJ 61 (hM hs s0 i) (hM hs o0 i))) s0) 0 1024)), G, T), b))) (fun _ h => h) ?_
    refine zz_pop 26 X.1 dL_copies_26 rfl ?_
    refine zz_world (P' := (LPo D C K kL kH (x, (F, (sS hs s0 (fun i => bb ^^ hM hs o0 i)), G, T), b))) (lp_hs ((sS_sS).trans (sS_cong (fun i hi => by rw [h11]; unfold pX; rw [hM_sS hi]; simp [pJ, hi])))) ?_
    rw [← hQ]
    refine zz_vret 27 X.1 hr hlk (x, (F, (sS hs s0 (fun i => bb ^^ hM hs o0 i)), G, T), b) ?_ (fun _ h _ => h) dL_copies_27
    exact rfl

abbrev rm_L_isMade : Room := { frames := 9, cells := 0, slots := 0, locals := 157 }
theorem yd_L_isMade : yL_isMade.cls = RL ∧ yL_isMade.cls ≠ "java/lang/invoke/MethodHandle" ∧ yL_isMade.cls ≠ "java/lang/invoke/VarHandle" ∧ (parseMethodDescriptor yL_isMade.desc).map (fun d => d.parameters.length) = some 2 := by decide +kernel
set_option maxHeartbeats 4000000 in
set_option maxRecDepth 100000 in
theorem kt_L_isMade (l : Launch) (D : va_G) (C : Nat → ClassId) (K : Nat → Nat) (kL kH : Nat) (ad : Nat → Nat) (hAp : LAp K kL kH) (x : Int32) (F : Nat → Int32) (hs : Nat → Bool) (G T : Nat → Nat → Int32) (b : Nat → Bool) (s0 : Nat) (sg : Nat) (hs0 : s0 < 8) (hsg : sg = 38 ∨ sg = 124 ∨ sg = 126 ∨ sg = 33 ∨ sg = 45 ∨ sg = 61) (hm : ∀ i, i < 1024 → hM hs s0 i = du sg (b i) (b (1024 + i))) : LMi l yL_isMade wsL_isMade rm_L_isMade D C K kL kH ad 0 0 [.int (nI s0), .int (nI sg)] x F hs G T b (fun (r : Int32) (q : LSt) => r = (bI true) ∧ q = (x, (F, hs, G, T), b)) := by
  refine LMi_of (lv := [(0, .ref kL), (1, .int (nI s0)), (2, .int (nI sg))]) (cc := cL_isMade) (maxL := 7) (ret := (some .boolean)) rfl (by decide +kernel) (Nat.le_of_ble_eq_true rfl) rfl ?_
  intro p e s m args below meth c X hLA hml hr hlk
  generalize hQ : MQ below _ args s 0 0 _ = Q
  refine zz_iconst 0 X.1 (v := nI 0) dL_isMade_0 rfl ?_
  refine zz_istore_n 1 X.1 (lv' := [(3, .int (nI 0)), (0, .ref kL), (1, .int (nI s0)), (2, .int (nI sg))]) dL_isMade_1 (by decide) rfl ?_
  have C2 : ∀ (d : Nat) (i : Nat) (hi : i ≤ 1024) (hd : 1024 - i < d), ZZ p l e rm_L_isMade s m args below meth c 0 0 Q (zz_A (LZ K kL kH) s.heap.size) (LPo D C K kL kH (x, (F, hs, G, T), b)) 7 [(0, .ref kL), (1, .int (nI s0)), (2, .int (nI sg)), (3, .int (nI i))] [] 2 := by
    intro d
    induction d with
    | zero => intro i hi hd; exact absurd hd (Nat.not_lt_zero _)
    | succ d ih2 =>
      intro i hi hd
      refine zz_iload_n 2 X.1 3 dL_isMade_2 rfl ?_
      refine zz_sipush 3 X.1 (v := nI 1024) dL_isMade_3 rfl ?_
      refine zz_icmp_ge 6 169 X.1 (nI_toInt (by omega)) (nI_toInt (by omega)) dL_isMade_6 (by decide) (fun h6 => ?_) (fun h6 => ?_)
      · skip
        refine zz_iconst 169 X.1 (v := nI 1) dL_isMade_169 rfl ?_
        refine zz_topi (bI true) rfl ?_
        rw [← hQ]
        refine zz_iret 170 X.1 hr (bI_nar _) hlk (x, (F, hs, G, T), b) ?_ (fun _ h _ => h) dL_isMade_170
        exact ⟨rfl, rfl⟩
      · skip
        have C145 : ∀ (v : Bool) (hv : v = du sg (b i) (b (1024 + i))), ZZ p l e rm_L_isMade s m args below meth c 0 0 Q (zz_A (LZ K kL kH) s.heap.size) (LPo D C K kL kH (x, (F, hs, G, T), b)) 7 [(0, .ref kL), (1, .int (nI s0)), (2, .int (nI sg)), (3, .int (nI i))] [.int (bI v)] 145 := by
          intro v hv
          refine zz_istore 145 X.1 (lv' := [(6, .int (bI v)), (0, .ref kL), (1, .int (nI s0)), (2, .int (nI sg)), (3, .int (nI i))]) dL_isMade_145 (by decide) rfl ?_
          refine zz_aload_n 147 X.1 1 dL_isMade_147 rfl ?_
          refine ll_get 148 X (by decide +kernel) 1 (by decide) (v := .ref (K 0)) rfl (by decide +kernel) rfl dL_isMade_148 ?_
          refine zz_iload_n 151 X.1 2 dL_isMade_151 rfl ?_
          refine zz_iload_n 152 X.1 4 dL_isMade_152 rfl ?_
          refine ll_callDi 153 X hml hAp (As := [.int (nI s0), .int (nI i)]) (kt_X6_has_ok l D C K hAp.1 F hs G T s0 i (by first | rfl | assumption | omega) (by first | rfl | assumption | omega)) gL_isMade_X6_has rfl ⟨rfl, rfl⟩ yd_X6_has ⟨Nat.le_of_ble_eq_true rfl, Nat.le_of_ble_eq_true rfl⟩ rfl rfl (Nat.le_of_ble_eq_true rfl) ⟨Nat.le_of_ble_eq_true rfl, Nat.le_of_ble_eq_true rfl⟩ dL_isMade_153 ?_
          rintro r1 ⟨F1, hs1, G1, T1⟩ hu1
          obtain ⟨rfl, hv1⟩ := hu1
          cases hv1
          refine zz_world (P' := (LPo D C K kL kH (x, (F, hs, G, T), b))) (fun _ h => h) ?_
          refine zz_iload 156 X.1 0 dL_isMade_156 rfl ?_
          refine zz_icmpB_eq 158 163 X.1 dL_isMade_158 (by decide) (fun h158 => ?_) (fun h158 => ?_)
          · skip
            refine zz_iinc 163 X.1 4 (v := (nI (i + 1))) (lv' := [(3, .int (nI (i + 1))), (6, .int (bI v)), (0, .ref kL), (1, .int (nI s0)), (2, .int (nI sg))]) dL_isMade_163 rfl (nI_add i 1) (by decide) rfl ?_
            refine zz_goto 166 2 X.1 dL_isMade_166 (by decide) ?_
            refine zz_lvs [2, 3, 4, 0] rfl ?_
            exact ih2 (i + 1) (by omega) (by omega)
          · exfalso; exact h158 (by rw [hv, ← hm i (by omega)]; simp [show i < 1024 by omega])
        refine zz_aload_n 9 X.1 0 dL_isMade_9 rfl ?_
        refine ll_get 10 X (by decide +kernel) 2 (by decide) (v := .ref kH) rfl (by decide +kernel) rfl dL_isMade_10 ?_
        refine zz_iconst 13 X.1 (v := nI 0) dL_isMade_13 rfl ?_
        refine zz_iload_n 14 X.1 3 dL_isMade_14 rfl ?_
        refine zz_iadd 15 X.1 (v := (nI i)) dL_isMade_15 ((nI_add _ _).trans (by rw [Nat.zero_add])) ?_
        refine ll_bald 16 X (i := i) (by omega) dL_isMade_16 ?_
        refine zz_istore 17 X.1 (lv' := [(4, .int (bI (b i))), (0, .ref kL), (1, .int (nI s0)), (2, .int (nI sg)), (3, .int (nI i))]) dL_isMade_17 (by decide) rfl ?_
        refine zz_aload_n 19 X.1 1 dL_isMade_19 rfl ?_
        refine ll_get 20 X (by decide +kernel) 2 (by decide) (v := .ref kH) rfl (by decide +kernel) rfl dL_isMade_20 ?_
        refine zz_sipush 23 X.1 (v := nI 1024) dL_isMade_23 rfl ?_
        refine zz_iload_n 26 X.1 4 dL_isMade_26 rfl ?_
        refine zz_iadd 27 X.1 (v := (nI (1024 + i))) dL_isMade_27 (nI_add _ _) ?_
        refine ll_bald 28 X (i := 1024 + i) (by omega) dL_isMade_28 ?_
        refine zz_istore 29 X.1 (lv' := [(5, .int (bI (b (1024 + i)))), (4, .int (bI (b i))), (0, .ref kL), (1, .int (nI s0)), (2, .int (nI sg)), (3, .int (nI i))]) dL_isMade_29 (by decide) rfl ?_
        refine zz_iload_n 31 X.1 4 dL_isMade_31 rfl ?_
        refine zz_bipush 32 X.1 (v := nI 38) dL_isMade_32 rfl ?_
        refine zz_icmp_ne 34 55 X.1 (nI_toInt (by omega)) (nI_toInt (by omega)) dL_isMade_34 (by decide) (fun h34 => ?_) (fun h34 => ?_)
        · skip
          refine zz_iload_n 55 X.1 4 dL_isMade_55 rfl ?_
          refine zz_bipush 56 X.1 (v := nI 124) dL_isMade_56 rfl ?_
          refine zz_icmp_ne 58 79 X.1 (nI_toInt (by omega)) (nI_toInt (by omega)) dL_isMade_58 (by decide) (fun h58 => ?_) (fun h58 => ?_)
          · skip
            refine zz_iload_n 79 X.1 4 dL_isMade_79 rfl ?_
            refine zz_bipush 80 X.1 (v := nI 126) dL_isMade_80 rfl ?_
            refine zz_icmp_ne 82 100 X.1 (nI_toInt (by omega)) (nI_toInt (by omega)) dL_isMade_82 (by decide) (fun h82 => ?_) (fun h82 => ?_)
            · skip
              refine zz_iload_n 100 X.1 4 dL_isMade_100 rfl ?_
              refine zz_bipush 101 X.1 (v := nI 33) dL_isMade_101 rfl ?_
              refine zz_icmp_ne 103 124 X.1 (nI_toInt (by omega)) (nI_toInt (by omega)) dL_isMade_103 (by decide) (fun h103 => ?_) (fun h103 => ?_)
              · skip
                refine zz_iload_n 124 X.1 4 dL_isMade_124 rfl ?_
                refine zz_bipush 125 X.1 (v := nI 45) dL_isMade_125 rfl ?_
                refine zz_icmp_ne 127 143 X.1 (nI_toInt (by omega)) (nI_toInt (by omega)) dL_isMade_127 (by decide) (fun h127 => ?_) (fun h127 => ?_)
                · skip
                  refine zz_iload 143 X.1 1 dL_isMade_143 rfl ?_
                  refine zz_lvs [2, 3, 4, 5] rfl ?_
                  exact C145 (b i) (by rcases hsg with rfl | rfl | rfl | rfl | rfl | rfl <;> first | (exfalso; omega) | simp [du])
                · skip
                  refine zz_iload 130 X.1 1 dL_isMade_130 rfl ?_
                  refine zz_ifB_ne 132 139 X.1 dL_isMade_132 (by decide) (fun h132 => ?_) (fun h132 => ?_)
                  · skip
                    refine zz_iconst 139 X.1 (v := nI 0) dL_isMade_139 rfl ?_
                    refine zz_goto 140 145 X.1 dL_isMade_140 (by decide) ?_
                    refine zz_topi (bI false) rfl ?_
                    refine zz_lvs [2, 3, 4, 5] rfl ?_
                    exact C145 false (by rcases hsg with rfl | rfl | rfl | rfl | rfl | rfl <;> first | (exfalso; omega) | simp [du, h132])
                  · skip
                    refine zz_iconst 135 X.1 (v := nI 1) dL_isMade_135 rfl ?_
                    refine zz_goto 136 145 X.1 dL_isMade_136 (by decide) ?_
                    refine zz_topi (bI true) rfl ?_
                    refine zz_lvs [2, 3, 4, 5] rfl ?_
                    exact C145 true (by rcases hsg with rfl | rfl | rfl | rfl | rfl | rfl <;> first | (exfalso; omega) | simp [du, h132])
              · skip
                refine zz_iload 106 X.1 1 dL_isMade_106 rfl ?_
                refine zz_ifB_eq 108 120 X.1 dL_isMade_108 (by decide) (fun h108 => ?_) (fun h108 => ?_)
                · skip
                  refine zz_iconst 120 X.1 (v := nI 0) dL_isMade_120 rfl ?_
                  refine zz_goto 121 145 X.1 dL_isMade_121 (by decide) ?_
                  refine zz_topi (bI false) rfl ?_
                  refine zz_lvs [2, 3, 4, 5] rfl ?_
                  exact C145 false (by rcases hsg with rfl | rfl | rfl | rfl | rfl | rfl <;> first | (exfalso; omega) | simp [du, h108])
                · skip
                  refine zz_iload 111 X.1 0 dL_isMade_111 rfl ?_
                  refine zz_ifB_ne 113 120 X.1 dL_isMade_113 (by decide) (fun h113 => ?_) (fun h113 => ?_)
                  · skip
                    refine zz_iconst 120 X.1 (v := nI 0) dL_isMade_120 rfl ?_
                    refine zz_goto 121 145 X.1 dL_isMade_121 (by decide) ?_
                    refine zz_topi (bI false) rfl ?_
                    refine zz_lvs [2, 3, 4, 5] rfl ?_
                    exact C145 false (by rcases hsg with rfl | rfl | rfl | rfl | rfl | rfl <;> first | (exfalso; omega) | simp [du, h108, h113])
                  · skip
                    refine zz_iconst 116 X.1 (v := nI 1) dL_isMade_116 rfl ?_
                    refine zz_goto 117 145 X.1 dL_isMade_117 (by decide) ?_
                    refine zz_topi (bI true) rfl ?_
                    refine zz_lvs [2, 3, 4, 5] rfl ?_
                    exact C145 true (by rcases hsg with rfl | rfl | rfl | rfl | rfl | rfl <;> first | (exfalso; omega) | simp [du, h108, h113])
            · skip
              refine zz_iload 85 X.1 1 dL_isMade_85 rfl ?_
              refine zz_iload 87 X.1 0 dL_isMade_87 rfl ?_
              refine zz_icmpB_eq 89 96 X.1 dL_isMade_89 (by decide) (fun h89 => ?_) (fun h89 => ?_)
              · skip
                refine zz_iconst 96 X.1 (v := nI 0) dL_isMade_96 rfl ?_
                refine zz_goto 97 145 X.1 dL_isMade_97 (by decide) ?_
                refine zz_topi (bI false) rfl ?_
                refine zz_lvs [2, 3, 4, 5] rfl ?_
                exact C145 false (by rcases hsg with rfl | rfl | rfl | rfl | rfl | rfl <;> first | (exfalso; omega) | simp [du, h89])
              · skip
                refine zz_iconst 92 X.1 (v := nI 1) dL_isMade_92 rfl ?_
                refine zz_goto 93 145 X.1 dL_isMade_93 (by decide) ?_
                refine zz_topi (bI true) rfl ?_
                refine zz_lvs [2, 3, 4, 5] rfl ?_
                exact C145 true (by rcases hsg with rfl | rfl | rfl | rfl | rfl | rfl <;> first | (exfalso; omega) | simp [du, h89])
          · skip
            refine zz_iload 61 X.1 1 dL_isMade_61 rfl ?_
            refine zz_ifB_ne 63 71 X.1 dL_isMade_63 (by decide) (fun h63 => ?_) (fun h63 => ?_)
            · skip
              refine zz_iconst 71 X.1 (v := nI 1) dL_isMade_71 rfl ?_
              refine zz_goto 72 145 X.1 dL_isMade_72 (by decide) ?_
              refine zz_topi (bI true) rfl ?_
              refine zz_lvs [2, 3, 4, 5] rfl ?_
              exact C145 true (by rcases hsg with rfl | rfl | rfl | rfl | rfl | rfl <;> first | (exfalso; omega) | simp [du, h63])
            · skip
              refine zz_iload 66 X.1 0 dL_isMade_66 rfl ?_
              refine zz_ifB_eq 68 75 X.1 dL_isMade_68 (by decide) (fun h68 => ?_) (fun h68 => ?_)
              · skip
                refine zz_iconst 75 X.1 (v := nI 0) dL_isMade_75 rfl ?_
                refine zz_goto 76 145 X.1 dL_isMade_76 (by decide) ?_
                refine zz_topi (bI false) rfl ?_
                refine zz_lvs [2, 3, 4, 5] rfl ?_
                exact C145 false (by rcases hsg with rfl | rfl | rfl | rfl | rfl | rfl <;> first | (exfalso; omega) | simp [du, h63, h68])
              · skip
                refine zz_iconst 71 X.1 (v := nI 1) dL_isMade_71 rfl ?_
                refine zz_goto 72 145 X.1 dL_isMade_72 (by decide) ?_
                refine zz_topi (bI true) rfl ?_
                refine zz_lvs [2, 3, 4, 5] rfl ?_
                exact C145 true (by rcases hsg with rfl | rfl | rfl | rfl | rfl | rfl <;> first | (exfalso; omega) | simp [du, h63, h68])
        · skip
          refine zz_iload 37 X.1 1 dL_isMade_37 rfl ?_
          refine zz_ifB_eq 39 51 X.1 dL_isMade_39 (by decide) (fun h39 => ?_) (fun h39 => ?_)
          · skip
            refine zz_iconst 51 X.1 (v := nI 0) dL_isMade_51 rfl ?_
            refine zz_goto 52 145 X.1 dL_isMade_52 (by decide) ?_
            refine zz_topi (bI false) rfl ?_
            refine zz_lvs [2, 3, 4, 5] rfl ?_
            exact C145 false (by rcases hsg with rfl | rfl | rfl | rfl | rfl | rfl <;> first | (exfalso; omega) | simp [du, h39])
          · skip
            refine zz_iload 42 X.1 0 dL_isMade_42 rfl ?_
            refine zz_ifB_eq 44 51 X.1 dL_isMade_44 (by decide) (fun h44 => ?_) (fun h44 => ?_)
            · skip
              refine zz_iconst 51 X.1 (v := nI 0) dL_isMade_51 rfl ?_
              refine zz_goto 52 145 X.1 dL_isMade_52 (by decide) ?_
              refine zz_topi (bI false) rfl ?_
              refine zz_lvs [2, 3, 4, 5] rfl ?_
              exact C145 false (by rcases hsg with rfl | rfl | rfl | rfl | rfl | rfl <;> first | (exfalso; omega) | simp [du, h39, h44])
            · skip
              refine zz_iconst 47 X.1 (v := nI 1) dL_isMade_47 rfl ?_
              refine zz_goto 48 145 X.1 dL_isMade_48 (by decide) ?_
              refine zz_topi (bI true) rfl ?_
              refine zz_lvs [2, 3, 4, 5] rfl ?_
              exact C145 true (by rcases hsg with rfl | rfl | rfl | rfl | rfl | rfl <;> first | (exfalso; omega) | simp [du, h39, h44])
  refine zz_lvs [1, 2, 3, 0] rfl ?_
  exact C2 (1024 - 0 + 1) 0 (by omega) (Nat.lt_succ_self _)

abbrev rm_L_makes : Room := { frames := 10, cells := 0, slots := 0, locals := 183 }
theorem yd_L_makes : yL_makes.cls = RL ∧ yL_makes.cls ≠ "java/lang/invoke/MethodHandle" ∧ yL_makes.cls ≠ "java/lang/invoke/VarHandle" ∧ (parseMethodDescriptor yL_makes.desc).map (fun d => d.parameters.length) = some 1 := by decide +kernel
set_option maxHeartbeats 4000000 in
set_option maxRecDepth 100000 in
theorem kt_L_makes (l : Launch) (D : va_G) (C : Nat → ClassId) (K : Nat → Nat) (kL kH : Nat) (ad : Nat → Nat) (hAp : LAp K kL kH) (x : Int32) (F : Nat → Int32) (hs : Nat → Bool) (G T : Nat → Nat → Int32) (b : Nat → Bool) (s0 : Nat) (hs0 : s0 < 3) : LMv l yL_makes wsL_makes rm_L_makes D C K kL kH ad 0 0 [.int (nI s0)] x F hs G T b (fun (q : LSt) => ∃ (hs1 : Nat → Bool) (x1 : Int32), q = (x1, (F, hs1, G, T), b)) := by
  refine LMv_of (lv := [(0, .ref kL), (1, .int (nI s0))]) (cc := cL_makes) (maxL := 8) (ret := none) rfl (by decide +kernel) (Nat.le_of_ble_eq_true rfl) rfl ?_
  intro p e s m args below meth c X hLA hml hr hlk
  generalize hQ : MQ below _ args s 0 0 _ = Q
  refine zz_iconst 0 X.1 (v := nI 1) dL_makes_0 rfl ?_
  refine zz_aload_n 1 X.1 0 dL_makes_1 rfl ?_
  refine zz_bipush 2 X.1 (v := nI 6) dL_makes_2 rfl ?_
  refine ll_callLi 4 X hLA hml (As := [.int (nI 6)]) (kt_L_next l D C K kL kH ad hAp x F hs G T b 6 (by first | rfl | assumption | omega)) gL_makes_L_next rfl ⟨rfl, rfl⟩ yd_L_next ⟨Nat.le_of_ble_eq_true rfl, Nat.le_of_ble_eq_true rfl⟩ rfl rfl (Nat.le_of_ble_eq_true rfl) ⟨Nat.le_of_ble_eq_true rfl, Nat.le_of_ble_eq_true rfl⟩ dL_makes_4 ?_
  rintro r1 ⟨x1, ⟨F1, hs1, G1, T1⟩, b1⟩ hu1
  obtain ⟨k1_1, x1_1, rfl, hv1, hf1_0⟩ := hu1
  cases hv1
  refine zz_world (P' := (LPo D C K kL kH (x1, (F, hs, G, T), b))) (fun _ h => h) ?_
  refine zz_iadd 7 X.1 (v := (nI (1 + k1_1))) dL_makes_7 (nI_add _ _) ?_
  refine zz_istore_n 8 X.1 (lv' := [(2, .int (nI (1 + k1_1))), (0, .ref kL), (1, .int (nI s0))]) dL_makes_8 (by decide) rfl ?_
  have C9 : ∀ (d : Nat) (hs9 : Nat → Bool) (x9 : Int32) (i : Nat) (hi : i < 100) (hd : i < d), ZZ p l e rm_L_makes s m args below meth c 0 0 Q (zz_A (LZ K kL kH) s.heap.size) (LPo D C K kL kH (x9, (F, hs9, G, T), b)) 8 [(0, .ref kL), (1, .int (nI s0)), (2, .int (nI i))] [] 9 := by
    intro d
    induction d with
    | zero => intro hs9 x9 i hi hd; exact absurd hd (Nat.not_lt_zero _)
    | succ d ih9 =>
      intro hs9 x9 i hi hd
      refine zz_iload_n 9 X.1 2 dL_makes_9 rfl ?_
      refine zz_if_le 10 322 X.1 (nI_toInt (by omega)) dL_makes_10 (by decide) (fun h10 => ?_) (fun h10 => ?_)
      · skip
        rw [← hQ]
        refine zz_vret 322 X.1 hr hlk (x9, (F, hs9, G, T), b) ?_ (fun _ h _ => h) dL_makes_322
        exact ⟨_, _, rfl⟩
      · skip
        have C316 : ∀ (hs8 : Nat → Bool) (x8 : Int32) , ZZ p l e rm_L_makes s m args below meth c 0 0 Q (zz_A (LZ K kL kH) s.heap.size) (LPo D C K kL kH (x8, (F, hs8, G, T), b)) 8 [(0, .ref kL), (1, .int (nI s0)), (2, .int (nI i))] [] 316 := by
          intro hs8 x8
          refine zz_iinc 316 X.1 2 (v := (nI (i - 1))) (lv' := [(2, .int (nI (i - 1))), (0, .ref kL), (1, .int (nI s0))]) dL_makes_316 rfl (zn_dec 1 (by omega)) (by decide) rfl ?_
          refine zz_goto 319 9 X.1 dL_makes_319 (by decide) ?_
          refine zz_lvs [1, 2, 0] rfl ?_
          exact ih9 hs8 x8 (i - 1) (by omega) (by omega)
        have C286 : ∀ (d : Nat) (hs8 : Nat → Bool) (x8 : Int32) (j : Nat) (hj : j < 100) (hd : j < d), ZZ p l e rm_L_makes s m args below meth c 0 0 Q (zz_A (LZ K kL kH) s.heap.size) (LPo D C K kL kH (x8, (F, hs8, G, T), b)) 8 [(0, .ref kL), (1, .int (nI s0)), (2, .int (nI i)), (7, .int (nI j))] [] 286 := by
          intro d
          induction d with
          | zero => intro hs8 x8 j hj hd; exact absurd hd (Nat.not_lt_zero _)
          | succ d ih286 =>
            intro hs8 x8 j hj hd
            refine zz_iload 286 X.1 3 dL_makes_286 rfl ?_
            refine zz_if_le 288 316 X.1 (nI_toInt (by omega)) dL_makes_288 (by decide) (fun h288 => ?_) (fun h288 => ?_)
            · skip
              refine zz_lvs [0, 1, 2] rfl ?_
              exact C316 hs8 x8 
            · skip
              refine zz_aload_n 291 X.1 0 dL_makes_291 rfl ?_
              refine ll_get 292 X (by decide +kernel) 1 (by decide) (v := .ref (K 0)) rfl (by decide +kernel) rfl dL_makes_292 ?_
              refine zz_iload_n 295 X.1 1 dL_makes_295 rfl ?_
              refine zz_sipush 296 X.1 (v := nI 1023) dL_makes_296 rfl ?_
              refine zz_aload_n 299 X.1 0 dL_makes_299 rfl ?_
              refine ll_callLi 300 X hLA hml (As := []) (kt_L_number l D C K kL kH ad hAp x8 F hs8 G T b  ) gL_makes_L_number rfl ⟨rfl, rfl⟩ yd_L_number ⟨Nat.le_of_ble_eq_true rfl, Nat.le_of_ble_eq_true rfl⟩ rfl rfl (Nat.le_of_ble_eq_true rfl) ⟨Nat.le_of_ble_eq_true rfl, Nat.le_of_ble_eq_true rfl⟩ dL_makes_300 ?_
              rintro r2 ⟨x2, ⟨F2, hs2, G2, T2⟩, b2⟩ hu2
              obtain ⟨k1_2, x1_2, rfl, hv2, hf2_0⟩ := hu2
              cases hv2
              refine zz_world (P' := (LPo D C K kL kH (x2, (F, hs8, G, T), b))) (fun _ h => h) ?_
              refine zz_mmin 303 X.1 hml X.2.2.1 ((X.2.1 _ (by decide +kernel))) ((X.2.1 _ (by decide +kernel))) ((X.2.1 _ (by decide +kernel))) ((X.2.1 _ (by decide +kernel))) (Nat.le_of_ble_eq_true rfl) (Nat.le_of_ble_eq_true rfl) (Nat.le_of_ble_eq_true rfl) (Nat.le_of_ble_eq_true rfl) (v := (nI (min 1023 k1_2))) dL_makes_303 (zi_of ((zi_min (nI_toInt (by omega)) (nI_toInt (by omega))).trans (by omega))) ?_
              refine ll_callDi 306 X hml hAp (As := [.int (nI s0), .int (nI (min 1023 k1_2))]) (kt_X6_flip_ok l D C K hAp.1 F hs8 G T s0 (min 1023 k1_2) (by first | rfl | assumption | omega) (by first | rfl | assumption | omega)) gL_makes_X6_flip rfl ⟨rfl, rfl⟩ yd_X6_flip ⟨Nat.le_of_ble_eq_true rfl, Nat.le_of_ble_eq_true rfl⟩ rfl rfl (Nat.le_of_ble_eq_true rfl) ⟨Nat.le_of_ble_eq_true rfl, Nat.le_of_ble_eq_true rfl⟩ dL_makes_306 ?_
              rintro r3 ⟨F3, hs3, G3, T3⟩ hu3
              obtain ⟨rfl, hv3⟩ := hu3
              cases hv3
              refine zz_world (P' := (LPo D C K kL kH (x2, (F, (sS hs8 s0 (p1 (hM hs8 s0) (min 1023 k1_2) (!hM hs8 s0 (min 1023 k1_2)))), G, T), b))) (fun _ h => h) ?_
              refine zz_pop 309 X.1 dL_makes_309 rfl ?_
              refine zz_iinc 310 X.1 3 (v := (nI (j - 1))) (lv' := [(7, .int (nI (j - 1))), (0, .ref kL), (1, .int (nI s0)), (2, .int (nI i))]) dL_makes_310 rfl (zn_dec 1 (by omega)) (by decide) rfl ?_
              refine zz_goto 313 286 X.1 dL_makes_313 (by decide) ?_
              refine zz_lvs [1, 2, 3, 0] rfl ?_
              exact ih286 (sS hs8 s0 (p1 (hM hs8 s0) (min 1023 k1_2) (!hM hs8 s0 (min 1023 k1_2)))) x2 (j - 1) (by omega) (by omega)
        refine zz_aload_n 13 X.1 0 dL_makes_13 rfl ?_
        refine ll_callLi 14 X hLA hml (As := []) (kt_L_number l D C K kL kH ad hAp x9 F hs9 G T b  ) gL_makes_L_number rfl ⟨rfl, rfl⟩ yd_L_number ⟨Nat.le_of_ble_eq_true rfl, Nat.le_of_ble_eq_true rfl⟩ rfl rfl (Nat.le_of_ble_eq_true rfl) ⟨Nat.le_of_ble_eq_true rfl, Nat.le_of_ble_eq_true rfl⟩ dL_makes_14 ?_
        rintro r4 ⟨x4, ⟨F4, hs4, G4, T4⟩, b4⟩ hu4
        obtain ⟨k1_4, x1_4, rfl, hv4, hf4_0⟩ := hu4
        cases hv4
        refine zz_world (P' := (LPo D C K kL kH (x4, (F, hs9, G, T), b))) (fun _ h => h) ?_
        refine zz_istore_n 17 X.1 (lv' := [(3, .int (nI k1_4)), (0, .ref kL), (1, .int (nI s0)), (2, .int (nI i))]) dL_makes_17 (by decide) rfl ?_
        refine zz_aload_n 18 X.1 1 dL_makes_18 rfl ?_
        refine ll_callLi 19 X hLA hml (As := []) (kt_L_number l D C K kL kH ad hAp x4 F hs9 G T b  ) gL_makes_L_number rfl ⟨rfl, rfl⟩ yd_L_number ⟨Nat.le_of_ble_eq_true rfl, Nat.le_of_ble_eq_true rfl⟩ rfl rfl (Nat.le_of_ble_eq_true rfl) ⟨Nat.le_of_ble_eq_true rfl, Nat.le_of_ble_eq_true rfl⟩ dL_makes_19 ?_
        rintro r5 ⟨x5, ⟨F5, hs5, G5, T5⟩, b5⟩ hu5
        obtain ⟨k1_5, x1_5, rfl, hv5, hf5_0⟩ := hu5
        cases hv5
        refine zz_world (P' := (LPo D C K kL kH (x5, (F, hs9, G, T), b))) (fun _ h => h) ?_
        refine zz_istore 22 X.1 (lv' := [(4, .int (nI k1_5)), (3, .int (nI k1_4)), (0, .ref kL), (1, .int (nI s0)), (2, .int (nI i))]) dL_makes_22 (by decide) rfl ?_
        refine zz_iload_n 24 X.1 1 dL_makes_24 rfl ?_
        refine zz_iload 25 X.1 0 dL_makes_25 rfl ?_
        refine zz_mmin 27 X.1 hml X.2.2.1 ((X.2.1 _ (by decide +kernel))) ((X.2.1 _ (by decide +kernel))) ((X.2.1 _ (by decide +kernel))) ((X.2.1 _ (by decide +kernel))) (Nat.le_of_ble_eq_true rfl) (Nat.le_of_ble_eq_true rfl) (Nat.le_of_ble_eq_true rfl) (Nat.le_of_ble_eq_true rfl) (v := (nI (min k1_4 k1_5))) dL_makes_27 (zi_of ((zi_min (nI_toInt (by omega)) (nI_toInt (by omega))).trans (by omega))) ?_
        refine zz_istore 30 X.1 (lv' := [(5, .int (nI (min k1_4 k1_5))), (4, .int (nI k1_5)), (3, .int (nI k1_4)), (0, .ref kL), (1, .int (nI s0)), (2, .int (nI i))]) dL_makes_30 (by decide) rfl ?_
        refine zz_iload_n 32 X.1 2 dL_makes_32 rfl ?_
        refine zz_iload 33 X.1 1 dL_makes_33 rfl ?_
        refine zz_mmax 35 X.1 hml X.2.2.1 ((X.2.1 _ (by decide +kernel))) ((X.2.1 _ (by decide +kernel))) ((X.2.1 _ (by decide +kernel))) ((X.2.1 _ (by decide +kernel))) (Nat.le_of_ble_eq_true rfl) (Nat.le_of_ble_eq_true rfl) (Nat.le_of_ble_eq_true rfl) (Nat.le_of_ble_eq_true rfl) (v := (nI (max k1_4 k1_5))) dL_makes_35 (zi_of ((zi_max (nI_toInt (by omega)) (nI_toInt (by omega))).trans (by omega))) ?_
        refine zz_istore 38 X.1 (lv' := [(6, .int (nI (max k1_4 k1_5))), (5, .int (nI (min k1_4 k1_5))), (4, .int (nI k1_5)), (3, .int (nI k1_4)), (0, .ref kL), (1, .int (nI s0)), (2, .int (nI i))]) dL_makes_38 (by decide) rfl ?_
        refine zz_aload_n 40 X.1 4 dL_makes_40 rfl ?_
        refine zz_bipush 41 X.1 (v := nI 11) dL_makes_41 rfl ?_
        refine ll_callLi 43 X hLA hml (As := [.int (nI 11)]) (kt_L_next l D C K kL kH ad hAp x5 F hs9 G T b 11 (by first | rfl | assumption | omega)) gL_makes_L_next rfl ⟨rfl, rfl⟩ yd_L_next ⟨Nat.le_of_ble_eq_true rfl, Nat.le_of_ble_eq_true rfl⟩ rfl rfl (Nat.le_of_ble_eq_true rfl) ⟨Nat.le_of_ble_eq_true rfl, Nat.le_of_ble_eq_true rfl⟩ dL_makes_43 ?_
        rintro r6 ⟨x6, ⟨F6, hs6, G6, T6⟩, b6⟩ hu6
        obtain ⟨k1_6, x1_6, rfl, hv6, hf6_0⟩ := hu6
        cases hv6
        refine zz_world (P' := (LPo D C K kL kH (x6, (F, hs9, G, T), b))) (fun _ h => h) ?_
        rcases (show k1_6 = 0 ∨ k1_6 = 1 ∨ k1_6 = 2 ∨ k1_6 = 3 ∨ k1_6 = 4 ∨ k1_6 = 5 ∨ k1_6 = 6 ∨ k1_6 = 7 ∨ k1_6 = 8 ∨ k1_6 = 9 ∨ k1_6 = 10 by omega) with rfl | rfl | rfl | rfl | rfl | rfl | rfl | rfl | rfl | rfl | rfl
        · skip
          refine zz_tabIn 46 100 X.1 dL_makes_46 (by decide) (by decide) (off := 54) (by decide) (by decide) ?_
          refine zz_aload_n 100 X.1 4 dL_makes_100 rfl ?_
          refine ll_get 101 X (by decide +kernel) 1 (by decide) (v := .ref (K 0)) rfl (by decide +kernel) rfl dL_makes_101 ?_
          refine zz_iload_n 104 X.1 5 dL_makes_104 rfl ?_
          refine zz_iload 105 X.1 1 dL_makes_105 rfl ?_
          refine zz_iload 107 X.1 0 dL_makes_107 rfl ?_
          refine ll_callDi 109 X hml hAp (As := [.int (nI s0), .int (nI (min k1_4 k1_5)), .int (nI (max k1_4 k1_5))]) (kt_X6_addRange_ok l D C K hAp.1 F hs9 G T s0 (min k1_4 k1_5) (max k1_4 k1_5) (by first | rfl | assumption | omega) (by first | rfl | assumption | omega)) gL_makes_X6_addRange rfl ⟨rfl, rfl⟩ yd_X6_addRange ⟨Nat.le_of_ble_eq_true rfl, Nat.le_of_ble_eq_true rfl⟩ rfl rfl (Nat.le_of_ble_eq_true rfl) ⟨Nat.le_of_ble_eq_true rfl, Nat.le_of_ble_eq_true rfl⟩ dL_makes_109 ?_
          rintro r7 ⟨F7, hs7, G7, T7⟩ hu7
          obtain ⟨rfl, hv7⟩ := hu7
          cases hv7
          refine zz_world (P' := (LPo D C K kL kH (x6, (F, (sS hs9 s0 (pR (hM hs9 s0) (min k1_4 k1_5) (max k1_4 k1_5) true)), G, T), b))) (fun _ h => h) ?_
          refine zz_pop 112 X.1 dL_makes_112 rfl ?_
          refine zz_goto 113 316 X.1 dL_makes_113 (by decide) ?_
          refine zz_lvs [4, 5, 6] rfl ?_
          exact C316 (sS hs9 s0 (pR (hM hs9 s0) (min k1_4 k1_5) (max k1_4 k1_5) true)) x6 
        · skip
          refine zz_tabIn 46 100 X.1 dL_makes_46 (by decide) (by decide) (off := 54) (by decide) (by decide) ?_
          refine zz_aload_n 100 X.1 4 dL_makes_100 rfl ?_
          refine ll_get 101 X (by decide +kernel) 1 (by decide) (v := .ref (K 0)) rfl (by decide +kernel) rfl dL_makes_101 ?_
          refine zz_iload_n 104 X.1 5 dL_makes_104 rfl ?_
          refine zz_iload 105 X.1 1 dL_makes_105 rfl ?_
          refine zz_iload 107 X.1 0 dL_makes_107 rfl ?_
          refine ll_callDi 109 X hml hAp (As := [.int (nI s0), .int (nI (min k1_4 k1_5)), .int (nI (max k1_4 k1_5))]) (kt_X6_addRange_ok l D C K hAp.1 F hs9 G T s0 (min k1_4 k1_5) (max k1_4 k1_5) (by first | rfl | assumption | omega) (by first | rfl | assumption | omega)) gL_makes_X6_addRange rfl ⟨rfl, rfl⟩ yd_X6_addRange ⟨Nat.le_of_ble_eq_true rfl, Nat.le_of_ble_eq_true rfl⟩ rfl rfl (Nat.le_of_ble_eq_true rfl) ⟨Nat.le_of_ble_eq_true rfl, Nat.le_of_ble_eq_true rfl⟩ dL_makes_109 ?_
          rintro r8 ⟨F8, hs8, G8, T8⟩ hu8
          obtain ⟨rfl, hv8⟩ := hu8
          cases hv8
          refine zz_world (P' := (LPo D C K kL kH (x6, (F, (sS hs9 s0 (pR (hM hs9 s0) (min k1_4 k1_5) (max k1_4 k1_5) true)), G, T), b))) (fun _ h => h) ?_
          refine zz_pop 112 X.1 dL_makes_112 rfl ?_
          refine zz_goto 113 316 X.1 dL_makes_113 (by decide) ?_
          refine zz_lvs [4, 5, 6] rfl ?_
          exact C316 (sS hs9 s0 (pR (hM hs9 s0) (min k1_4 k1_5) (max k1_4 k1_5) true)) x6 
        · skip
          refine zz_tabIn 46 116 X.1 dL_makes_46 (by decide) (by decide) (off := 70) (by decide) (by decide) ?_
          refine zz_aload_n 116 X.1 4 dL_makes_116 rfl ?_
          refine ll_get 117 X (by decide +kernel) 1 (by decide) (v := .ref (K 0)) rfl (by decide +kernel) rfl dL_makes_117 ?_
          refine zz_iload_n 120 X.1 5 dL_makes_120 rfl ?_
          refine zz_iload 121 X.1 1 dL_makes_121 rfl ?_
          refine zz_iload 123 X.1 0 dL_makes_123 rfl ?_
          refine ll_callDi 125 X hml hAp (As := [.int (nI s0), .int (nI (min k1_4 k1_5)), .int (nI (max k1_4 k1_5))]) (kt_X6_flipRange_ok l D C K hAp.1 F hs9 G T s0 (min k1_4 k1_5) (max k1_4 k1_5) (by first | rfl | assumption | omega) (by first | rfl | assumption | omega)) gL_makes_X6_flipRange rfl ⟨rfl, rfl⟩ yd_X6_flipRange ⟨Nat.le_of_ble_eq_true rfl, Nat.le_of_ble_eq_true rfl⟩ rfl rfl (Nat.le_of_ble_eq_true rfl) ⟨Nat.le_of_ble_eq_true rfl, Nat.le_of_ble_eq_true rfl⟩ dL_makes_125 ?_
          rintro r9 ⟨F9, hs9, G9, T9⟩ hu9
          obtain ⟨rfl, hv9⟩ := hu9
          cases hv9
          refine zz_world (P' := (LPo D C K kL kH (x6, (F, (sS hs9 s0 (pX (hM hs9 s0) (min k1_4 k1_5) (max k1_4 k1_5))), G, T), b))) (fun _ h => h) ?_
          refine zz_pop 128 X.1 dL_makes_128 rfl ?_
          refine zz_goto 129 316 X.1 dL_makes_129 (by decide) ?_
          refine zz_lvs [4, 5, 6] rfl ?_
          exact C316 (sS hs9 s0 (pX (hM hs9 s0) (min k1_4 k1_5) (max k1_4 k1_5))) x6 
        · skip
          refine zz_tabIn 46 132 X.1 dL_makes_46 (by decide) (by decide) (off := 86) (by decide) (by decide) ?_
          refine zz_aload_n 132 X.1 4 dL_makes_132 rfl ?_
          refine ll_get 133 X (by decide +kernel) 1 (by decide) (v := .ref (K 0)) rfl (by decide +kernel) rfl dL_makes_133 ?_
          refine zz_iload_n 136 X.1 5 dL_makes_136 rfl ?_
          refine zz_iload 137 X.1 1 dL_makes_137 rfl ?_
          refine zz_iload 139 X.1 0 dL_makes_139 rfl ?_
          refine ll_callDi 141 X hml hAp (As := [.int (nI s0), .int (nI (min k1_4 k1_5)), .int (nI (max k1_4 k1_5))]) (kt_X6_removeRange_ok l D C K hAp.1 F hs9 G T s0 (min k1_4 k1_5) (max k1_4 k1_5) (by first | rfl | assumption | omega) (by first | rfl | assumption | omega)) gL_makes_X6_removeRange rfl ⟨rfl, rfl⟩ yd_X6_removeRange ⟨Nat.le_of_ble_eq_true rfl, Nat.le_of_ble_eq_true rfl⟩ rfl rfl (Nat.le_of_ble_eq_true rfl) ⟨Nat.le_of_ble_eq_true rfl, Nat.le_of_ble_eq_true rfl⟩ dL_makes_141 ?_
          rintro r10 ⟨F10, hs10, G10, T10⟩ hu10
          obtain ⟨rfl, hv10⟩ := hu10
          cases hv10
          refine zz_world (P' := (LPo D C K kL kH (x6, (F, (sS hs9 s0 (pR (hM hs9 s0) (min k1_4 k1_5) (max k1_4 k1_5) false)), G, T), b))) (fun _ h => h) ?_
          refine zz_pop 144 X.1 dL_makes_144 rfl ?_
          refine zz_goto 145 316 X.1 dL_makes_145 (by decide) ?_
          refine zz_lvs [4, 5, 6] rfl ?_
          exact C316 (sS hs9 s0 (pR (hM hs9 s0) (min k1_4 k1_5) (max k1_4 k1_5) false)) x6 
        · skip
          refine zz_tabIn 46 148 X.1 dL_makes_46 (by decide) (by decide) (off := 102) (by decide) (by decide) ?_
          refine zz_aload_n 148 X.1 4 dL_makes_148 rfl ?_
          refine ll_get 149 X (by decide +kernel) 1 (by decide) (v := .ref (K 0)) rfl (by decide +kernel) rfl dL_makes_149 ?_
          refine zz_iload_n 152 X.1 5 dL_makes_152 rfl ?_
          refine zz_aload_n 153 X.1 4 dL_makes_153 rfl ?_
          refine ll_callLl 154 X hLA hml (As := []) (kt_L_word l D C K kL kH ad hAp x6 F hs9 G T b  ) gL_makes_L_word rfl ⟨rfl, rfl⟩ yd_L_word ⟨Nat.le_of_ble_eq_true rfl, Nat.le_of_ble_eq_true rfl⟩ rfl rfl (Nat.le_of_ble_eq_true rfl) ⟨Nat.le_of_ble_eq_true rfl, Nat.le_of_ble_eq_true rfl⟩ dL_makes_154 ?_
          rintro r11 ⟨x11, ⟨F11, hs11, G11, T11⟩, b11⟩ hu11
          obtain ⟨w1_11, x1_11, rfl, hv11⟩ := hu11
          cases hv11
          refine zz_world (P' := (LPo D C K kL kH (x11, (F, hs9, G, T), b))) (fun _ h => h) ?_
          refine zz_aload_n 157 X.1 4 dL_makes_157 rfl ?_
          refine ll_callLl 158 X hLA hml (As := []) (kt_L_word l D C K kL kH ad hAp x11 F hs9 G T b  ) gL_makes_L_word rfl ⟨rfl, rfl⟩ yd_L_word ⟨Nat.le_of_ble_eq_true rfl, Nat.le_of_ble_eq_true rfl⟩ rfl rfl (Nat.le_of_ble_eq_true rfl) ⟨Nat.le_of_ble_eq_true rfl, Nat.le_of_ble_eq_true rfl⟩ dL_makes_158 ?_
          rintro r12 ⟨x12, ⟨F12, hs12, G12, T12⟩, b12⟩ hu12
          obtain ⟨w1_12, x1_12, rfl, hv12⟩ := hu12
          cases hv12
          refine zz_world (P' := (LPo D C K kL kH (x12, (F, hs9, G, T), b))) (fun _ h => h) ?_
          refine zz_aload_n 161 X.1 4 dL_makes_161 rfl ?_
          refine ll_callLl 162 X hLA hml (As := []) (kt_L_word l D C K kL kH ad hAp x12 F hs9 G T b  ) gL_makes_L_word rfl ⟨rfl, rfl⟩ yd_L_word ⟨Nat.le_of_ble_eq_true rfl, Nat.le_of_ble_eq_true rfl⟩ rfl rfl (Nat.le_of_ble_eq_true rfl) ⟨Nat.le_of_ble_eq_true rfl, Nat.le_of_ble_eq_true rfl⟩ dL_makes_162 ?_
          rintro r13 ⟨x13, ⟨F13, hs13, G13, T13⟩, b13⟩ hu13
          obtain ⟨w1_13, x1_13, rfl, hv13⟩ := hu13
          cases hv13
          refine zz_world (P' := (LPo D C K kL kH (x13, (F, hs9, G, T), b))) (fun _ h => h) ?_
          refine ll_callDi 165 X hml hAp (As := [.int (nI s0), .long r11, .long r12, .long r13]) (kt_X6_loadWords_ok l D C K hAp.1 F hs9 G T s0 r11 r12 r13 (by first | rfl | assumption | omega)) gL_makes_X6_loadWords rfl ⟨rfl, rfl⟩ yd_X6_loadWords ⟨Nat.le_of_ble_eq_true rfl, Nat.le_of_ble_eq_true rfl⟩ rfl rfl (Nat.le_of_ble_eq_true rfl) ⟨Nat.le_of_ble_eq_true rfl, Nat.le_of_ble_eq_true rfl⟩ dL_makes_165 ?_
          rintro r14 ⟨F14, hs14, G14, T14⟩ hu14
          obtain ⟨rfl, hv14⟩ := hu14
          cases hv14
          refine zz_world (P' := (LPo D C K kL kH (x13, (F, (sS hs9 s0 (pW3 r11 r12 r13)), G, T), b))) (fun _ h => h) ?_
          refine zz_pop 168 X.1 dL_makes_168 rfl ?_
          refine zz_goto 169 316 X.1 dL_makes_169 (by decide) ?_
          refine zz_lvs [4, 5, 6] rfl ?_
          exact C316 (sS hs9 s0 (pW3 r11 r12 r13)) x13 
        · skip
          refine zz_tabIn 46 172 X.1 dL_makes_46 (by decide) (by decide) (off := 126) (by decide) (by decide) ?_
          refine zz_aload_n 172 X.1 4 dL_makes_172 rfl ?_
          refine ll_get 173 X (by decide +kernel) 1 (by decide) (v := .ref (K 0)) rfl (by decide +kernel) rfl dL_makes_173 ?_
          refine zz_iload_n 176 X.1 5 dL_makes_176 rfl ?_
          refine zz_iload 177 X.1 0 dL_makes_177 rfl ?_
          refine ll_callDi 179 X hml hAp (As := [.int (nI s0), .int (nI (max k1_4 k1_5))]) (kt_X6_sieve_ok l D C K hAp.1 F hs9 G T s0 (max k1_4 k1_5) (by first | rfl | assumption | omega) (by first | rfl | assumption | omega)) gL_makes_X6_sieve rfl ⟨rfl, rfl⟩ yd_X6_sieve ⟨Nat.le_of_ble_eq_true rfl, Nat.le_of_ble_eq_true rfl⟩ rfl rfl (Nat.le_of_ble_eq_true rfl) ⟨Nat.le_of_ble_eq_true rfl, Nat.le_of_ble_eq_true rfl⟩ dL_makes_179 ?_
          rintro r15 ⟨F15, hs15, G15, T15⟩ hu15
          obtain ⟨rfl, hv15⟩ := hu15
          cases hv15
          refine zz_world (P' := (LPo D C K kL kH (x6, (F, (sS hs9 s0 (fun i => decide (i < (max k1_4 k1_5)) && pr i)), G, T), b))) (fun _ h => h) ?_
          refine zz_pop 182 X.1 dL_makes_182 rfl ?_
          refine zz_goto 183 316 X.1 dL_makes_183 (by decide) ?_
          refine zz_lvs [4, 5, 6] rfl ?_
          exact C316 (sS hs9 s0 (fun i => decide (i < (max k1_4 k1_5)) && pr i)) x6 
        · skip
          refine zz_tabIn 46 186 X.1 dL_makes_46 (by decide) (by decide) (off := 140) (by decide) (by decide) ?_
          refine zz_aload_n 186 X.1 4 dL_makes_186 rfl ?_
          refine ll_get 187 X (by decide +kernel) 1 (by decide) (v := .ref (K 0)) rfl (by decide +kernel) rfl dL_makes_187 ?_
          refine zz_iload_n 190 X.1 5 dL_makes_190 rfl ?_
          refine zz_aload_n 191 X.1 4 dL_makes_191 rfl ?_
          refine zz_sipush 192 X.1 (v := nI 2047) dL_makes_192 rfl ?_
          refine ll_callLi 195 X hLA hml (As := [.int (nI 2047)]) (kt_L_next l D C K kL kH ad hAp x6 F hs9 G T b 2047 (by first | rfl | assumption | omega)) gL_makes_L_next rfl ⟨rfl, rfl⟩ yd_L_next ⟨Nat.le_of_ble_eq_true rfl, Nat.le_of_ble_eq_true rfl⟩ rfl rfl (Nat.le_of_ble_eq_true rfl) ⟨Nat.le_of_ble_eq_true rfl, Nat.le_of_ble_eq_true rfl⟩ dL_makes_195 ?_
          rintro r16 ⟨x16, ⟨F16, hs16, G16, T16⟩, b16⟩ hu16
          obtain ⟨k1_16, x1_16, rfl, hv16, hf16_0⟩ := hu16
          cases hv16
          refine zz_world (P' := (LPo D C K kL kH (x16, (F, hs9, G, T), b))) (fun _ h => h) ?_
          refine zz_sipush 198 X.1 (v := nI 1023) dL_makes_198 rfl ?_
          refine zz_isub 201 X.1 (v := (nI k1_16 - nI 1023)) dL_makes_201 rfl ?_
          refine ll_callDi 202 X hml hAp (As := [.int (nI s0), .int (nI k1_16 - nI 1023)]) (kt_X6_shift_ok l D C K hAp.1 F hs9 G T s0 (nI k1_16 - nI 1023) (((k1_16 : Nat) : Int) - ((1023 : Nat) : Int)) ((pk_sub_toInt (by omega) (by omega))) (by first | rfl | assumption | omega) (by first | rfl | assumption | omega)) gL_makes_X6_shift rfl ⟨rfl, rfl⟩ yd_X6_shift ⟨Nat.le_of_ble_eq_true rfl, Nat.le_of_ble_eq_true rfl⟩ rfl rfl (Nat.le_of_ble_eq_true rfl) ⟨Nat.le_of_ble_eq_true rfl, Nat.le_of_ble_eq_true rfl⟩ dL_makes_202 ?_
          rintro r17 ⟨F17, hs17, G17, T17⟩ hu17
          obtain ⟨rfl, hv17⟩ := hu17
          cases hv17
          refine zz_world (P' := (LPo D C K kL kH (x16, (F, (sS hs9 s0 (pH (hM hs9 s0) (((k1_16 : Nat) : Int) - ((1023 : Nat) : Int)))), G, T), b))) (fun _ h => h) ?_
          refine zz_pop 205 X.1 dL_makes_205 rfl ?_
          refine zz_goto 206 316 X.1 dL_makes_206 (by decide) ?_
          refine zz_lvs [4, 5, 6] rfl ?_
          exact C316 (sS hs9 s0 (pH (hM hs9 s0) (((k1_16 : Nat) : Int) - ((1023 : Nat) : Int)))) x16 
        · skip
          refine zz_tabIn 46 209 X.1 dL_makes_46 (by decide) (by decide) (off := 163) (by decide) (by decide) ?_
          refine zz_aload_n 209 X.1 4 dL_makes_209 rfl ?_
          refine ll_get 210 X (by decide +kernel) 1 (by decide) (v := .ref (K 0)) rfl (by decide +kernel) rfl dL_makes_210 ?_
          refine zz_iload_n 213 X.1 5 dL_makes_213 rfl ?_
          refine zz_aload_n 214 X.1 4 dL_makes_214 rfl ?_
          refine zz_iconst 215 X.1 (v := nI 3) dL_makes_215 rfl ?_
          refine ll_callLi 216 X hLA hml (As := [.int (nI 3)]) (kt_L_next l D C K kL kH ad hAp x6 F hs9 G T b 3 (by first | rfl | assumption | omega)) gL_makes_L_next rfl ⟨rfl, rfl⟩ yd_L_next ⟨Nat.le_of_ble_eq_true rfl, Nat.le_of_ble_eq_true rfl⟩ rfl rfl (Nat.le_of_ble_eq_true rfl) ⟨Nat.le_of_ble_eq_true rfl, Nat.le_of_ble_eq_true rfl⟩ dL_makes_216 ?_
          rintro r18 ⟨x18, ⟨F18, hs18, G18, T18⟩, b18⟩ hu18
          obtain ⟨k1_18, x1_18, rfl, hv18, hf18_0⟩ := hu18
          cases hv18
          refine zz_world (P' := (LPo D C K kL kH (x18, (F, hs9, G, T), b))) (fun _ h => h) ?_
          refine zz_iload 219 X.1 1 dL_makes_219 rfl ?_
          refine zz_iload 221 X.1 0 dL_makes_221 rfl ?_
          refine ll_callDi 223 X hml hAp (As := [.int (nI s0), .int (nI k1_18), .int (nI (min k1_4 k1_5)), .int (nI (max k1_4 k1_5))]) (kt_X6_takePart_ok l D C K hAp.1 F hs9 G T s0 k1_18 (min k1_4 k1_5) (max k1_4 k1_5) (by first | rfl | assumption | omega) (by first | rfl | assumption | omega) (by first | rfl | assumption | omega)) gL_makes_X6_takePart rfl ⟨rfl, rfl⟩ yd_X6_takePart ⟨Nat.le_of_ble_eq_true rfl, Nat.le_of_ble_eq_true rfl⟩ rfl rfl (Nat.le_of_ble_eq_true rfl) ⟨Nat.le_of_ble_eq_true rfl, Nat.le_of_ble_eq_true rfl⟩ dL_makes_223 ?_
          rintro r19 ⟨F19, hs19, G19, T19⟩ hu19
          obtain ⟨rfl, hv19⟩ := hu19
          cases hv19
          refine zz_world (P' := (LPo D C K kL kH (x18, (F, (sS hs9 s0 (pT (hM hs9 k1_18) (min k1_4 k1_5) (max k1_4 k1_5))), G, T), b))) (fun _ h => h) ?_
          refine zz_pop 226 X.1 dL_makes_226 rfl ?_
          refine zz_goto 227 316 X.1 dL_makes_227 (by decide) ?_
          refine zz_lvs [4, 5, 6] rfl ?_
          exact C316 (sS hs9 s0 (pT (hM hs9 k1_18) (min k1_4 k1_5) (max k1_4 k1_5))) x18 
        · skip
          refine zz_tabIn 46 230 X.1 dL_makes_46 (by decide) (by decide) (off := 184) (by decide) (by decide) ?_
          refine zz_aload_n 230 X.1 4 dL_makes_230 rfl ?_
          refine ll_get 231 X (by decide +kernel) 1 (by decide) (v := .ref (K 0)) rfl (by decide +kernel) rfl dL_makes_231 ?_
          refine zz_iload_n 234 X.1 5 dL_makes_234 rfl ?_
          refine zz_iload 235 X.1 1 dL_makes_235 rfl ?_
          refine zz_iload 237 X.1 0 dL_makes_237 rfl ?_
          refine zz_aload_n 239 X.1 4 dL_makes_239 rfl ?_
          refine zz_iconst 240 X.1 (v := nI 2) dL_makes_240 rfl ?_
          refine ll_callLi 241 X hLA hml (As := [.int (nI 2)]) (kt_L_next l D C K kL kH ad hAp x6 F hs9 G T b 2 (by first | rfl | assumption | omega)) gL_makes_L_next rfl ⟨rfl, rfl⟩ yd_L_next ⟨Nat.le_of_ble_eq_true rfl, Nat.le_of_ble_eq_true rfl⟩ rfl rfl (Nat.le_of_ble_eq_true rfl) ⟨Nat.le_of_ble_eq_true rfl, Nat.le_of_ble_eq_true rfl⟩ dL_makes_241 ?_
          rintro r20 ⟨x20, ⟨F20, hs20, G20, T20⟩, b20⟩ hu20
          obtain ⟨k1_20, x1_20, rfl, hv20, hf20_0⟩ := hu20
          cases hv20
          refine zz_world (P' := (LPo D C K kL kH (x20, (F, hs9, G, T), b))) (fun _ h => h) ?_
          refine zz_if_ne 244 251 X.1 (nI_toInt (by omega)) dL_makes_244 (by decide) (fun h244 => ?_) (fun h244 => ?_)
          · skip
            refine zz_iconst 251 X.1 (v := nI 0) dL_makes_251 rfl ?_
            refine ll_callDi 252 X hml hAp (As := [.int (nI s0), .int (nI (min k1_4 k1_5)), .int (nI (max k1_4 k1_5)), .int (bI false)]) (kt_X6_putRange_ok l D C K hAp.1 F hs9 G T s0 (min k1_4 k1_5) (max k1_4 k1_5) false (by first | rfl | assumption | omega) (by first | rfl | assumption | omega)) gL_makes_X6_putRange rfl ⟨rfl, rfl⟩ yd_X6_putRange ⟨Nat.le_of_ble_eq_true rfl, Nat.le_of_ble_eq_true rfl⟩ rfl rfl (Nat.le_of_ble_eq_true rfl) ⟨Nat.le_of_ble_eq_true rfl, Nat.le_of_ble_eq_true rfl⟩ dL_makes_252 ?_
            rintro r21 ⟨F21, hs21, G21, T21⟩ hu21
            obtain ⟨rfl, hv21⟩ := hu21
            cases hv21
            refine zz_world (P' := (LPo D C K kL kH (x20, (F, (sS hs9 s0 (pR (hM hs9 s0) (min k1_4 k1_5) (max k1_4 k1_5) false)), G, T), b))) (fun _ h => h) ?_
            refine zz_pop 255 X.1 dL_makes_255 rfl ?_
            refine zz_goto 256 316 X.1 dL_makes_256 (by decide) ?_
            refine zz_lvs [4, 5, 6] rfl ?_
            exact C316 (sS hs9 s0 (pR (hM hs9 s0) (min k1_4 k1_5) (max k1_4 k1_5) false)) x20 
          · skip
            refine zz_iconst 247 X.1 (v := nI 1) dL_makes_247 rfl ?_
            refine zz_goto 248 252 X.1 dL_makes_248 (by decide) ?_
            refine ll_callDi 252 X hml hAp (As := [.int (nI s0), .int (nI (min k1_4 k1_5)), .int (nI (max k1_4 k1_5)), .int (bI true)]) (kt_X6_putRange_ok l D C K hAp.1 F hs9 G T s0 (min k1_4 k1_5) (max k1_4 k1_5) true (by first | rfl | assumption | omega) (by first | rfl | assumption | omega)) gL_makes_X6_putRange rfl ⟨rfl, rfl⟩ yd_X6_putRange ⟨Nat.le_of_ble_eq_true rfl, Nat.le_of_ble_eq_true rfl⟩ rfl rfl (Nat.le_of_ble_eq_true rfl) ⟨Nat.le_of_ble_eq_true rfl, Nat.le_of_ble_eq_true rfl⟩ dL_makes_252 ?_
            rintro r22 ⟨F22, hs22, G22, T22⟩ hu22
            obtain ⟨rfl, hv22⟩ := hu22
            cases hv22
            refine zz_world (P' := (LPo D C K kL kH (x20, (F, (sS hs9 s0 (pR (hM hs9 s0) (min k1_4 k1_5) (max k1_4 k1_5) true)), G, T), b))) (fun _ h => h) ?_
            refine zz_pop 255 X.1 dL_makes_255 rfl ?_
            refine zz_goto 256 316 X.1 dL_makes_256 (by decide) ?_
            refine zz_lvs [4, 5, 6] rfl ?_
            exact C316 (sS hs9 s0 (pR (hM hs9 s0) (min k1_4 k1_5) (max k1_4 k1_5) true)) x20 
        · skip
          refine zz_tabIn 46 259 X.1 dL_makes_46 (by decide) (by decide) (off := 213) (by decide) (by decide) ?_
          refine zz_aload_n 259 X.1 4 dL_makes_259 rfl ?_
          refine ll_get 260 X (by decide +kernel) 1 (by decide) (v := .ref (K 0)) rfl (by decide +kernel) rfl dL_makes_260 ?_
          refine zz_iload_n 263 X.1 5 dL_makes_263 rfl ?_
          refine zz_aload_n 264 X.1 4 dL_makes_264 rfl ?_
          refine zz_iconst 265 X.1 (v := nI 3) dL_makes_265 rfl ?_
          refine ll_callLi 266 X hLA hml (As := [.int (nI 3)]) (kt_L_next l D C K kL kH ad hAp x6 F hs9 G T b 3 (by first | rfl | assumption | omega)) gL_makes_L_next rfl ⟨rfl, rfl⟩ yd_L_next ⟨Nat.le_of_ble_eq_true rfl, Nat.le_of_ble_eq_true rfl⟩ rfl rfl (Nat.le_of_ble_eq_true rfl) ⟨Nat.le_of_ble_eq_true rfl, Nat.le_of_ble_eq_true rfl⟩ dL_makes_266 ?_
          rintro r23 ⟨x23, ⟨F23, hs23, G23, T23⟩, b23⟩ hu23
          obtain ⟨k1_23, x1_23, rfl, hv23, hf23_0⟩ := hu23
          cases hv23
          refine zz_world (P' := (LPo D C K kL kH (x23, (F, hs9, G, T), b))) (fun _ h => h) ?_
          refine ll_callDi 269 X hml hAp (As := [.int (nI s0), .int (nI k1_23)]) (kt_X6_differ_ok l D C K hAp.1 F hs9 G T s0 k1_23 (by first | rfl | assumption | omega) (by first | rfl | assumption | omega)) gL_makes_X6_differ rfl ⟨rfl, rfl⟩ yd_X6_differ ⟨Nat.le_of_ble_eq_true rfl, Nat.le_of_ble_eq_true rfl⟩ rfl rfl (Nat.le_of_ble_eq_true rfl) ⟨Nat.le_of_ble_eq_true rfl, Nat.le_of_ble_eq_true rfl⟩ dL_makes_269 ?_
          rintro r24 ⟨F24, hs24, G24, T24⟩ hu24
          obtain ⟨rfl, hv24⟩ := hu24
          cases hv24
          refine zz_world (P' := (LPo D C K kL kH (x23, (F, (sS hs9 s0 (fun i => pJ 126 (hM hs9 s0 i) (hM hs9 k1_23 i))), G, T), b))) (fun _ h => h) ?_
          refine zz_pop 272 X.1 dL_makes_272 rfl ?_
          refine zz_goto 273 316 X.1 dL_makes_273 (by decide) ?_
          refine zz_lvs [4, 5, 6] rfl ?_
          exact C316 (sS hs9 s0 (fun i => pJ 126 (hM hs9 s0 i) (hM hs9 k1_23 i))) x23 
        · skip
          refine zz_tabOut 46 276 X.1 dL_makes_46 (by decide) (by decide) ?_
          refine zz_iconst 276 X.1 (v := nI 1) dL_makes_276 rfl ?_
          refine zz_aload_n 277 X.1 4 dL_makes_277 rfl ?_
          refine zz_bipush 278 X.1 (v := nI 8) dL_makes_278 rfl ?_
          refine ll_callLi 280 X hLA hml (As := [.int (nI 8)]) (kt_L_next l D C K kL kH ad hAp x6 F hs9 G T b 8 (by first | rfl | assumption | omega)) gL_makes_L_next rfl ⟨rfl, rfl⟩ yd_L_next ⟨Nat.le_of_ble_eq_true rfl, Nat.le_of_ble_eq_true rfl⟩ rfl rfl (Nat.le_of_ble_eq_true rfl) ⟨Nat.le_of_ble_eq_true rfl, Nat.le_of_ble_eq_true rfl⟩ dL_makes_280 ?_
          rintro r25 ⟨x25, ⟨F25, hs25, G25, T25⟩, b25⟩ hu25
          obtain ⟨k1_25, x1_25, rfl, hv25, hf25_0⟩ := hu25
          cases hv25
          refine zz_world (P' := (LPo D C K kL kH (x25, (F, hs9, G, T), b))) (fun _ h => h) ?_
          refine zz_iadd 283 X.1 (v := (nI (1 + k1_25))) dL_makes_283 (nI_add _ _) ?_
          refine zz_istore 284 X.1 (lv' := [(7, .int (nI (1 + k1_25))), (6, .int (nI (max k1_4 k1_5))), (5, .int (nI (min k1_4 k1_5))), (4, .int (nI k1_5)), (3, .int (nI k1_4)), (0, .ref kL), (1, .int (nI s0)), (2, .int (nI i))]) dL_makes_284 (by decide) rfl ?_
          refine zz_lvs [5, 6, 7, 0] rfl ?_
          exact C286 ((1 + k1_25) + 1) hs9 x25 (1 + k1_25) (by omega) (Nat.lt_succ_self _)
  refine zz_lvs [1, 2, 0] rfl ?_
  exact C9 ((1 + k1_1) + 1) hs x1 (1 + k1_1) (by omega) (Nat.lt_succ_self _)

abbrev rm_L_areRead : Room := { frames := 9, cells := 0, slots := 0, locals := 157 }
theorem yd_L_areRead : yL_areRead.cls = RL ∧ yL_areRead.cls ≠ "java/lang/invoke/MethodHandle" ∧ yL_areRead.cls ≠ "java/lang/invoke/VarHandle" ∧ (parseMethodDescriptor yL_areRead.desc).map (fun d => d.parameters.length) = some 0 := by decide +kernel
set_option maxHeartbeats 4000000 in
set_option maxRecDepth 100000 in
theorem kt_L_areRead (l : Launch) (D : va_G) (C : Nat → ClassId) (K : Nat → Nat) (kL kH : Nat) (ad : Nat → Nat) (hAp : LAp K kL kH) (x : Int32) (F : Nat → Int32) (hs : Nat → Bool) (G T : Nat → Nat → Int32) (b : Nat → Bool)   : LMi l yL_areRead wsL_areRead rm_L_areRead D C K kL kH ad 0 0 [] x F hs G T b (fun (r : Int32) (q : LSt) => ∃ (b1 : Nat → Bool), r = (bI true) ∧ q = (x, (F, hs, G, T), b1) ∧ RD hs b1) := by
  refine LMi_of (lv := [(0, .ref kL)]) (cc := cL_areRead) (maxL := 7) (ret := (some .boolean)) rfl (by decide +kernel) (Nat.le_of_ble_eq_true rfl) rfl ?_
  intro p e s m args below meth c X hLA hml hr hlk
  generalize hQ : MQ below _ args s 0 0 _ = Q
  refine zz_iconst 0 X.1 (v := nI 0) dL_areRead_0 rfl ?_
  refine zz_istore_n 1 X.1 (lv' := [(1, .int (nI 0)), (0, .ref kL)]) dL_areRead_1 (by decide) rfl ?_
  have C2 : ∀ (d : Nat) (s9 : Nat) (b9 : Nat → Bool) (hs3 : s9 ≤ 3) (hb : b9 = bU hs b (1024 * s9)) (hd : 3 - s9 < d), ZZ p l e rm_L_areRead s m args below meth c 0 0 Q (zz_A (LZ K kL kH) s.heap.size) (LPo D C K kL kH (x, (F, hs, G, T), b9)) 7 [(0, .ref kL), (1, .int (nI s9))] [] 2 := by
    intro d
    induction d with
    | zero => intro s9 b9 hs3 hb hd; exact absurd hd (Nat.not_lt_zero _)
    | succ d ih2 =>
      intro s9 b9 hs3 hb hd
      refine zz_iload_n 2 X.1 1 dL_areRead_2 rfl ?_
      refine zz_iconst 3 X.1 (v := nI 3) dL_areRead_3 rfl ?_
      refine zz_icmp_ge 4 244 X.1 (nI_toInt (by omega)) (nI_toInt (by omega)) dL_areRead_4 (by decide) (fun h4 => ?_) (fun h4 => ?_)
      · skip
        refine zz_iconst 244 X.1 (v := nI 1) dL_areRead_244 rfl ?_
        refine zz_topi (bI true) rfl ?_
        rw [← hQ]
        refine zz_iret 245 X.1 hr (bI_nar _) hlk (x, (F, hs, G, T), b9) ?_ (fun _ h _ => h) dL_areRead_245
        exact ⟨_, rfl, rfl, fun i hi => by rw [hb]; exact bU_at (by omega)⟩
      · skip
        refine zz_iconst 7 X.1 (v := nI 0) dL_areRead_7 rfl ?_
        refine zz_topi (nI (ct (hM hs s9) 0)) (rfl) ?_
        refine zz_istore_n 8 X.1 (lv' := [(2, .int (nI (ct (hM hs s9) 0))), (0, .ref kL), (1, .int (nI s9))]) dL_areRead_8 (by decide) rfl ?_
        refine zz_iconst 9 X.1 (v := nI 0) dL_areRead_9 rfl ?_
        refine zz_topi (nI (ct (bg (hM hs s9)) 0)) (rfl) ?_
        refine zz_istore_n 10 X.1 (lv' := [(3, .int (nI (ct (bg (hM hs s9)) 0))), (2, .int (nI (ct (hM hs s9) 0))), (0, .ref kL), (1, .int (nI s9))]) dL_areRead_10 (by decide) rfl ?_
        refine zz_lconst 11 X.1 (v := 0) dL_areRead_11 (by decide) ?_
        refine zz_topl (lN (su (hM hs s9) 0)) (by rfl) ?_
        refine zz_lstore 12 X.1 (lv' := [(4, .long (lN (su (hM hs s9) 0))), (3, .int (nI (ct (bg (hM hs s9)) 0))), (2, .int (nI (ct (hM hs s9) 0))), (0, .ref kL), (1, .int (nI s9))]) dL_areRead_12 (by decide) rfl ?_
        refine zz_iconst 14 X.1 (v := nI 0) dL_areRead_14 rfl ?_
        refine zz_istore 15 X.1 (lv' := [(6, .int (nI 0)), (4, .long (lN (su (hM hs s9) 0))), (3, .int (nI (ct (bg (hM hs s9)) 0))), (2, .int (nI (ct (hM hs s9) 0))), (0, .ref kL), (1, .int (nI s9))]) dL_areRead_15 (by decide) rfl ?_
        have C17 : ∀ (d : Nat) (i : Nat) (b8 : Nat → Bool) (hi : i ≤ 1024) (hb8 : b8 = bU hs b (1024 * s9 + i)) (hd : 1024 - i < d), ZZ p l e rm_L_areRead s m args below meth c 0 0 Q (zz_A (LZ K kL kH) s.heap.size) (LPo D C K kL kH (x, (F, hs, G, T), b8)) 7 [(0, .ref kL), (1, .int (nI s9)), (2, .int (nI (ct (hM hs s9) i))), (3, .int (nI (ct (bg (hM hs s9)) i))), (4, .long (lN (su (hM hs s9) i))), (6, .int (nI i))] [] 17 := by
          intro d
          induction d with
          | zero => intro i b8 hi hb8 hd; exact absurd hd (Nat.not_lt_zero _)
          | succ d ih17 =>
            intro i b8 hi hb8 hd
            have hc0 := ct_le (hM hs s9) i
            have hc1 := ct_le (hM hs s9) 1024
            have hc2 := ct_le (bg (hM hs s9)) i
            have hc3 := ct_le (bg (hM hs s9)) 1024
            refine zz_iload 17 X.1 5 dL_areRead_17 rfl ?_
            refine zz_sipush 19 X.1 (v := nI 1024) dL_areRead_19 rfl ?_
            refine zz_icmp_ge 22 153 X.1 (nI_toInt (by omega)) (nI_toInt (by omega)) dL_areRead_22 (by decide) (fun h22 => ?_) (fun h22 => ?_)
            · skip
              refine zz_aload_n 153 X.1 0 dL_areRead_153 rfl ?_
              refine ll_get 154 X (by decide +kernel) 1 (by decide) (v := .ref (K 0)) rfl (by decide +kernel) rfl dL_areRead_154 ?_
              refine zz_iload_n 157 X.1 1 dL_areRead_157 rfl ?_
              refine ll_callDi 158 X hml hAp (As := [.int (nI s9)]) (kt_X6_count_ok l D C K hAp.1 F hs G T s9 (by first | rfl | assumption | omega)) gL_areRead_X6_count rfl ⟨rfl, rfl⟩ yd_X6_count ⟨Nat.le_of_ble_eq_true rfl, Nat.le_of_ble_eq_true rfl⟩ rfl rfl (Nat.le_of_ble_eq_true rfl) ⟨Nat.le_of_ble_eq_true rfl, Nat.le_of_ble_eq_true rfl⟩ dL_areRead_158 ?_
              rintro r1 ⟨F1, hs1, G1, T1⟩ hu1
              obtain ⟨rfl, hv1⟩ := hu1
              cases hv1
              refine zz_world (P' := (LPo D C K kL kH (x, (F, hs, G, T), b8))) (fun _ h => h) ?_
              refine zz_iload_n 161 X.1 2 dL_areRead_161 rfl ?_
              refine zz_icmp_ne 162 236 X.1 (nI_toInt (by omega)) (nI_toInt (by omega)) dL_areRead_162 (by decide) (fun h162 => ?_) (fun h162 => ?_)
              · exfalso; obtain rfl : i = 1024 := (by omega); omega
              · skip
                refine zz_aload_n 165 X.1 0 dL_areRead_165 rfl ?_
                refine ll_get 166 X (by decide +kernel) 1 (by decide) (v := .ref (K 0)) rfl (by decide +kernel) rfl dL_areRead_166 ?_
                refine zz_iload_n 169 X.1 1 dL_areRead_169 rfl ?_
                refine ll_callDl 170 X hml hAp (As := [.int (nI s9)]) (kt_X6_sum_ok l D C K hAp.1 F hs G T s9 (by first | rfl | assumption | omega)) gL_areRead_X6_sum rfl ⟨rfl, rfl⟩ yd_X6_sum ⟨Nat.le_of_ble_eq_true rfl, Nat.le_of_ble_eq_true rfl⟩ rfl rfl (Nat.le_of_ble_eq_true rfl) ⟨Nat.le_of_ble_eq_true rfl, Nat.le_of_ble_eq_true rfl⟩ dL_areRead_170 ?_
                rintro r2 ⟨F2, hs2, G2, T2⟩ hu2
                obtain ⟨rfl, hv2⟩ := hu2
                cases hv2
                refine zz_world (P' := (LPo D C K kL kH (x, (F, hs, G, T), b8))) (fun _ h => h) ?_
                refine zz_lload 173 X.1 4 dL_areRead_173 rfl ?_
                refine zz_lcmp 175 X.1 dL_areRead_175 ?_
                refine zz_ifL_ne 176 236 X.1 dL_areRead_176 (by decide) (fun h176 => ?_) (fun h176 => ?_)
                · exfalso; obtain rfl : i = 1024 := (by omega); exact h176 rfl
                · skip
                  refine zz_aload_n 179 X.1 0 dL_areRead_179 rfl ?_
                  refine ll_get 180 X (by decide +kernel) 1 (by decide) (v := .ref (K 0)) rfl (by decide +kernel) rfl dL_areRead_180 ?_
                  refine zz_iload_n 183 X.1 1 dL_areRead_183 rfl ?_
                  refine ll_callDi 184 X hml hAp (As := [.int (nI s9)]) (kt_X6_runs_ok l D C K hAp.1 F hs G T s9 (by first | rfl | assumption | omega)) gL_areRead_X6_runs rfl ⟨rfl, rfl⟩ yd_X6_runs ⟨Nat.le_of_ble_eq_true rfl, Nat.le_of_ble_eq_true rfl⟩ rfl rfl (Nat.le_of_ble_eq_true rfl) ⟨Nat.le_of_ble_eq_true rfl, Nat.le_of_ble_eq_true rfl⟩ dL_areRead_184 ?_
                  rintro r3 ⟨F3, hs3, G3, T3⟩ hu3
                  obtain ⟨rfl, hv3⟩ := hu3
                  cases hv3
                  refine zz_world (P' := (LPo D C K kL kH (x, (F, hs, G, T), b8))) (fun _ h => h) ?_
                  refine zz_iload_n 187 X.1 3 dL_areRead_187 rfl ?_
                  refine zz_icmp_ne 188 236 X.1 (nI_toInt (by omega)) (nI_toInt (by omega)) dL_areRead_188 (by decide) (fun h188 => ?_) (fun h188 => ?_)
                  · exfalso; obtain rfl : i = 1024 := (by omega); omega
                  · skip
                    refine zz_aload_n 191 X.1 0 dL_areRead_191 rfl ?_
                    refine ll_get 192 X (by decide +kernel) 1 (by decide) (v := .ref (K 0)) rfl (by decide +kernel) rfl dL_areRead_192 ?_
                    refine zz_iload_n 195 X.1 1 dL_areRead_195 rfl ?_
                    refine ll_callDi 196 X hml hAp (As := [.int (nI s9)]) (kt_X6_isEmpty_ok l D C K hAp.1 F hs G T s9 (by first | rfl | assumption | omega)) gL_areRead_X6_isEmpty rfl ⟨rfl, rfl⟩ yd_X6_isEmpty ⟨Nat.le_of_ble_eq_true rfl, Nat.le_of_ble_eq_true rfl⟩ rfl rfl (Nat.le_of_ble_eq_true rfl) ⟨Nat.le_of_ble_eq_true rfl, Nat.le_of_ble_eq_true rfl⟩ dL_areRead_196 ?_
                    rintro r4 ⟨F4, hs4, G4, T4⟩ hu4
                    obtain ⟨rfl, hv4⟩ := hu4
                    cases hv4
                    refine zz_world (P' := (LPo D C K kL kH (x, (F, hs, G, T), b8))) (fun _ h => h) ?_
                    refine zz_iload_n 199 X.1 2 dL_areRead_199 rfl ?_
                    refine zz_if_ne 200 207 X.1 (nI_toInt (by omega)) dL_areRead_200 (by decide) (fun h200 => ?_) (fun h200 => ?_)
                    · skip
                      refine zz_iconst 207 X.1 (v := nI 0) dL_areRead_207 rfl ?_
                      refine zz_topi (bI false) rfl ?_
                      refine zz_icmpB_ne 208 236 X.1 dL_areRead_208 (by decide) (fun h208 => ?_) (fun h208 => ?_)
                      · exfalso; have e9 := ct_ln0 (q := (hM hs s9)) 1024; obtain rfl : i = 1024 := (by omega); first | exact h208 (decide_eq_true (by omega)) | exact h208 (decide_eq_false (by omega))
                      · skip
                        refine zz_aload_n 211 X.1 0 dL_areRead_211 rfl ?_
                        refine ll_get 212 X (by decide +kernel) 1 (by decide) (v := .ref (K 0)) rfl (by decide +kernel) rfl dL_areRead_212 ?_
                        refine zz_iload_n 215 X.1 1 dL_areRead_215 rfl ?_
                        refine zz_sipush 216 X.1 (v := nI 1024) dL_areRead_216 rfl ?_
                        refine ll_callDi 219 X hml hAp (As := [.int (nI s9), .int (nI 1024)]) (kt_X6_has_ok l D C K hAp.1 F hs G T s9 1024 (by first | rfl | assumption | omega) (by first | rfl | assumption | omega)) gL_areRead_X6_has rfl ⟨rfl, rfl⟩ yd_X6_has ⟨Nat.le_of_ble_eq_true rfl, Nat.le_of_ble_eq_true rfl⟩ rfl rfl (Nat.le_of_ble_eq_true rfl) ⟨Nat.le_of_ble_eq_true rfl, Nat.le_of_ble_eq_true rfl⟩ dL_areRead_219 ?_
                        rintro r5 ⟨F5, hs5, G5, T5⟩ hu5
                        obtain ⟨rfl, hv5⟩ := hu5
                        cases hv5
                        refine zz_world (P' := (LPo D C K kL kH (x, (F, hs, G, T), b8))) (fun _ h => h) ?_
                        refine zz_ifB_ne 222 236 X.1 dL_areRead_222 (by decide) (fun h222 => ?_) (fun h222 => ?_)
                        · exfalso; simp at h222
                        · skip
                          refine zz_aload_n 225 X.1 0 dL_areRead_225 rfl ?_
                          refine ll_get 226 X (by decide +kernel) 1 (by decide) (v := .ref (K 0)) rfl (by decide +kernel) rfl dL_areRead_226 ?_
                          refine zz_iload_n 229 X.1 1 dL_areRead_229 rfl ?_
                          refine ll_callDi 230 X hml hAp (As := [.int (nI s9)]) (kt_X6_isRoomy_ok l D C K hAp.1 F hs G T s9 (by first | rfl | assumption | omega)) gL_areRead_X6_isRoomy rfl ⟨rfl, rfl⟩ yd_X6_isRoomy ⟨Nat.le_of_ble_eq_true rfl, Nat.le_of_ble_eq_true rfl⟩ rfl rfl (Nat.le_of_ble_eq_true rfl) ⟨Nat.le_of_ble_eq_true rfl, Nat.le_of_ble_eq_true rfl⟩ dL_areRead_230 ?_
                          rintro r6 ⟨F6, hs6, G6, T6⟩ hu6
                          obtain ⟨rfl, hv6⟩ := hu6
                          cases hv6
                          refine zz_world (P' := (LPo D C K kL kH (x, (F, hs, G, T), b8))) (fun _ h => h) ?_
                          refine zz_ifB_ne 233 238 X.1 dL_areRead_233 (by decide) (fun h233 => ?_) (fun h233 => ?_)
                          · skip
                            refine zz_iinc 238 X.1 1 (v := (nI (s9 + 1))) (lv' := [(1, .int (nI (s9 + 1))), (0, .ref kL), (2, .int (nI (ct (hM hs s9) i))), (3, .int (nI (ct (bg (hM hs s9)) i))), (4, .long (lN (su (hM hs s9) i))), (6, .int (nI i))]) dL_areRead_238 rfl (nI_add s9 1) (by decide) rfl ?_
                            refine zz_goto 241 2 X.1 dL_areRead_241 (by decide) ?_
                            refine zz_lvs [1, 0] rfl ?_
                            exact ih2 (s9 + 1) b8 (by omega) (by rw [hb8, show 1024 * s9 + i = 1024 * (s9 + 1) by omega]) (by omega)
                          · exact absurd h233 (by decide)
                    · skip
                      refine zz_iconst 203 X.1 (v := nI 1) dL_areRead_203 rfl ?_
                      refine zz_goto 204 208 X.1 dL_areRead_204 (by decide) ?_
                      refine zz_topi (bI true) rfl ?_
                      refine zz_icmpB_ne 208 236 X.1 dL_areRead_208 (by decide) (fun h208 => ?_) (fun h208 => ?_)
                      · exfalso; have e9 := ct_ln0 (q := (hM hs s9)) 1024; obtain rfl : i = 1024 := (by omega); first | exact h208 (decide_eq_true (by omega)) | exact h208 (decide_eq_false (by omega))
                      · skip
                        refine zz_aload_n 211 X.1 0 dL_areRead_211 rfl ?_
                        refine ll_get 212 X (by decide +kernel) 1 (by decide) (v := .ref (K 0)) rfl (by decide +kernel) rfl dL_areRead_212 ?_
                        refine zz_iload_n 215 X.1 1 dL_areRead_215 rfl ?_
                        refine zz_sipush 216 X.1 (v := nI 1024) dL_areRead_216 rfl ?_
                        refine ll_callDi 219 X hml hAp (As := [.int (nI s9), .int (nI 1024)]) (kt_X6_has_ok l D C K hAp.1 F hs G T s9 1024 (by first | rfl | assumption | omega) (by first | rfl | assumption | omega)) gL_areRead_X6_has rfl ⟨rfl, rfl⟩ yd_X6_has ⟨Nat.le_of_ble_eq_true rfl, Nat.le_of_ble_eq_true rfl⟩ rfl rfl (Nat.le_of_ble_eq_true rfl) ⟨Nat.le_of_ble_eq_true rfl, Nat.le_of_ble_eq_true rfl⟩ dL_areRead_219 ?_
                        rintro r7 ⟨F7, hs7, G7, T7⟩ hu7
                        obtain ⟨rfl, hv7⟩ := hu7
                        cases hv7
                        refine zz_world (P' := (LPo D C K kL kH (x, (F, hs, G, T), b8))) (fun _ h => h) ?_
                        refine zz_ifB_ne 222 236 X.1 dL_areRead_222 (by decide) (fun h222 => ?_) (fun h222 => ?_)
                        · exfalso; simp at h222
                        · skip
                          refine zz_aload_n 225 X.1 0 dL_areRead_225 rfl ?_
                          refine ll_get 226 X (by decide +kernel) 1 (by decide) (v := .ref (K 0)) rfl (by decide +kernel) rfl dL_areRead_226 ?_
                          refine zz_iload_n 229 X.1 1 dL_areRead_229 rfl ?_
                          refine ll_callDi 230 X hml hAp (As := [.int (nI s9)]) (kt_X6_isRoomy_ok l D C K hAp.1 F hs G T s9 (by first | rfl | assumption | omega)) gL_areRead_X6_isRoomy rfl ⟨rfl, rfl⟩ yd_X6_isRoomy ⟨Nat.le_of_ble_eq_true rfl, Nat.le_of_ble_eq_true rfl⟩ rfl rfl (Nat.le_of_ble_eq_true rfl) ⟨Nat.le_of_ble_eq_true rfl, Nat.le_of_ble_eq_true rfl⟩ dL_areRead_230 ?_
                          rintro r8 ⟨F8, hs8, G8, T8⟩ hu8
                          obtain ⟨rfl, hv8⟩ := hu8
                          cases hv8
                          refine zz_world (P' := (LPo D C K kL kH (x, (F, hs, G, T), b8))) (fun _ h => h) ?_
                          refine zz_ifB_ne 233 238 X.1 dL_areRead_233 (by decide) (fun h233 => ?_) (fun h233 => ?_)
                          · skip
                            refine zz_iinc 238 X.1 1 (v := (nI (s9 + 1))) (lv' := [(1, .int (nI (s9 + 1))), (0, .ref kL), (2, .int (nI (ct (hM hs s9) i))), (3, .int (nI (ct (bg (hM hs s9)) i))), (4, .long (lN (su (hM hs s9) i))), (6, .int (nI i))]) dL_areRead_238 rfl (nI_add s9 1) (by decide) rfl ?_
                            refine zz_goto 241 2 X.1 dL_areRead_241 (by decide) ?_
                            refine zz_lvs [1, 0] rfl ?_
                            exact ih2 (s9 + 1) b8 (by omega) (by rw [hb8, show 1024 * s9 + i = 1024 * (s9 + 1) by omega]) (by omega)
                          · exact absurd h233 (by decide)
            · skip
              refine zz_aload_n 25 X.1 0 dL_areRead_25 rfl ?_
              refine ll_get 26 X (by decide +kernel) 2 (by decide) (v := .ref kH) rfl (by decide +kernel) rfl dL_areRead_26 ?_
              refine zz_sipush 29 X.1 (v := nI 1024) dL_areRead_29 rfl ?_
              refine zz_iload_n 32 X.1 1 dL_areRead_32 rfl ?_
              refine zz_imul 33 X.1 (v := (nI (1024 * s9))) dL_areRead_33 (pk_mul _ _) ?_
              refine zz_iload 34 X.1 5 dL_areRead_34 rfl ?_
              refine zz_iadd 36 X.1 (v := (nI ((1024 * s9) + i))) dL_areRead_36 (nI_add _ _) ?_
              refine zz_aload_n 37 X.1 0 dL_areRead_37 rfl ?_
              refine ll_get 38 X (by decide +kernel) 1 (by decide) (v := .ref (K 0)) rfl (by decide +kernel) rfl dL_areRead_38 ?_
              refine zz_iload_n 41 X.1 1 dL_areRead_41 rfl ?_
              refine zz_iload 42 X.1 5 dL_areRead_42 rfl ?_
              refine ll_callDi 44 X hml hAp (As := [.int (nI s9), .int (nI i)]) (kt_X6_has_ok l D C K hAp.1 F hs G T s9 i (by first | rfl | assumption | omega) (by first | rfl | assumption | omega)) gL_areRead_X6_has rfl ⟨rfl, rfl⟩ yd_X6_has ⟨Nat.le_of_ble_eq_true rfl, Nat.le_of_ble_eq_true rfl⟩ rfl rfl (Nat.le_of_ble_eq_true rfl) ⟨Nat.le_of_ble_eq_true rfl, Nat.le_of_ble_eq_true rfl⟩ dL_areRead_44 ?_
              rintro r9 ⟨F9, hs9, G9, T9⟩ hu9
              obtain ⟨rfl, hv9⟩ := hu9
              cases hv9
              refine zz_world (P' := (LPo D C K kL kH (x, (F, hs, G, T), b8))) (fun _ h => h) ?_
              refine zz_topi (bI (hs (1024 * s9 + i))) (congrArg bI (by simp [show i < 1024 by omega, hM])) ?_
              refine ll_bast 47 hAp X (i := (1024 * s9) + i) (y := hs (1024 * s9 + i)) (by omega) dL_areRead_47 ?_
              refine zz_world (P' := (LPo D C K kL kH (x, (F, hs, G, T), (bU hs b (1024 * s9 + i + 1))))) (lp_b (bU_up hb8 rfl)) ?_
              have C100 : ZZ p l e rm_L_areRead s m args below meth c 0 0 Q (zz_A (LZ K kL kH) s.heap.size) (LPo D C K kL kH (x, (F, hs, G, T), (bU hs b (1024 * s9 + i + 1)))) 7 [(0, .ref kL), (1, .int (nI s9)), (2, .int (nI (ct (hM hs s9) (i + 1)))), (3, .int (nI (ct (bg (hM hs s9)) i))), (4, .long (lN (su (hM hs s9) (i + 1)))), (6, .int (nI i))] [] 100 := by
                refine zz_iload_n 100 X.1 3 dL_areRead_100 rfl ?_
                refine zz_aload_n 101 X.1 0 dL_areRead_101 rfl ?_
                refine ll_get 102 X (by decide +kernel) 2 (by decide) (v := .ref kH) rfl (by decide +kernel) rfl dL_areRead_102 ?_
                refine zz_sipush 105 X.1 (v := nI 1024) dL_areRead_105 rfl ?_
                refine zz_iload_n 108 X.1 1 dL_areRead_108 rfl ?_
                refine zz_imul 109 X.1 (v := (nI (1024 * s9))) dL_areRead_109 (pk_mul _ _) ?_
                refine zz_iload 110 X.1 5 dL_areRead_110 rfl ?_
                refine zz_iadd 112 X.1 (v := (nI ((1024 * s9) + i))) dL_areRead_112 (nI_add _ _) ?_
                refine ll_bald 113 X (i := (1024 * s9) + i) (by omega) dL_areRead_113 ?_
                refine zz_topi (bI (hM hs s9 i)) (congrArg bI (bU_at (by omega))) ?_
                refine zz_ifB_eq 114 144 X.1 dL_areRead_114 (by decide) (fun h114 => ?_) (fun h114 => ?_)
                · skip
                  refine zz_iconst 144 X.1 (v := nI 0) dL_areRead_144 rfl ?_
                  refine zz_iadd 145 X.1 (v := (nI ((ct (bg (hM hs s9)) i) + 0))) dL_areRead_145 (nI_add _ _) ?_
                  refine zz_topi (nI (ct (bg (hM hs s9)) (i + 1))) (congrArg nI (ct_f (bg_n h114))) ?_
                  refine zz_istore_n 146 X.1 (lv' := [(3, .int (nI (ct (bg (hM hs s9)) (i + 1)))), (0, .ref kL), (1, .int (nI s9)), (2, .int (nI (ct (hM hs s9) (i + 1)))), (4, .long (lN (su (hM hs s9) (i + 1)))), (6, .int (nI i))]) dL_areRead_146 (by decide) rfl ?_
                  refine zz_iinc 147 X.1 5 (v := (nI (i + 1))) (lv' := [(6, .int (nI (i + 1))), (3, .int (nI (ct (bg (hM hs s9)) (i + 1)))), (0, .ref kL), (1, .int (nI s9)), (2, .int (nI (ct (hM hs s9) (i + 1)))), (4, .long (lN (su (hM hs s9) (i + 1))))]) dL_areRead_147 rfl (nI_add i 1) (by decide) rfl ?_
                  refine zz_goto 150 17 X.1 dL_areRead_150 (by decide) ?_
                  refine zz_lvs [2, 3, 4, 1, 5, 0] rfl ?_
                  exact ih17 (i + 1) (bU hs b (1024 * s9 + i + 1)) (by omega) (rfl) (by omega)
                · skip
                  refine zz_iload 117 X.1 5 dL_areRead_117 rfl ?_
                  refine zz_if_eq 119 140 X.1 (nI_toInt (by omega)) dL_areRead_119 (by decide) (fun h119 => ?_) (fun h119 => ?_)
                  · skip
                    refine zz_iconst 140 X.1 (v := nI 1) dL_areRead_140 rfl ?_
                    refine zz_goto 141 145 X.1 dL_areRead_141 (by decide) ?_
                    refine zz_iadd 145 X.1 (v := (nI ((ct (bg (hM hs s9)) i) + 1))) dL_areRead_145 (nI_add _ _) ?_
                    refine zz_topi (nI (ct (bg (hM hs s9)) (i + 1))) (congrArg nI (ct_t (bg_0 h114 (by omega)))) ?_
                    refine zz_istore_n 146 X.1 (lv' := [(3, .int (nI (ct (bg (hM hs s9)) (i + 1)))), (0, .ref kL), (1, .int (nI s9)), (2, .int (nI (ct (hM hs s9) (i + 1)))), (4, .long (lN (su (hM hs s9) (i + 1)))), (6, .int (nI i))]) dL_areRead_146 (by decide) rfl ?_
                    refine zz_iinc 147 X.1 5 (v := (nI (i + 1))) (lv' := [(6, .int (nI (i + 1))), (3, .int (nI (ct (bg (hM hs s9)) (i + 1)))), (0, .ref kL), (1, .int (nI s9)), (2, .int (nI (ct (hM hs s9) (i + 1)))), (4, .long (lN (su (hM hs s9) (i + 1))))]) dL_areRead_147 rfl (nI_add i 1) (by decide) rfl ?_
                    refine zz_goto 150 17 X.1 dL_areRead_150 (by decide) ?_
                    refine zz_lvs [2, 3, 4, 1, 5, 0] rfl ?_
                    exact ih17 (i + 1) (bU hs b (1024 * s9 + i + 1)) (by omega) (rfl) (by omega)
                  · skip
                    refine zz_aload_n 122 X.1 0 dL_areRead_122 rfl ?_
                    refine ll_get 123 X (by decide +kernel) 2 (by decide) (v := .ref kH) rfl (by decide +kernel) rfl dL_areRead_123 ?_
                    refine zz_sipush 126 X.1 (v := nI 1024) dL_areRead_126 rfl ?_
                    refine zz_iload_n 129 X.1 1 dL_areRead_129 rfl ?_
                    refine zz_imul 130 X.1 (v := (nI (1024 * s9))) dL_areRead_130 (pk_mul _ _) ?_
                    refine zz_iload 131 X.1 5 dL_areRead_131 rfl ?_
                    refine zz_iadd 133 X.1 (v := (nI ((1024 * s9) + i))) dL_areRead_133 (nI_add _ _) ?_
                    refine zz_iconst 134 X.1 (v := nI 1) dL_areRead_134 rfl ?_
                    refine zz_isub 135 X.1 (v := (nI (((1024 * s9) + i) - 1))) dL_areRead_135 (pk_sub (by omega)) ?_
                    refine ll_bald 136 X (i := ((1024 * s9) + i) - 1) (by omega) dL_areRead_136 ?_
                    refine zz_topi (bI (hM hs s9 (i - 1))) (congrArg bI ((bU_at (by omega)).trans (congrArg hs (by omega)))) ?_
                    refine zz_ifB_ne 137 144 X.1 dL_areRead_137 (by decide) (fun h137 => ?_) (fun h137 => ?_)
                    · skip
                      refine zz_iconst 144 X.1 (v := nI 0) dL_areRead_144 rfl ?_
                      refine zz_iadd 145 X.1 (v := (nI ((ct (bg (hM hs s9)) i) + 0))) dL_areRead_145 (nI_add _ _) ?_
                      refine zz_topi (nI (ct (bg (hM hs s9)) (i + 1))) (congrArg nI (ct_f (bg_p h137 (by omega)))) ?_
                      refine zz_istore_n 146 X.1 (lv' := [(3, .int (nI (ct (bg (hM hs s9)) (i + 1)))), (0, .ref kL), (1, .int (nI s9)), (2, .int (nI (ct (hM hs s9) (i + 1)))), (4, .long (lN (su (hM hs s9) (i + 1)))), (6, .int (nI i))]) dL_areRead_146 (by decide) rfl ?_
                      refine zz_iinc 147 X.1 5 (v := (nI (i + 1))) (lv' := [(6, .int (nI (i + 1))), (3, .int (nI (ct (bg (hM hs s9)) (i + 1)))), (0, .ref kL), (1, .int (nI s9)), (2, .int (nI (ct (hM hs s9) (i + 1)))), (4, .long (lN (su (hM hs s9) (i + 1))))]) dL_areRead_147 rfl (nI_add i 1) (by decide) rfl ?_
                      refine zz_goto 150 17 X.1 dL_areRead_150 (by decide) ?_
                      refine zz_lvs [2, 3, 4, 1, 5, 0] rfl ?_
                      exact ih17 (i + 1) (bU hs b (1024 * s9 + i + 1)) (by omega) (rfl) (by omega)
                    · skip
                      refine zz_iconst 140 X.1 (v := nI 1) dL_areRead_140 rfl ?_
                      refine zz_goto 141 145 X.1 dL_areRead_141 (by decide) ?_
                      refine zz_iadd 145 X.1 (v := (nI ((ct (bg (hM hs s9)) i) + 1))) dL_areRead_145 (nI_add _ _) ?_
                      refine zz_topi (nI (ct (bg (hM hs s9)) (i + 1))) (congrArg nI (ct_t (bg_q h114 h137))) ?_
                      refine zz_istore_n 146 X.1 (lv' := [(3, .int (nI (ct (bg (hM hs s9)) (i + 1)))), (0, .ref kL), (1, .int (nI s9)), (2, .int (nI (ct (hM hs s9) (i + 1)))), (4, .long (lN (su (hM hs s9) (i + 1)))), (6, .int (nI i))]) dL_areRead_146 (by decide) rfl ?_
                      refine zz_iinc 147 X.1 5 (v := (nI (i + 1))) (lv' := [(6, .int (nI (i + 1))), (3, .int (nI (ct (bg (hM hs s9)) (i + 1)))), (0, .ref kL), (1, .int (nI s9)), (2, .int (nI (ct (hM hs s9) (i + 1)))), (4, .long (lN (su (hM hs s9) (i + 1))))]) dL_areRead_147 rfl (nI_add i 1) (by decide) rfl ?_
                      refine zz_goto 150 17 X.1 dL_areRead_150 (by decide) ?_
                      refine zz_lvs [2, 3, 4, 1, 5, 0] rfl ?_
                      exact ih17 (i + 1) (bU hs b (1024 * s9 + i + 1)) (by omega) (rfl) (by omega)
              have C72 : ZZ p l e rm_L_areRead s m args below meth c 0 0 Q (zz_A (LZ K kL kH) s.heap.size) (LPo D C K kL kH (x, (F, hs, G, T), (bU hs b (1024 * s9 + i + 1)))) 7 [(0, .ref kL), (1, .int (nI s9)), (2, .int (nI (ct (hM hs s9) (i + 1)))), (3, .int (nI (ct (bg (hM hs s9)) i))), (4, .long (lN (su (hM hs s9) i))), (6, .int (nI i))] [] 72 := by
                refine zz_lload 72 X.1 4 dL_areRead_72 rfl ?_
                refine zz_aload_n 74 X.1 0 dL_areRead_74 rfl ?_
                refine ll_get 75 X (by decide +kernel) 2 (by decide) (v := .ref kH) rfl (by decide +kernel) rfl dL_areRead_75 ?_
                refine zz_sipush 78 X.1 (v := nI 1024) dL_areRead_78 rfl ?_
                refine zz_iload_n 81 X.1 1 dL_areRead_81 rfl ?_
                refine zz_imul 82 X.1 (v := (nI (1024 * s9))) dL_areRead_82 (pk_mul _ _) ?_
                refine zz_iload 83 X.1 5 dL_areRead_83 rfl ?_
                refine zz_iadd 85 X.1 (v := (nI ((1024 * s9) + i))) dL_areRead_85 (nI_add _ _) ?_
                refine ll_bald 86 X (i := (1024 * s9) + i) (by omega) dL_areRead_86 ?_
                refine zz_topi (bI (hM hs s9 i)) (congrArg bI (bU_at (by omega))) ?_
                refine zz_ifB_eq 87 96 X.1 dL_areRead_87 (by decide) (fun h87 => ?_) (fun h87 => ?_)
                · skip
                  refine zz_lconst 96 X.1 (v := 0) dL_areRead_96 (by decide) ?_
                  refine zz_ladd 97 X.1 (v := (lN (su (hM hs s9) i)) + 0) dL_areRead_97 rfl ?_
                  refine zz_topl (lN (su (hM hs s9) (i + 1))) (su_f h87) ?_
                  refine zz_lstore 98 X.1 (lv' := [(4, .long (lN (su (hM hs s9) (i + 1)))), (0, .ref kL), (1, .int (nI s9)), (2, .int (nI (ct (hM hs s9) (i + 1)))), (3, .int (nI (ct (bg (hM hs s9)) i))), (6, .int (nI i))]) dL_areRead_98 (by decide) rfl ?_
                  refine zz_lvs [1, 2, 3, 4, 0, 5] rfl ?_
                  exact C100  
                · skip
                  refine zz_iload 90 X.1 5 dL_areRead_90 rfl ?_
                  refine zz_i2l 92 X.1 (v := (nI i).toInt64) dL_areRead_92 rfl ?_
                  refine zz_goto 93 97 X.1 dL_areRead_93 (by decide) ?_
                  refine zz_ladd 97 X.1 (v := (lN (su (hM hs s9) i)) + ((nI i).toInt64)) dL_areRead_97 rfl ?_
                  refine zz_topl (lN (su (hM hs s9) (i + 1))) (su_t h87 (by omega)) ?_
                  refine zz_lstore 98 X.1 (lv' := [(4, .long (lN (su (hM hs s9) (i + 1)))), (0, .ref kL), (1, .int (nI s9)), (2, .int (nI (ct (hM hs s9) (i + 1)))), (3, .int (nI (ct (bg (hM hs s9)) i))), (6, .int (nI i))]) dL_areRead_98 (by decide) rfl ?_
                  refine zz_lvs [1, 2, 3, 4, 0, 5] rfl ?_
                  exact C100  
              refine zz_iload_n 48 X.1 2 dL_areRead_48 rfl ?_
              refine zz_aload_n 49 X.1 0 dL_areRead_49 rfl ?_
              refine ll_get 50 X (by decide +kernel) 2 (by decide) (v := .ref kH) rfl (by decide +kernel) rfl dL_areRead_50 ?_
              refine zz_sipush 53 X.1 (v := nI 1024) dL_areRead_53 rfl ?_
              refine zz_iload_n 56 X.1 1 dL_areRead_56 rfl ?_
              refine zz_imul 57 X.1 (v := (nI (1024 * s9))) dL_areRead_57 (pk_mul _ _) ?_
              refine zz_iload 58 X.1 5 dL_areRead_58 rfl ?_
              refine zz_iadd 60 X.1 (v := (nI ((1024 * s9) + i))) dL_areRead_60 (nI_add _ _) ?_
              refine ll_bald 61 X (i := (1024 * s9) + i) (by omega) dL_areRead_61 ?_
              refine zz_topi (bI (hM hs s9 i)) (congrArg bI (bU_at (by omega))) ?_
              refine zz_ifB_eq 62 69 X.1 dL_areRead_62 (by decide) (fun h62 => ?_) (fun h62 => ?_)
              · skip
                refine zz_iconst 69 X.1 (v := nI 0) dL_areRead_69 rfl ?_
                refine zz_iadd 70 X.1 (v := (nI ((ct (hM hs s9) i) + 0))) dL_areRead_70 (nI_add _ _) ?_
                refine zz_topi (nI (ct (hM hs s9) (i + 1))) (congrArg nI (ct_f h62)) ?_
                refine zz_istore_n 71 X.1 (lv' := [(2, .int (nI (ct (hM hs s9) (i + 1)))), (0, .ref kL), (1, .int (nI s9)), (3, .int (nI (ct (bg (hM hs s9)) i))), (4, .long (lN (su (hM hs s9) i))), (6, .int (nI i))]) dL_areRead_71 (by decide) rfl ?_
                refine zz_lvs [1, 2, 0, 3, 4, 5] rfl ?_
                exact C72  
              · skip
                refine zz_iconst 65 X.1 (v := nI 1) dL_areRead_65 rfl ?_
                refine zz_goto 66 70 X.1 dL_areRead_66 (by decide) ?_
                refine zz_iadd 70 X.1 (v := (nI ((ct (hM hs s9) i) + 1))) dL_areRead_70 (nI_add _ _) ?_
                refine zz_topi (nI (ct (hM hs s9) (i + 1))) (congrArg nI (ct_t h62)) ?_
                refine zz_istore_n 71 X.1 (lv' := [(2, .int (nI (ct (hM hs s9) (i + 1)))), (0, .ref kL), (1, .int (nI s9)), (3, .int (nI (ct (bg (hM hs s9)) i))), (4, .long (lN (su (hM hs s9) i))), (6, .int (nI i))]) dL_areRead_71 (by decide) rfl ?_
                refine zz_lvs [1, 2, 0, 3, 4, 5] rfl ?_
                exact C72  
        refine zz_lvs [4, 5, 3, 2, 1, 0] rfl ?_
        exact C17 (1024 - 0 + 1) 0 b9 (by omega) (hb) (Nat.lt_succ_self _)
  refine zz_lvs [1, 0] rfl ?_
  exact C2 (3 - 0 + 1) 0 b (by omega) (bU_0) (Nat.lt_succ_self _)
