abbrev rm_X0_bitsIn : Room := { frames := 1, cells := 0, slots := 0, locals := 21 }
theorem yd_X0_bitsIn : yX0_bitsIn.cls = RX0 ∧ yX0_bitsIn.cls ≠ "java/lang/invoke/MethodHandle" ∧ yX0_bitsIn.cls ≠ "java/lang/invoke/VarHandle" ∧ (parseMethodDescriptor yX0_bitsIn.desc).map (fun d => d.parameters.length) = some 3 := by decide +kernel
set_option maxHeartbeats 4000000 in
set_option maxRecDepth 100000 in
theorem kt_X0_bitsIn (l : Launch) (k0 : Nat) (f : Nat) (t : Nat) (hk : k0 < 16) (hft : f < 2 ^ 31 ∧ t < 2 ^ 31) : SMl l yX0_bitsIn wsX0_bitsIn rm_X0_bitsIn [.int (nI k0), .int (nI f), .int (nI t)] (fun (r : Int64) => r = (wd (pI f t) k0)) := by
  refine SMl_of (lv := [(0, .int (nI k0)), (1, .int (nI f)), (2, .int (nI t))]) (cc := cX0_bitsIn) (maxL := 5) (ret := (some .long)) rfl (by decide +kernel) (Nat.le_of_ble_eq_true rfl) rfl ?_
  intro p e s m args below meth c hc hts hown hml hr hlk
  have X : (p.tables.exec = Jvm.exec ∧ c.code = cX0_bitsIn) ∧ True := ⟨hc, trivial⟩
  generalize hQ : MQ below _ args s 0 0 _ = Q
  refine zz_iload_n 0 X.1 1 dX0_bitsIn_0 rfl ?_
  refine zz_bipush 1 X.1 (v := nI 64) dX0_bitsIn_1 rfl ?_
  refine zz_iload_n 3 X.1 0 dX0_bitsIn_3 rfl ?_
  refine zz_imul 4 X.1 (v := (nI (64 * k0))) dX0_bitsIn_4 (pk_mul _ _) ?_
  refine zz_isub 5 X.1 (v := (nI f - nI (64 * k0))) dX0_bitsIn_5 rfl ?_
  refine zz_iconst 6 X.1 (v := nI 0) dX0_bitsIn_6 rfl ?_
  refine zz_mmax 7 X.1 hml hown (hts _ (by decide +kernel)) (hts _ (by decide +kernel)) (hts _ (by decide +kernel)) (hts _ (by decide +kernel)) (Nat.le_of_ble_eq_true rfl) (Nat.le_of_ble_eq_true rfl) (Nat.zero_le _) (Nat.zero_le _) (v := (nI (f - 64 * k0))) dX0_bitsIn_7 (zi_of ((zi_max (zi_subN (by omega) (by omega)) (nI_toInt (by omega))).trans (by omega))) ?_
  refine zz_istore_n 10 X.1 (lv' := [(3, .int (nI (f - 64 * k0))), (0, .int (nI k0)), (1, .int (nI f)), (2, .int (nI t))]) dX0_bitsIn_10 (by decide) rfl ?_
  refine zz_iload_n 11 X.1 3 dX0_bitsIn_11 rfl ?_
  refine zz_bipush 12 X.1 (v := nI 64) dX0_bitsIn_12 rfl ?_
  refine zz_iload_n 14 X.1 1 dX0_bitsIn_14 rfl ?_
  refine zz_imul 15 X.1 (v := (nI (64 * k0))) dX0_bitsIn_15 (pk_mul _ _) ?_
  refine zz_isub 16 X.1 (v := (nI t - nI (64 * k0))) dX0_bitsIn_16 rfl ?_
  refine zz_bipush 17 X.1 (v := nI 64) dX0_bitsIn_17 rfl ?_
  refine zz_mmin 19 X.1 hml hown (hts _ (by decide +kernel)) (hts _ (by decide +kernel)) (hts _ (by decide +kernel)) (hts _ (by decide +kernel)) (Nat.le_of_ble_eq_true rfl) (Nat.le_of_ble_eq_true rfl) (Nat.zero_le _) (Nat.zero_le _) (v := (if nI 64 < nI t - nI (64 * k0) then nI 64 else nI t - nI (64 * k0))) dX0_bitsIn_19 rfl ?_
  refine zz_istore 22 X.1 (lv' := [(4, .int (if nI 64 < nI t - nI (64 * k0) then nI 64 else nI t - nI (64 * k0))), (3, .int (nI (f - 64 * k0))), (0, .int (nI k0)), (1, .int (nI f)), (2, .int (nI t))]) dX0_bitsIn_22 (by decide) rfl ?_
  refine zz_iload_n 24 X.1 1 dX0_bitsIn_24 rfl ?_
  refine zz_iload 25 X.1 0 dX0_bitsIn_25 rfl ?_
  refine zz_icmp_ge 27 46 X.1 (nI_toInt (by omega)) (zi_min (zi_subN (by omega) (by omega)) (nI_toInt (by omega))) dX0_bitsIn_27 (by decide) (fun h27 => ?_) (fun h27 => ?_)
  · skip
    refine zz_lconst 46 X.1 (v := 0) dX0_bitsIn_46 (by decide) ?_
    rw [← hQ]
    refine zz_lret 47 X.1 hr hlk () ?_ (fun _ _ _ => trivial) dX0_bitsIn_47
    first | rfl | exact wd_0 (fun i hi => by unfold pI; exact decide_eq_false (by omega))
  · skip
    refine zz_ldc2 30 X.1 (v := -1) dX0_bitsIn_30 hown (by exact hts _ (by decide +kernel)) ?_
    refine zz_bipush 33 X.1 (v := nI 64) dX0_bitsIn_33 rfl ?_
    refine zz_iload 35 X.1 0 dX0_bitsIn_35 rfl ?_
    refine zz_topi (nI (min (t - 64 * k0) 64)) (zi_of ((zi_min (zi_subN (by omega) (by omega)) (nI_toInt (by omega))).trans (by omega))) ?_
    refine zz_iload_n 37 X.1 1 dX0_bitsIn_37 rfl ?_
    refine zz_isub 38 X.1 (v := (nI ((min (t - 64 * k0) 64) - (f - 64 * k0)))) dX0_bitsIn_38 (pk_sub (by omega)) ?_
    refine zz_isub 39 X.1 (v := (nI (64 - ((min (t - 64 * k0) 64) - (f - 64 * k0))))) dX0_bitsIn_39 (pk_sub (by omega)) ?_
    refine zz_lushr 40 X.1 (v := ((-1 : Int64).toUInt64 >>> ((nI (64 - ((min (t - 64 * k0) 64) - (f - 64 * k0)))).toInt64.toUInt64 &&& Int64.toUInt64 63)).toInt64) dX0_bitsIn_40 rfl ?_
    refine zz_iload_n 41 X.1 1 dX0_bitsIn_41 rfl ?_
    refine zz_lshl 42 X.1 (v := wd (pI f t) k0) dX0_bitsIn_42 (bi_mask (by omega) (by omega) (fun i hi => by unfold pI; exact decide_eq_decide.mpr (by omega))) ?_
    refine zz_goto 43 47 X.1 dX0_bitsIn_43 (by decide) ?_
    rw [← hQ]
    refine zz_lret 47 X.1 hr hlk () ?_ (fun _ _ _ => trivial) dX0_bitsIn_47
    first | rfl | exact wd_0 (fun i hi => by unfold pI; exact decide_eq_false (by omega))

abbrev rm_X0_word : Room := { frames := 0, cells := 0, slots := 0, locals := 0 }
theorem yd_X0_word : yX0_word.cls = RX0 ∧ yX0_word.cls ≠ "java/lang/invoke/MethodHandle" ∧ yX0_word.cls ≠ "java/lang/invoke/VarHandle" ∧ (parseMethodDescriptor yX0_word.desc).map (fun d => d.parameters.length) = some 1 := by decide +kernel
set_option maxHeartbeats 4000000 in
set_option maxRecDepth 100000 in
theorem kt_X0_word (l : Launch) (D : va_G) (C : Nat → ClassId) (K : Nat → Nat) (hAp : DAp K) (F : Nat → Int32) (hs : Nat → Bool) (G T : Nat → Nat → Int32) (s0 : Nat) (x1 : Int32) (a : Int) (h_a : x1.toInt = a) (hs0 : s0 < 8) : CMl l yX0_word wsX0_word rm_X0_word D C K (20 + s0) [.int x1] F hs G T (fun (r : Int64) (u : CSt) => r = (wd (qz (hM hs s0) (64 * a)) 0) ∧ u = (F, hs, G, T)) := by
  refine CMl_of (lv := [(0, .ref (K (20 + s0))), (1, .int x1)]) (cc := cX0_word) (maxL := 2) (ret := (some .long)) rfl (by decide +kernel) (Nat.le_of_ble_eq_true rfl) rfl ?_
  intro p e s m args below meth c X hml hr hlk
  generalize hQ : MQ below _ args s 0 0 _ = Q
  refine zz_iload_n 0 X.1 1 dX0_word_0 rfl ?_
  refine zz_if_lt 1 19 X.1 h_a dX0_word_1 (by decide) (fun h1 => ?_) (fun h1 => ?_)
  · skip
    refine zz_lconst 19 X.1 (v := 0) dX0_word_19 (by decide) ?_
    rw [← hQ]
    refine zz_lret 20 X.1 hr hlk (F, hs, G, T) ?_ (fun _ h _ => h) dX0_word_20
    refine ⟨?_, rfl⟩
    first | (rw [← hka]; exact wz_word (by omega)) | (exact wz_out (by omega))
  · skip
    refine zz_iload_n 4 X.1 1 dX0_word_4 rfl ?_
    refine zz_bipush 5 X.1 (v := nI 16) dX0_word_5 rfl ?_
    refine zz_icmp_ge 7 19 X.1 h_a (nI_toInt (by omega)) dX0_word_7 (by decide) (fun h7 => ?_) (fun h7 => ?_)
    · skip
      refine zz_lconst 19 X.1 (v := 0) dX0_word_19 (by decide) ?_
      rw [← hQ]
      refine zz_lret 20 X.1 hr hlk (F, hs, G, T) ?_ (fun _ h _ => h) dX0_word_20
      refine ⟨?_, rfl⟩
      first | (rw [← hka]; exact wz_word (by omega)) | (exact wz_out (by omega))
    · skip
      obtain ⟨kk, rfl, hka, hkb⟩ := zi_ofm h_a (by omega)
      refine zz_aload_n 10 X.1 0 dX0_word_10 rfl ?_
      refine dd_getM 11 X (by decide +kernel) (i := s0) (by omega) (by decide +kernel) dX0_word_11 ?_
      refine zz_iload_n 14 X.1 1 dX0_word_14 rfl ?_
      refine dd_lld 15 X (i := s0) (k := kk) (by omega) (by omega) dX0_word_15 ?_
      refine zz_goto 16 20 X.1 dX0_word_16 (by decide) ?_
      rw [← hQ]
      refine zz_lret 20 X.1 hr hlk (F, hs, G, T) ?_ (fun _ h _ => h) dX0_word_20
      refine ⟨?_, rfl⟩
      first | (rw [← hka]; exact wz_word (by omega)) | (exact wz_out (by omega))

abbrev rm_X0_wordFrom : Room := { frames := 1, cells := 0, slots := 0, locals := 21 }
theorem yd_X0_wordFrom : yX0_wordFrom.cls = RX0 ∧ yX0_wordFrom.cls ≠ "java/lang/invoke/MethodHandle" ∧ yX0_wordFrom.cls ≠ "java/lang/invoke/VarHandle" ∧ (parseMethodDescriptor yX0_wordFrom.desc).map (fun d => d.parameters.length) = some 1 := by decide +kernel
set_option maxHeartbeats 4000000 in
set_option maxRecDepth 100000 in
theorem kt_X0_wordFrom (l : Launch) (D : va_G) (C : Nat → ClassId) (K : Nat → Nat) (hAp : DAp K) (F : Nat → Int32) (hs : Nat → Bool) (G T : Nat → Nat → Int32) (s0 : Nat) (x1 : Int32) (b : Int) (h_b : x1.toInt = b) (hs0 : s0 < 8) : CMl l yX0_wordFrom wsX0_wordFrom rm_X0_wordFrom D C K (20 + s0) [.int x1] F hs G T (fun (r : Int64) (u : CSt) => r = (wd (qz (hM hs s0) b) 0) ∧ u = (F, hs, G, T)) := by
  refine CMl_of (lv := [(0, .ref (K (20 + s0))), (1, .int x1)]) (cc := cX0_wordFrom) (maxL := 4) (ret := (some .long)) rfl (by decide +kernel) (Nat.le_of_ble_eq_true rfl) rfl ?_
  intro p e s m args below meth c X hml hr hlk
  generalize hQ : MQ below _ args s 0 0 _ = Q
  have hlo := Int32.le_toInt x1
  have hhi := Int32.toInt_lt x1
  refine zz_iload_n 0 X.1 1 dX0_wordFrom_0 rfl ?_
  refine zz_bipush 1 X.1 (v := nI 6) dX0_wordFrom_1 rfl ?_
  refine zz_ishr 3 X.1 (v := (x1 >>> ((nI 6) &&& 31))) dX0_wordFrom_3 rfl ?_
  refine zz_istore_n 4 X.1 (lv' := [(2, .int (x1 >>> ((nI 6) &&& 31))), (0, .ref (K (20 + s0))), (1, .int x1)]) dX0_wordFrom_4 (by decide) rfl ?_
  refine zz_iload_n 5 X.1 2 dX0_wordFrom_5 rfl ?_
  refine zz_bipush 6 X.1 (v := nI 63) dX0_wordFrom_6 rfl ?_
  refine zz_iand 8 X.1 (v := (nI ((b % 64).toNat))) dX0_wordFrom_8 (zi_and63 h_b) ?_
  refine zz_istore_n 9 X.1 (lv' := [(3, .int (nI ((b % 64).toNat))), (2, .int (x1 >>> ((nI 6) &&& 31))), (0, .ref (K (20 + s0))), (1, .int x1)]) dX0_wordFrom_9 (by decide) rfl ?_
  refine zz_iload_n 10 X.1 0 dX0_wordFrom_10 rfl ?_
  refine zz_if_ne 11 20 X.1 (nI_toInt (by omega)) dX0_wordFrom_11 (by decide) (fun h11 => ?_) (fun h11 => ?_)
  · skip
    refine zz_aload_n 20 X.1 2 dX0_wordFrom_20 rfl ?_
    refine zz_iload_n 21 X.1 1 dX0_wordFrom_21 rfl ?_
    refine dd_callVl 22 X hml (th := 20 + s0) (As := [.int (x1 >>> ((nI 6) &&& 31))]) (kt_X0_word l D C K hAp F hs G T s0 (x1 >>> ((nI 6) &&& 31)) ((x1 >>> ((nI 6) &&& 31)).toInt) (rfl) (by first | rfl | assumption | omega)) gX0_wordFrom_X0_word rfl ⟨rfl, rfl⟩ (dr_M X (i := s0) (by omega)) yd_X0_word ⟨Nat.le_of_ble_eq_true rfl, Nat.le_of_ble_eq_true rfl⟩ rfl rfl (Nat.le_of_ble_eq_true rfl) ⟨Nat.zero_le _, Nat.zero_le _⟩ dX0_wordFrom_22 ?_
    rintro r1 ⟨F1, hs1, G1, T1⟩ hu1
    obtain ⟨rfl, hv1⟩ := hu1
    cases hv1
    refine zz_world (P' := (DP D C K F (WH hs) G T)) (fun _ h => h) ?_
    refine zz_iload_n 25 X.1 0 dX0_wordFrom_25 rfl ?_
    refine zz_lushr 26 X.1 (v := ((wd (qz (hM hs s0) (64 * ((x1 >>> ((nI 6) &&& 31)).toInt))) 0).toUInt64 >>> ((nI ((b % 64).toNat)).toInt64.toUInt64 &&& Int64.toUInt64 63)).toInt64) dX0_wordFrom_26 rfl ?_
    refine zz_aload_n 27 X.1 2 dX0_wordFrom_27 rfl ?_
    refine zz_iload_n 28 X.1 1 dX0_wordFrom_28 rfl ?_
    refine zz_iconst 29 X.1 (v := nI 1) dX0_wordFrom_29 rfl ?_
    refine zz_iadd 30 X.1 (v := ((x1 >>> ((nI 6) &&& 31)) + (nI 1))) dX0_wordFrom_30 rfl ?_
    refine dd_callVl 31 X hml (th := 20 + s0) (As := [.int ((x1 >>> ((nI 6) &&& 31)) + (nI 1))]) (kt_X0_word l D C K hAp F hs G T s0 ((x1 >>> ((nI 6) &&& 31)) + (nI 1)) (((x1 >>> ((nI 6) &&& 31)) + (nI 1)).toInt) (rfl) (by first | rfl | assumption | omega)) gX0_wordFrom_X0_word rfl ⟨rfl, rfl⟩ (dr_M X (i := s0) (by omega)) yd_X0_word ⟨Nat.le_of_ble_eq_true rfl, Nat.le_of_ble_eq_true rfl⟩ rfl rfl (Nat.le_of_ble_eq_true rfl) ⟨Nat.zero_le _, Nat.zero_le _⟩ dX0_wordFrom_31 ?_
    rintro r2 ⟨F2, hs2, G2, T2⟩ hu2
    obtain ⟨rfl, hv2⟩ := hu2
    cases hv2
    refine zz_world (P' := (DP D C K F (WH hs) G T)) (fun _ h => h) ?_
    refine zz_bipush 34 X.1 (v := nI 64) dX0_wordFrom_34 rfl ?_
    refine zz_iload_n 36 X.1 0 dX0_wordFrom_36 rfl ?_
    refine zz_isub 37 X.1 (v := (nI (64 - ((b % 64).toNat)))) dX0_wordFrom_37 (pk_sub (by omega)) ?_
    refine zz_lshl 38 X.1 (v := (wd (qz (hM hs s0) (64 * (((x1 >>> ((nI 6) &&& 31)) + (nI 1)).toInt))) 0) <<< ((nI (64 - ((b % 64).toNat))).toInt64 &&& 63)) dX0_wordFrom_38 rfl ?_
    refine zz_lor 39 X.1 (v := wd (qz (hM hs s0) b) 0) dX0_wordFrom_39 (wz_from (by omega) (by omega)) ?_
    rw [← hQ]
    refine zz_lret 40 X.1 hr hlk (F, hs, G, T) ?_ (fun _ h _ => h) dX0_wordFrom_40
    exact ⟨rfl, rfl⟩
  · skip
    refine zz_aload_n 14 X.1 2 dX0_wordFrom_14 rfl ?_
    refine zz_iload_n 15 X.1 1 dX0_wordFrom_15 rfl ?_
    refine dd_callVl 16 X hml (th := 20 + s0) (As := [.int (x1 >>> ((nI 6) &&& 31))]) (kt_X0_word l D C K hAp F hs G T s0 (x1 >>> ((nI 6) &&& 31)) ((x1 >>> ((nI 6) &&& 31)).toInt) (rfl) (by first | rfl | assumption | omega)) gX0_wordFrom_X0_word rfl ⟨rfl, rfl⟩ (dr_M X (i := s0) (by omega)) yd_X0_word ⟨Nat.le_of_ble_eq_true rfl, Nat.le_of_ble_eq_true rfl⟩ rfl rfl (Nat.le_of_ble_eq_true rfl) ⟨Nat.zero_le _, Nat.zero_le _⟩ dX0_wordFrom_16 ?_
    rintro r3 ⟨F3, hs3, G3, T3⟩ hu3
    obtain ⟨rfl, hv3⟩ := hu3
    cases hv3
    refine zz_world (P' := (DP D C K F (WH hs) G T)) (fun _ h => h) ?_
    rw [← hQ]
    refine zz_lret 19 X.1 hr hlk (F, hs, G, T) ?_ (fun _ h _ => h) dX0_wordFrom_19
    exact ⟨by rw [show 64 * (b / 64) = b by omega], rfl⟩

abbrev rm_X0_holds : Room := { frames := 1, cells := 0, slots := 0, locals := 21 }
theorem yd_X0_holds : yX0_holds.cls = RX0 ∧ yX0_holds.cls ≠ "java/lang/invoke/MethodHandle" ∧ yX0_holds.cls ≠ "java/lang/invoke/VarHandle" ∧ (parseMethodDescriptor yX0_holds.desc).map (fun d => d.parameters.length) = some 1 := by decide +kernel
set_option maxHeartbeats 4000000 in
set_option maxRecDepth 100000 in
theorem kt_X0_holds (l : Launch) (D : va_G) (C : Nat → ClassId) (K : Nat → Nat) (hAp : DAp K) (F : Nat → Int32) (hs : Nat → Bool) (G T : Nat → Nat → Int32) (s0 : Nat) (x1 : Int32) (b : Int) (h_b : x1.toInt = b) (hs0 : s0 < 8) : CMi l yX0_holds wsX0_holds rm_X0_holds D C K (20 + s0) [.int x1] F hs G T (fun (r : Int32) (u : CSt) => r = (bI (hz (hM hs s0) b)) ∧ u = (F, hs, G, T)) := by
  refine CMi_of (lv := [(0, .ref (K (20 + s0))), (1, .int x1)]) (cc := cX0_holds) (maxL := 2) (ret := (some .boolean)) rfl (by decide +kernel) (Nat.le_of_ble_eq_true rfl) rfl ?_
  intro p e s m args below meth c X hml hr hlk
  generalize hQ : MQ below _ args s 0 0 _ = Q
  refine zz_aload_n 0 X.1 0 dX0_holds_0 rfl ?_
  refine zz_iload_n 1 X.1 1 dX0_holds_1 rfl ?_
  refine zz_bipush 2 X.1 (v := nI 6) dX0_holds_2 rfl ?_
  refine zz_ishr 4 X.1 (v := (x1 >>> ((nI 6) &&& 31))) dX0_holds_4 rfl ?_
  refine dd_callVl 5 X hml (th := 20 + s0) (As := [.int (x1 >>> ((nI 6) &&& 31))]) (kt_X0_word l D C K hAp F hs G T s0 (x1 >>> ((nI 6) &&& 31)) ((x1 >>> ((nI 6) &&& 31)).toInt) (rfl) (by first | rfl | assumption | omega)) gX0_holds_X0_word rfl ⟨rfl, rfl⟩ (dr_M X (i := s0) (by omega)) yd_X0_word ⟨Nat.le_of_ble_eq_true rfl, Nat.le_of_ble_eq_true rfl⟩ rfl rfl (Nat.le_of_ble_eq_true rfl) ⟨Nat.zero_le _, Nat.zero_le _⟩ dX0_holds_5 ?_
  rintro r1 ⟨F1, hs1, G1, T1⟩ hu1
  obtain ⟨rfl, hv1⟩ := hu1
  cases hv1
  refine zz_world (P' := (DP D C K F (WH hs) G T)) (fun _ h => h) ?_
  refine zz_iload_n 8 X.1 1 dX0_holds_8 rfl ?_
  refine zz_bipush 9 X.1 (v := nI 63) dX0_holds_9 rfl ?_
  refine zz_iand 11 X.1 (v := (nI ((b % 64).toNat))) dX0_holds_11 (zi_and63 h_b) ?_
  refine zz_lushr 12 X.1 (v := ((wd (qz (hM hs s0) (64 * ((x1 >>> ((nI 6) &&& 31)).toInt))) 0).toUInt64 >>> ((nI ((b % 64).toNat)).toInt64.toUInt64 &&& Int64.toUInt64 63)).toInt64) dX0_holds_12 rfl ?_
  refine zz_lconst 13 X.1 (v := 1) dX0_holds_13 (by decide) ?_
  refine zz_land 14 X.1 (v := (((wd (qz (hM hs s0) (64 * ((x1 >>> ((nI 6) &&& 31)).toInt))) 0).toUInt64 >>> ((nI ((b % 64).toNat)).toInt64.toUInt64 &&& Int64.toUInt64 63)).toInt64) &&& 1) dX0_holds_14 rfl ?_
  refine zz_lconst 15 X.1 (v := 0) dX0_holds_15 (by decide) ?_
  refine zz_lcmp 16 X.1 dX0_holds_16 ?_
  refine zz_ifL_eq 17 24 X.1 dX0_holds_17 (by decide) (fun h17 => ?_) (fun h17 => ?_)
  · skip
    refine zz_iconst 24 X.1 (v := nI 0) dX0_holds_24 rfl ?_
    refine zz_topi (bI false) rfl ?_
    rw [← hQ]
    refine zz_iret 25 X.1 hr (bI_nar _) hlk (F, hs, G, T) ?_ (fun _ h _ => h) dX0_holds_25
    refine ⟨congrArg bI ?_, rfl⟩
    first | (exact ((wz_holds (by omega)).mp h17).symm) | (exact (Bool.eq_true_of_not_eq_false (fun z => h17 ((wz_holds (by omega)).mpr z))).symm)
  · skip
    refine zz_iconst 20 X.1 (v := nI 1) dX0_holds_20 rfl ?_
    refine zz_goto 21 25 X.1 dX0_holds_21 (by decide) ?_
    refine zz_topi (bI true) rfl ?_
    rw [← hQ]
    refine zz_iret 25 X.1 hr (bI_nar _) hlk (F, hs, G, T) ?_ (fun _ h _ => h) dX0_holds_25
    refine ⟨congrArg bI ?_, rfl⟩
    first | (exact ((wz_holds (by omega)).mp h17).symm) | (exact (Bool.eq_true_of_not_eq_false (fun z => h17 ((wz_holds (by omega)).mpr z))).symm)
