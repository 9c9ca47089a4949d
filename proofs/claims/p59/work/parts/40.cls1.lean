abbrev rm_X0_bitsIn : Room := { frames := 1, cells := 0, slots := 0, locals := 21 }
theorem yd_X0_bitsIn : yX0_bitsIn.cls = RX0 ∧ yX0_bitsIn.cls ≠ "java/lang/invoke/MethodHandle" ∧ yX0_bitsIn.cls ≠ "java/lang/invoke/VarHandle" ∧ (parseMethodDescriptor yX0_bitsIn.desc).map (fun d => d.parameters.length) = some 3 := by decide +kernel
set_option maxHeartbeats 4000000 in
set_option maxRecDepth 100000 in
theorem kt_X0_bitsIn (l : Launch) (k0 : Nat) (f : Nat) (t : Nat) (hk : k0 < 16) (hft : f < 2 ^ 31 ∧ t < 2 ^ 31) : SMl l yX0_bitsIn wsX0_bitsIn rm_X0_bitsIn [.int (nI k0), .int (nI f), .int (nI t)] (fun (r : Int64) => r = (wd (pI f t) k0)) := by
  refine SMl_of (lv := [(0, .int (nI k0)), (1, .int (nI f)), (2, .int (nI t))]) (cc := cX0_bitsIn) (maxL := 5) (ret := (some .long)) rfl (by decide +kernel) (Nat.le_of_ble_eq_true rfl) rfl ?_
  intro p e s m args below meth c hc hts hown hml hr hlk
  have X : (p.tables.exec = Jvm.exec ∧ c.code = cX0_bitsIn) ∧ True := ⟨hc, trivial⟩
  generalize hQ : MQ below _ args s 0 0 _ = Q
  refine zz_iload_n 0 X.1 1 dX0_bitsIn_0 rfl ?_
  refine zz_bipush 1 X.1 (v := nI 64) dX0_bitsIn_1 rfl ?_
  refine zz_iload_n 3 X.1 0 dX0_bitsIn_3 rfl ?_
  refine zz_imul 4 X.1 (v := (nI (64 * k0))) dX0_bitsIn_4 (pk_mul _ _) ?_
  refine zz_isub 5 X.1 (v := (nI f - nI (64 * k0))) dX0_bitsIn_5 rfl ?_
  refine zz_iconst 6 X.1 (v := nI 0) dX0_bitsIn_6 rfl ?_
  refine zz_mmax 7 X.1 hml hown (hts _ (by decide +kernel)) (hts _ (by decide +kernel)) (hts _ (by decide +kernel)) (hts _ (by decide +kernel)) (Nat.le_of_ble_eq_true rfl) (Nat.le_of_ble_eq_true rfl) (Nat.zero_le _) (Nat.zero_le _) (v := (nI (f - 64 * k0))) dX0_bitsIn_7 (zi_of ((zi_max (zi_subN (by omega) (by omega)) (nI_toInt (by omega))).trans (by omega))) ?_
  refine zz_istore_n 10 X.1 (lv' := [(3, .int (nI (f - 64 * k0))), (0, .int (nI k0)), (1, .int (nI f)), (2, .int (nI t))]) dX0_bitsIn_10 (by decide) rfl ?_
  refine zz_iload_n 11 X.1 3 dX0_bitsIn_11 rfl ?_
  refine zz_bipush 12 X.1 (v := nI 64) dX0_bitsIn_12 rfl ?_
  refine zz_iload_n 14 X.1 1 dX0_bitsIn_14 rfl ?_
  refine zz_imul 15 X.1 (v := (nI (64 * k0))) dX0_bitsIn_15 (pk_mul _ _) ?_
  refine zz_isub 16 X.1 (v := (nI t - nI (64 * k0))) dX0_bitsIn_16 rfl ?_
  refine zz_bipush 17 X.1 (v := nI 64) dX0_bitsIn_17 rfl ?_
  refine zz_mmin 19 X.1 hml hown (hts _ (by decide +kernel)) (hts _ (by decide +kernel)) (hts _ (by decide +kernel)) (hts _ (by decide +kernel)) (Nat.le_of_ble_eq_true rfl) (Nat.le_of_ble_eq_true rfl) (Nat.zero_le _) (Nat.zero_le _) (v := (if nI 64 < nI t - nI (64 * k0) then nI 64 else nI t - nI (64 * k0))) dX0_bitsIn_19 rfl ?_
  refine zz_istore 22 X.1 (lv' := [(4, .int (if nI 64 < nI t - nI (64 * k0) then nI 64 else nI t - nI (64 * k0))), (3, .int (nI (f - 64 * k0))), (0, .int (nI k0)), (1, .int (nI f)), (2, .int (nI t))]) dX0_bitsIn_22 (by decide) rfl ?_
  refine zz_iload_n 24 X.1 1 dX0_bitsIn_24 rfl ?_
  refine zz_iload 25 X.1 0 dX0_bitsIn_25 rfl ?_
  refine zz_icmp_ge 27 46 X.1 (nI_toInt (by omega)) (zi_min (zi_subN (by omega) (by omega)) (nI_toInt (by omega))) dX0_bitsIn_27 (by decide) (fun h27 => ?_) (fun h27 => ?_)
  · skip
    refine zz_lconst 46 X.1 (v := 0) dX0_bitsIn_46 (by decide) ?_
    rw [← hQ]
    refine zz_lret 47 X.1 hr hlk () ?_ (fun _ _ _ => trivial) dX0_bitsIn_47
    first | rfl | exact wd_0 (fun i hi => by unfold pI; exact decide_eq_false (by omega))
  · skip
    refine zz_ldc2 30 X.1 (v := -1) dX0_bitsIn_30 hown (by exact hts _ (by decide +kernel)) ?_
    refine zz_bipush 33 X.1 (v := nI 64) dX0_bitsIn_33 rfl ?_
    refine zz_iload 35 X.1 0 dX0_bitsIn_35 rfl ?_
    refine zz_topi (nI (min (t - 64 * k0) 64)) (zi_of ((zi_min (zi_subN (by omega) (by omega)) (nI_toInt (by omega))).trans (by omega))) ?_
    refine zz_iload_n 37 X.1 1 dX0_bitsIn_37 rfl ?_
    refine zz_isub 38 X.1 (v := (nI ((min (t - 64 * k0) 64) - (f - 64 * k0)))) dX0_bitsIn_38 (pk_sub (by omega)) ?_
    refine zz_isub 39 X.1 (v := (nI (64 - ((min (t - 64 * k0) 64) - (f - 64 * k0))))) dX0_bitsIn_39 (pk_sub (by omega)) ?_
    refine zz_lushr 40 X.1 (v := ((-1 : Int64).toUInt64 >>> ((nI (64 - ((min (t - 64 * k0) 64) - (f - 64 * k0)))).toInt64.toUInt64 &&& Int64.toUInt64 63)).toInt64) dX0_bitsIn_40 rfl ?_
    refine zz_iload_n 41 X.1 1 dX0_bitsIn_41 rfl ?_
    refine zz_lshl 42 X.1 (v := wd (pI f t) k0) dX0_bitsIn_42 (bi_mask (by omega) (by omega) (fun i hi => by unfold pI; exact decide_eq_decide.mpr (by omega))) ?_
    refine zz_goto 43 47 X.1 dX0_bitsIn_43 (by decide) ?_
    rw [← hQ]
    refine zz_lret 47 X.1 hr hlk () ?_ (fun _ _ _ => trivial) dX0_bitsIn_47
    first | rfl | exact wd_0 (fun i hi => by unfold pI; exact decide_eq_false (by omega))
abbrev rm_X0_word : Room := { frames := 0, cells := 0, slots := 0, locals := 0 }
theorem yd_X0_word : yX0_word.cls = RX0 ∧ yX0_word.cls ≠ "java/lang/invoke/MethodHandle" ∧ yX0_word.cls ≠ "java/lang/invoke/VarHandle" ∧ (parseMethodDescriptor yX0_word.desc).map (fun d => d.parameters.length) = some 1 := by decide +kernel
set_option maxHeartbeats 4000000 in
set_option maxRecDepth 100000 in
theorem kt_X0_word (l : Launch) (D : va_G) (C : Nat → ClassId) (K : Nat → Nat) (hAp : DAp K) (F : Nat → Int32) (hs : Nat → Bool) (G T : Nat → Nat → Int32) (s0 : Nat) (x1 : Int32) (a : Int) (h_a : x1.toInt = a) (hs0 : s0 < 8) : CMl l yX0_word wsX0_word rm_X0_word D C K (20 + s0) [.int x1] F hs G T (fun (r : Int64) (u : CSt) => r = (wd (qz (hM hs s0) (64 * a)) 0) ∧ u = (F, hs, G, T)) := by
  refine CMl_of (lv := [(0, .ref (K (20 + s0))), (1, .int x1)]) (cc := cX0_word) (maxL := 2) (ret := (some .long)) rfl (by decide +kernel) (Nat.le_of_ble_eq_true rfl) rfl ?_
  intro p e s m args below meth c X hml hr hlk
  generalize hQ : MQ below _ args s 0 0 _ = Q
  refine zz_iload_n 0 X.1 1 dX0_word_0 rfl ?_
  refine zz_if_lt 1 19 X.1 h_a dX0_word_1 (by decide) (fun h1 => ?_) (fun h1 => ?_)
  · skip
    refine zz_lconst 19 X.1 (v := 0) dX0_word_19 (by decide) ?_
    rw [← hQ]
    refine zz_lret 20 X.1 hr hlk (F, hs, G, T) ?_ (fun _ h _ => h) dX0_word_20
    refine ⟨?_, rfl⟩
    first | (rw [← hka]; exact wz_word (by omega)) | (exact wz_out (by omega))
  · skip
    refine zz_iload_n 4 X.1 1 dX0_word_4 rfl ?_
    refine zz_bipush 5 X.1 (v := nI 16) dX0_word_5 rfl ?_
    refine zz_icmp_ge 7 19 X.1 h_a (nI_toInt (by omega)) dX0_word_7 (by decide) (fun h7 => ?_) (fun h7 => ?_)
    · skip
      refine zz_lconst 19 X.1 (v := 0) dX0_word_19 (by decide) ?_
      rw [← hQ]
      refine zz_lret 20 X.1 hr hlk (F, hs, G, T) ?_ (fun _ h _ => h) dX0_word_20
      refine ⟨?_, rfl⟩
      first | (rw [← hka]; exact wz_word (by omega)) | (exact wz_out (by omega))
    · skip
      obtain ⟨kk, rfl, hka, hkb⟩ := zi_ofm h_a (by omega)
      refine zz_aload_n 10 X.1 0 dX0_word_10 rfl ?_
      refine dd_getM 11 X (by decide +kernel) (i := s0) (by omega) (by decide +kernel) dX0_word_11 ?_
      refine zz_iload_n 14 X.1 1 dX0_word_14 rfl ?_
      refine dd_lld 15 X (i := s0) (k := kk) (by omega) (by omega) dX0_word_15 ?_
      refine zz_goto 16 20 X.1 dX0_word_16 (by decide) ?_
      rw [← hQ]
      refine zz_lret 20 X.1 hr hlk (F, hs, G, T) ?_ (fun _ h _ => h) dX0_word_20
      refine ⟨?_, rfl⟩
      first | (rw [← hka]; exact wz_word (by omega)) | (exact wz_out (by omega))
abbrev rm_X0_wordFrom : Room := { frames := 1, cells := 0, slots := 0, locals := 21 }
theorem yd_X0_wordFrom : yX0_wordFrom.cls = RX0 ∧ yX0_wordFrom.cls ≠ "java/lang/invoke/MethodHandle" ∧ yX0_wordFrom.cls ≠ "java/lang/invoke/VarHandle" ∧ (parseMethodDescriptor yX0_wordFrom.desc).map (fun d => d.parameters.length) = some 1 := by decide +kernel
set_option maxHeartbeats 4000000 in
set_option maxRecDepth 100000 in
theorem kt_X0_wordFrom (l : Launch) (D : va_G) (C : Nat → ClassId) (K : Nat → Nat) (hAp : DAp K) (F : Nat → Int32) (hs : Nat → Bool) (G T : Nat → Nat → Int32) (s0 : Nat) (x1 : Int32) (b : Int) (h_b : x1.toInt = b) (hs0 : s0 < 8) : CMl l yX0_wordFrom wsX0_wordFrom rm_X0_wordFrom D C K (20 + s0) [.int x1] F hs G T (fun (r : Int64) (u : CSt) => r = (wd (qz (hM hs s0) b) 0) ∧ u = (F, hs, G, T)) := by
  refine CMl_of (lv := [(0, .ref (K (20 + s0))), (1, .int x1)]) (cc := cX0_wordFrom) (maxL := 4) (ret := (some .long)) rfl (by decide +kernel) (Nat.le_of_ble_eq_true rfl) rfl ?_
  intro p e s m args below meth c X hml hr hlk
  generalize hQ : MQ below _ args s 0 0 _ = Q
  have hlo := Int32.le_toInt x1
  have hhi := Int32.toInt_lt x1
  refine zz_iload_n 0 X.1 1 dX0_wordFrom_0 rfl ?_
  refine zz_bipush 1 X.1 (v := nI 6) dX0_wordFrom_1 rfl ?_
  refine zz_ishr 3 X.1 (v := (x1 >>> ((nI 6) &&& 31))) dX0_wordFrom_3 rfl ?_
  refine zz_istore_n 4 X.1 (lv' := [(2, .int (x1 >>> ((nI 6) &&& 31))), (0, .ref (K (20 + s0))), (1, .int x1)]) dX0_wordFrom_4 (by decide) rfl ?_
  refine zz_iload_n 5 X.1 2 dX0_wordFrom_5 rfl ?_
  refine zz_bipush 6 X.1 (v := nI 63) dX0_wordFrom_6 rfl ?_
  refine zz_iand 8 X.1 (v := (nI ((b % 64).toNat))) dX0_wordFrom_8 (zi_and63 h_b) ?_
  refine zz_istore_n 9 X.1 (lv' := [(3, .int (nI ((b % 64).toNat))), (2, .int (x1 >>> ((nI 6) &&& 31))), (0, .ref (K (20 + s0))), (1, .int x1)]) dX0_wordFrom_9 (by decide) rfl ?_
  refine zz_iload_n 10 X.1 0 dX0_wordFrom_10 rfl ?_
  refine zz_if_ne 11 20 X.1 (nI_toInt (by omega)) dX0_wordFrom_11 (by decide) (fun h11 => ?_) (fun h11 => ?_)
  · skip
    refine zz_aload_n 20 X.1 2 dX0_wordFrom_20 rfl ?_
    refine zz_iload_n 21 X.1 1 dX0_wordFrom_21 rfl ?_
    refine dd_callVl 22 X hml (th := 20 + s0) (As := [.int (x1 >>> ((nI 6) &&& 31))]) (kt_X0_word l D C K hAp F hs G T s0 (x1 >>> ((nI 6) &&& 31)) (b / 64) ((zi_shr6 h_b)) (by first | rfl | assumption | omega)) gX0_wordFrom_X0_word rfl ⟨rfl, rfl⟩ (dr_M X (i := s0) (by omega)) yd_X0_word ⟨Nat.le_of_ble_eq_true rfl, Nat.le_of_ble_eq_true rfl⟩ rfl rfl (Nat.le_of_ble_eq_true rfl) ⟨Nat.zero_le _, Nat.zero_le _⟩ dX0_wordFrom_22 ?_
    rintro r1 ⟨F1, hs1, G1, T1⟩ hu1
    obtain ⟨rfl, hv1⟩ := hu1
    cases hv1
    refine zz_world (P' := (DP D C K F (WH hs) G T)) (fun _ h => h) ?_
    refine zz_iload_n 25 X.1 0 dX0_wordFrom_25 rfl ?_
    refine zz_lushr 26 X.1 (v := ((wd (qz (hM hs s0) (64 * (b / 64))) 0).toUInt64 >>> ((nI ((b % 64).toNat)).toInt64.toUInt64 &&& Int64.toUInt64 63)).toInt64) dX0_wordFrom_26 rfl ?_
    refine zz_aload_n 27 X.1 2 dX0_wordFrom_27 rfl ?_
    refine zz_iload_n 28 X.1 1 dX0_wordFrom_28 rfl ?_
    refine zz_iconst 29 X.1 (v := nI 1) dX0_wordFrom_29 rfl ?_
    refine zz_iadd 30 X.1 (v := ((x1 >>> ((nI 6) &&& 31)) + (nI 1))) dX0_wordFrom_30 rfl ?_
    refine dd_callVl 31 X hml (th := 20 + s0) (As := [.int ((x1 >>> ((nI 6) &&& 31)) + (nI 1))]) (kt_X0_word l D C K hAp F hs G T s0 ((x1 >>> ((nI 6) &&& 31)) + (nI 1)) (b / 64 + 1) ((zi_add (zi_shr6 h_b) (nI_toInt (by omega)) (by omega) (by omega))) (by first | rfl | assumption | omega)) gX0_wordFrom_X0_word rfl ⟨rfl, rfl⟩ (dr_M X (i := s0) (by omega)) yd_X0_word ⟨Nat.le_of_ble_eq_true rfl, Nat.le_of_ble_eq_true rfl⟩ rfl rfl (Nat.le_of_ble_eq_true rfl) ⟨Nat.zero_le _, Nat.zero_le _⟩ dX0_wordFrom_31 ?_
    rintro r2 ⟨F2, hs2, G2, T2⟩ hu2
    obtain ⟨rfl, hv2⟩ := hu2
    cases hv2
    refine zz_world (P' := (DP D C K F (WH hs) G T)) (fun _ h => h) ?_
    refine zz_bipush 34 X.1 (v := nI 64) dX0_wordFrom_34 rfl ?_
    refine zz_iload_n 36 X.1 0 dX0_wordFrom_36 rfl ?_
    refine zz_isub 37 X.1 (v := (nI (64 - ((b % 64).toNat)))) dX0_wordFrom_37 (pk_sub (by omega)) ?_
    refine zz_lshl 38 X.1 (v := (wd (qz (hM hs s0) (64 * (b / 64 + 1))) 0) <<< ((nI (64 - ((b % 64).toNat))).toInt64 &&& 63)) dX0_wordFrom_38 rfl ?_
    refine zz_lor 39 X.1 (v := wd (qz (hM hs s0) b) 0) dX0_wordFrom_39 (wz_from (by omega) (by omega)) ?_
    rw [← hQ]
    refine zz_lret 40 X.1 hr hlk (F, hs, G, T) ?_ (fun _ h _ => h) dX0_wordFrom_40
    exact ⟨rfl, rfl⟩
  · skip
    refine zz_aload_n 14 X.1 2 dX0_wordFrom_14 rfl ?_
    refine zz_iload_n 15 X.1 1 dX0_wordFrom_15 rfl ?_
    refine dd_callVl 16 X hml (th := 20 + s0) (As := [.int (x1 >>> ((nI 6) &&& 31))]) (kt_X0_word l D C K hAp F hs G T s0 (x1 >>> ((nI 6) &&& 31)) (b / 64) ((zi_shr6 h_b)) (by first | rfl | assumption | omega)) gX0_wordFrom_X0_word rfl ⟨rfl, rfl⟩ (dr_M X (i := s0) (by omega)) yd_X0_word ⟨Nat.le_of_ble_eq_true rfl, Nat.le_of_ble_eq_true rfl⟩ rfl rfl (Nat.le_of_ble_eq_true rfl) ⟨Nat.zero_le _, Nat.zero_le _⟩ dX0_wordFrom_16 ?_
    rintro r3 ⟨F3, hs3, G3, T3⟩ hu3
    obtain ⟨rfl, hv3⟩ := hu3
    cases hv3
    refine zz_world (P' := (DP D C K F (WH hs) G T)) (fun _ h => h) ?_
    rw [← hQ]
    refine zz_lret 19 X.1 hr hlk (F, hs, G, T) ?_ (fun _ h _ => h) dX0_wordFrom_19
    exact ⟨by rw [show 64 * (b / 64) = b by omega], rfl⟩
abbrev rm_X0_holds : Room := { frames := 1, cells := 0, slots := 0, locals := 21 }
theorem yd_X0_holds : yX0_holds.cls = RX0 ∧ yX0_holds.cls ≠ "java/lang/invoke/MethodHandle" ∧ yX0_holds.cls ≠ "java/lang/invoke/VarHandle" ∧ (parseMethodDescriptor yX0_holds.desc).map (fun d => d.parameters.length) = some 1 := by decide +kernel
set_option maxHeartbeats 4000000 in
set_option maxRecDepth 100000 in
theorem kt_X0_holds (l : Launch) (D : va_G) (C : Nat → ClassId) (K : Nat → Nat) (hAp : DAp K) (F : Nat → Int32) (hs : Nat → Bool) (G T : Nat → Nat → Int32) (s0 : Nat) (x1 : Int32) (b : Int) (h_b : x1.toInt = b) (hs0 : s0 < 8) : CMi l yX0_holds wsX0_holds rm_X0_holds D C K (20 + s0) [.int x1] F hs G T (fun (r : Int32) (u : CSt) => r = (bI (hz (hM hs s0) b)) ∧ u = (F, hs, G, T)) := by
  refine CMi_of (lv := [(0, .ref (K (20 + s0))), (1, .int x1)]) (cc := cX0_holds) (maxL := 2) (ret := (some .boolean)) rfl (by decide +kernel) (Nat.le_of_ble_eq_true rfl) rfl ?_
  intro p e s m args below meth c X hml hr hlk
  generalize hQ : MQ below _ args s 0 0 _ = Q
  refine zz_aload_n 0 X.1 0 dX0_holds_0 rfl ?_
  refine zz_iload_n 1 X.1 1 dX0_holds_1 rfl ?_
  refine zz_bipush 2 X.1 (v := nI 6) dX0_holds_2 rfl ?_
  refine zz_ishr 4 X.1 (v := (x1 >>> ((nI 6) &&& 31))) dX0_holds_4 rfl ?_
  refine dd_callVl 5 X hml (th := 20 + s0) (As := [.int (x1 >>> ((nI 6) &&& 31))]) (kt_X0_word l D C K hAp F hs G T s0 (x1 >>> ((nI 6) &&& 31)) (b / 64) ((zi_shr6 h_b)) (by first | rfl | assumption | omega)) gX0_holds_X0_word rfl ⟨rfl, rfl⟩ (dr_M X (i := s0) (by omega)) yd_X0_word ⟨Nat.le_of_ble_eq_true rfl, Nat.le_of_ble_eq_true rfl⟩ rfl rfl (Nat.le_of_ble_eq_true rfl) ⟨Nat.zero_le _, Nat.zero_le _⟩ dX0_holds_5 ?_
  rintro r1 ⟨F1, hs1, G1, T1⟩ hu1
  obtain ⟨rfl, hv1⟩ := hu1
  cases hv1
  refine zz_world (P' := (DP D C K F (WH hs) G T)) (fun _ h => h) ?_
  refine zz_iload_n 8 X.1 1 dX0_holds_8 rfl ?_
  refine zz_bipush 9 X.1 (v := nI 63) dX0_holds_9 rfl ?_
  refine zz_iand 11 X.1 (v := (nI ((b % 64).toNat))) dX0_holds_11 (zi_and63 h_b) ?_
  refine zz_lushr 12 X.1 (v := ((wd (qz (hM hs s0) (64 * (b / 64))) 0).toUInt64 >>> ((nI ((b % 64).toNat)).toInt64.toUInt64 &&& Int64.toUInt64 63)).toInt64) dX0_holds_12 rfl ?_
  refine zz_lconst 13 X.1 (v := 1) dX0_holds_13 (by decide) ?_
  refine zz_land 14 X.1 (v := (((wd (qz (hM hs s0) (64 * (b / 64))) 0).toUInt64 >>> ((nI ((b % 64).toNat)).toInt64.toUInt64 &&& Int64.toUInt64 63)).toInt64) &&& 1) dX0_holds_14 rfl ?_
  refine zz_lconst 15 X.1 (v := 0) dX0_holds_15 (by decide) ?_
  refine zz_lcmp 16 X.1 dX0_holds_16 ?_
  refine zz_ifL_eq 17 24 X.1 dX0_holds_17 (by decide) (fun h17 => ?_) (fun h17 => ?_)
  · skip
    refine zz_iconst 24 X.1 (v := nI 0) dX0_holds_24 rfl ?_
    refine zz_topi (bI false) rfl ?_
    rw [← hQ]
    refine zz_iret 25 X.1 hr (bI_nar _) hlk (F, hs, G, T) ?_ (fun _ h _ => h) dX0_holds_25
    refine ⟨congrArg bI ?_, rfl⟩
    first | (exact ((wz_holds (by omega)).mp h17).symm) | (exact ((zb_tf _).resolve_right (fun z => h17 ((wz_holds (by omega)).mpr z))).symm)
  · skip
    refine zz_iconst 20 X.1 (v := nI 1) dX0_holds_20 rfl ?_
    refine zz_goto 21 25 X.1 dX0_holds_21 (by decide) ?_
    refine zz_topi (bI true) rfl ?_
    rw [← hQ]
    refine zz_iret 25 X.1 hr (bI_nar _) hlk (F, hs, G, T) ?_ (fun _ h _ => h) dX0_holds_25
    refine ⟨congrArg bI ?_, rfl⟩
    first | (exact ((wz_holds (by omega)).mp h17).symm) | (exact ((zb_tf _).resolve_right (fun z => h17 ((wz_holds (by omega)).mpr z))).symm)
abbrev rm_X0_includeOne : Room := { frames := 0, cells := 0, slots := 0, locals := 0 }
theorem yd_X0_includeOne : yX0_includeOne.cls = RX0 ∧ yX0_includeOne.cls ≠ "java/lang/invoke/MethodHandle" ∧ yX0_includeOne.cls ≠ "java/lang/invoke/VarHandle" ∧ (parseMethodDescriptor yX0_includeOne.desc).map (fun d => d.parameters.length) = some 1 := by decide +kernel
set_option maxHeartbeats 4000000 in
set_option maxRecDepth 100000 in
theorem kt_X0_includeOne (l : Launch) (D : va_G) (C : Nat → ClassId) (K : Nat → Nat) (hAp : DAp K) (F : Nat → Int32) (hs : Nat → Bool) (G T : Nat → Nat → Int32) (s0 : Nat) (i0 : Nat) (hs0 : s0 < 8) (hi0 : i0 < 1024) : CMv l yX0_includeOne wsX0_includeOne rm_X0_includeOne D C K (20 + s0) [.int (nI i0)] F hs G T (fun (u : CSt) => u = (F, sS hs s0 (p1 (hM hs s0) i0 true), G, T)) := by
  refine CMv_of (lv := [(0, .ref (K (20 + s0))), (1, .int (nI i0))]) (cc := cX0_includeOne) (maxL := 2) (ret := none) rfl (by decide +kernel) (Nat.le_of_ble_eq_true rfl) rfl ?_
  intro p e s m args below meth c X hml hr hlk
  generalize hQ : MQ below _ args s 0 0 _ = Q
  refine zz_iload_n 0 X.1 1 dX0_includeOne_0 rfl ?_
  refine zz_if_lt 1 29 X.1 (nI_toInt (by omega)) dX0_includeOne_1 (by decide) (fun h1 => ?_) (fun h1 => ?_)
  · exfalso; omega
  · skip
    refine zz_iload_n 4 X.1 1 dX0_includeOne_4 rfl ?_
    refine zz_sipush 5 X.1 (v := nI 1024) dX0_includeOne_5 rfl ?_
    refine zz_icmp_ge 8 29 X.1 (nI_toInt (by omega)) (nI_toInt (by omega)) dX0_includeOne_8 (by decide) (fun h8 => ?_) (fun h8 => ?_)
    · exfalso; omega
    · skip
      refine zz_aload_n 11 X.1 0 dX0_includeOne_11 rfl ?_
      refine dd_getM 12 X (by decide +kernel) (i := s0) (by omega) (by decide +kernel) dX0_includeOne_12 ?_
      refine zz_iload_n 15 X.1 1 dX0_includeOne_15 rfl ?_
      refine zz_bipush 16 X.1 (v := nI 6) dX0_includeOne_16 rfl ?_
      refine zz_ishr 18 X.1 (v := (nI (i0 / 64))) dX0_includeOne_18 (zn_shr6 (by omega)) ?_
      refine zz_dup2 19 X.1 dX0_includeOne_19 rfl rfl ?_
      refine dd_lld 20 X (i := s0) (k := i0 / 64) (by omega) (by omega) dX0_includeOne_20 ?_
      refine zz_lconst 21 X.1 (v := 1) dX0_includeOne_21 (by decide) ?_
      refine zz_iload_n 22 X.1 1 dX0_includeOne_22 rfl ?_
      refine zz_bipush 23 X.1 (v := nI 63) dX0_includeOne_23 rfl ?_
      refine zz_iand 25 X.1 (v := (nI (i0 % 64))) dX0_includeOne_25 (zn_and63 (by omega)) ?_
      refine zz_lshl 26 X.1 (v := 1 <<< ((nI (i0 % 64)).toInt64 &&& 63)) dX0_includeOne_26 rfl ?_
      refine zz_lor 27 X.1 (v := wd (p1 (hM hs s0) i0 true) (i0 / 64)) dX0_includeOne_27 wd_or1 ?_
      refine dd_lst 28 hAp X (i := s0) (k := i0 / 64) (by omega) (by omega) dX0_includeOne_28 ?_
      refine dd_W (W' := WH (vS hs s0 (i0 / 64) (p1 (hM hs s0) i0 true))) (vS_W (rfl)) ?_
      refine zz_world (P' := (DP D C K F (WH (sS hs s0 (p1 (hM hs s0) i0 true))) G T)) (dp_hs (sS_p1 (by omega) rfl)) ?_
      rw [← hQ]
      refine zz_vret 29 X.1 hr hlk (F, sS hs s0 (p1 (hM hs s0) i0 true), G, T) ?_ (fun _ h _ => h) dX0_includeOne_29
      exact rfl
abbrev rm_X0_excludeOne : Room := { frames := 0, cells := 0, slots := 0, locals := 0 }
theorem yd_X0_excludeOne : yX0_excludeOne.cls = RX0 ∧ yX0_excludeOne.cls ≠ "java/lang/invoke/MethodHandle" ∧ yX0_excludeOne.cls ≠ "java/lang/invoke/VarHandle" ∧ (parseMethodDescriptor yX0_excludeOne.desc).map (fun d => d.parameters.length) = some 1 := by decide +kernel
set_option maxHeartbeats 4000000 in
set_option maxRecDepth 100000 in
theorem kt_X0_excludeOne (l : Launch) (D : va_G) (C : Nat → ClassId) (K : Nat → Nat) (hAp : DAp K) (F : Nat → Int32) (hs : Nat → Bool) (G T : Nat → Nat → Int32) (s0 : Nat) (i0 : Nat) (hs0 : s0 < 8) (hi0 : i0 < 2 ^ 31) : CMv l yX0_excludeOne wsX0_excludeOne rm_X0_excludeOne D C K (20 + s0) [.int (nI i0)] F hs G T (fun (u : CSt) => u = (F, sS hs s0 (p1 (hM hs s0) i0 false), G, T)) := by
  refine CMv_of (lv := [(0, .ref (K (20 + s0))), (1, .int (nI i0))]) (cc := cX0_excludeOne) (maxL := 2) (ret := none) rfl (by decide +kernel) (Nat.le_of_ble_eq_true rfl) rfl ?_
  intro p e s m args below meth c X hml hr hlk
  generalize hQ : MQ below _ args s 0 0 _ = Q
  refine zz_iload_n 0 X.1 1 dX0_excludeOne_0 rfl ?_
  refine zz_if_lt 1 33 X.1 (nI_toInt (by omega)) dX0_excludeOne_1 (by decide) (fun h1 => ?_) (fun h1 => ?_)
  · exfalso; omega
  · skip
    refine zz_iload_n 4 X.1 1 dX0_excludeOne_4 rfl ?_
    refine zz_sipush 5 X.1 (v := nI 1024) dX0_excludeOne_5 rfl ?_
    refine zz_icmp_ge 8 33 X.1 (nI_toInt (by omega)) (nI_toInt (by omega)) dX0_excludeOne_8 (by decide) (fun h8 => ?_) (fun h8 => ?_)
    · skip
      refine zz_world (P' := (DP D C K F (WH (sS hs s0 (p1 (hM hs s0) i0 false))) G T)) (dp_hs (by first | exact sS_p1 (by omega) rfl | exact p1_none (by omega))) ?_
      rw [← hQ]
      refine zz_vret 33 X.1 hr hlk (F, sS hs s0 (p1 (hM hs s0) i0 false), G, T) ?_ (fun _ h _ => h) dX0_excludeOne_33
      exact rfl
    · skip
      refine zz_aload_n 11 X.1 0 dX0_excludeOne_11 rfl ?_
      refine dd_getM 12 X (by decide +kernel) (i := s0) (by omega) (by decide +kernel) dX0_excludeOne_12 ?_
      refine zz_iload_n 15 X.1 1 dX0_excludeOne_15 rfl ?_
      refine zz_bipush 16 X.1 (v := nI 6) dX0_excludeOne_16 rfl ?_
      refine zz_ishr 18 X.1 (v := (nI (i0 / 64))) dX0_excludeOne_18 (zn_shr6 (by omega)) ?_
      refine zz_dup2 19 X.1 dX0_excludeOne_19 rfl rfl ?_
      refine dd_lld 20 X (i := s0) (k := i0 / 64) (by omega) (by omega) dX0_excludeOne_20 ?_
      refine zz_lconst 21 X.1 (v := 1) dX0_excludeOne_21 (by decide) ?_
      refine zz_iload_n 22 X.1 1 dX0_excludeOne_22 rfl ?_
      refine zz_bipush 23 X.1 (v := nI 63) dX0_excludeOne_23 rfl ?_
      refine zz_iand 25 X.1 (v := (nI (i0 % 64))) dX0_excludeOne_25 (zn_and63 (by omega)) ?_
      refine zz_lshl 26 X.1 (v := 1 <<< ((nI (i0 % 64)).toInt64 &&& 63)) dX0_excludeOne_26 rfl ?_
      refine zz_ldc2 27 X.1 (v := -1) dX0_excludeOne_27 X.2.2.1 (by exact (X.2.1 _ (by decide +kernel))) ?_
      refine zz_lxor 30 X.1 (v := (1 <<< ((nI (i0 % 64)).toInt64 &&& 63)) ^^^ (-1 : Int64)) dX0_excludeOne_30 rfl ?_
      refine zz_land 31 X.1 (v := wd (p1 (hM hs s0) i0 false) (i0 / 64)) dX0_excludeOne_31 wd_and1 ?_
      refine dd_lst 32 hAp X (i := s0) (k := i0 / 64) (by omega) (by omega) dX0_excludeOne_32 ?_
      refine dd_W (W' := WH (vS hs s0 (i0 / 64) (p1 (hM hs s0) i0 false))) (vS_W (rfl)) ?_
      refine zz_world (P' := (DP D C K F (WH (sS hs s0 (p1 (hM hs s0) i0 false))) G T)) (dp_hs (by first | exact sS_p1 (by omega) rfl | exact p1_none (by omega))) ?_
      rw [← hQ]
      refine zz_vret 33 X.1 hr hlk (F, sS hs s0 (p1 (hM hs s0) i0 false), G, T) ?_ (fun _ h _ => h) dX0_excludeOne_33
      exact rfl
abbrev rm_X0_decideOne : Room := { frames := 1, cells := 0, slots := 0, locals := 21 }
theorem yd_X0_decideOne : yX0_decideOne.cls = RX0 ∧ yX0_decideOne.cls ≠ "java/lang/invoke/MethodHandle" ∧ yX0_decideOne.cls ≠ "java/lang/invoke/VarHandle" ∧ (parseMethodDescriptor yX0_decideOne.desc).map (fun d => d.parameters.length) = some 2 := by decide +kernel
set_option maxHeartbeats 4000000 in
set_option maxRecDepth 100000 in
theorem kt_X0_decideOne (l : Launch) (D : va_G) (C : Nat → ClassId) (K : Nat → Nat) (hAp : DAp K) (F : Nat → Int32) (hs : Nat → Bool) (G T : Nat → Nat → Int32) (s0 : Nat) (i0 : Nat) (bb : Bool) (hs0 : s0 < 8) (hi0 : i0 < 1024) : CMv l yX0_decideOne wsX0_decideOne rm_X0_decideOne D C K (20 + s0) [.int (nI i0), .int (bI bb)] F hs G T (fun (u : CSt) => u = (F, sS hs s0 (p1 (hM hs s0) i0 bb), G, T)) := by
  refine CMv_of (lv := [(0, .ref (K (20 + s0))), (1, .int (nI i0)), (2, .int (bI bb))]) (cc := cX0_decideOne) (maxL := 3) (ret := none) rfl (by decide +kernel) (Nat.le_of_ble_eq_true rfl) rfl ?_
  intro p e s m args below meth c X hml hr hlk
  generalize hQ : MQ below _ args s 0 0 _ = Q
  refine zz_iload_n 0 X.1 2 dX0_decideOne_0 rfl ?_
  refine zz_ifB_eq 1 12 X.1 dX0_decideOne_1 (by decide) (fun h1 => ?_) (fun h1 => ?_)
  · skip
    refine zz_aload_n 12 X.1 0 dX0_decideOne_12 rfl ?_
    refine zz_iload_n 13 X.1 1 dX0_decideOne_13 rfl ?_
    refine dd_callVv 14 X hml (th := 20 + s0) (As := [.int (nI i0)]) (kt_X0_excludeOne l D C K hAp F hs G T s0 i0 (by first | rfl | assumption | omega) (by first | rfl | assumption | omega)) gX0_decideOne_X0_excludeOne rfl ⟨rfl, rfl⟩ (dr_M X (i := s0) (by omega)) yd_X0_excludeOne ⟨Nat.le_of_ble_eq_true rfl, Nat.le_of_ble_eq_true rfl⟩ rfl rfl (Nat.le_of_ble_eq_true rfl) ⟨Nat.zero_le _, Nat.zero_le _⟩ dX0_decideOne_14 ?_
    rintro ⟨F1, hs1, G1, T1⟩ hu1
    have hv1 := hu1
    cases hv1
    refine zz_world (P' := (DP D C K F (WH (sS hs s0 (p1 (hM hs s0) i0 false))) G T)) (fun _ h => h) ?_
    refine zz_world (P' := (DP D C K F (WH (sS hs s0 (p1 (hM hs s0) i0 bb))) G T)) (dp_hs (by rw [h1])) ?_
    rw [← hQ]
    refine zz_vret 17 X.1 hr hlk (F, sS hs s0 (p1 (hM hs s0) i0 bb), G, T) ?_ (fun _ h _ => h) dX0_decideOne_17
    exact rfl
  · skip
    refine zz_aload_n 4 X.1 0 dX0_decideOne_4 rfl ?_
    refine zz_iload_n 5 X.1 1 dX0_decideOne_5 rfl ?_
    refine dd_callVv 6 X hml (th := 20 + s0) (As := [.int (nI i0)]) (kt_X0_includeOne l D C K hAp F hs G T s0 i0 (by first | rfl | assumption | omega) (by first | rfl | assumption | omega)) gX0_decideOne_X0_includeOne rfl ⟨rfl, rfl⟩ (dr_M X (i := s0) (by omega)) yd_X0_includeOne ⟨Nat.le_of_ble_eq_true rfl, Nat.le_of_ble_eq_true rfl⟩ rfl rfl (Nat.le_of_ble_eq_true rfl) ⟨Nat.zero_le _, Nat.zero_le _⟩ dX0_decideOne_6 ?_
    rintro ⟨F2, hs2, G2, T2⟩ hu2
    have hv2 := hu2
    cases hv2
    refine zz_world (P' := (DP D C K F (WH (sS hs s0 (p1 (hM hs s0) i0 true))) G T)) (fun _ h => h) ?_
    refine zz_goto 9 17 X.1 dX0_decideOne_9 (by decide) ?_
    refine zz_world (P' := (DP D C K F (WH (sS hs s0 (p1 (hM hs s0) i0 bb))) G T)) (dp_hs (by rw [h1])) ?_
    rw [← hQ]
    refine zz_vret 17 X.1 hr hlk (F, sS hs s0 (p1 (hM hs s0) i0 bb), G, T) ?_ (fun _ h _ => h) dX0_decideOne_17
    exact rfl
abbrev rm_X0_include : Room := { frames := 2, cells := 0, slots := 0, locals := 45 }
theorem yd_X0_include : yX0_include.cls = RX0 ∧ yX0_include.cls ≠ "java/lang/invoke/MethodHandle" ∧ yX0_include.cls ≠ "java/lang/invoke/VarHandle" ∧ (parseMethodDescriptor yX0_include.desc).map (fun d => d.parameters.length) = some 2 := by decide +kernel
set_option maxHeartbeats 4000000 in
set_option maxRecDepth 100000 in
theorem kt_X0_include (l : Launch) (D : va_G) (C : Nat → ClassId) (K : Nat → Nat) (hAp : DAp K) (F : Nat → Int32) (hs : Nat → Bool) (G T : Nat → Nat → Int32) (s0 : Nat) (f : Nat) (t : Nat) (hs0 : s0 < 8) (hft : f < 2 ^ 31 ∧ t < 2 ^ 31) : CMv l yX0_include wsX0_include rm_X0_include D C K (20 + s0) [.int (nI f), .int (nI t)] F hs G T (fun (u : CSt) => u = (F, sS hs s0 (pR (hM hs s0) f t true), G, T)) := by
  refine CMv_of (lv := [(0, .ref (K (20 + s0))), (1, .int (nI f)), (2, .int (nI t))]) (cc := cX0_include) (maxL := 4) (ret := none) rfl (by decide +kernel) (Nat.le_of_ble_eq_true rfl) rfl ?_
  intro p e s m args below meth c X hml hr hlk
  generalize hQ : MQ below _ args s 0 0 _ = Q
  refine zz_iconst 0 X.1 (v := nI 0) dX0_include_0 rfl ?_
  refine zz_istore_n 1 X.1 (lv' := [(3, .int (nI 0)), (0, .ref (K (20 + s0))), (1, .int (nI f)), (2, .int (nI t))]) dX0_include_1 (by decide) rfl ?_
  have C2 : ∀ (d : Nat) (k : Nat) (hs1 : Nat → Bool) (hk : k ≤ 16) (hh : hs1 = sF hs s0 (pR (hM hs s0) f t true) (64 * k)) (hd : 16 - k < d), ZZ p l e rm_X0_include s m args below meth c 0 0 Q (zz_A (DAd K) s.heap.size) (DP D C K F (WH hs1) G T) 4 [(0, .ref (K (20 + s0))), (1, .int (nI f)), (2, .int (nI t)), (3, .int (nI k))] [] 2 := by
    intro d
    induction d with
    | zero => intro k hs1 hk hh hd; exact absurd hd (Nat.not_lt_zero _)
    | succ d ih2 =>
      intro k hs1 hk hh hd
      refine zz_iload_n 2 X.1 3 dX0_include_2 rfl ?_
      refine zz_bipush 3 X.1 (v := nI 16) dX0_include_3 rfl ?_
      refine zz_icmp_ge 5 29 X.1 (nI_toInt (by omega)) (nI_toInt (by omega)) dX0_include_5 (by decide) (fun h5 => ?_) (fun h5 => ?_)
      · skip
        refine zz_world (P' := (DP D C K F (WH (sS hs s0 (pR (hM hs s0) f t true))) G T)) (dp_hs (hh.trans (by rw [show k = 16 by omega]; rfl))) ?_
        rw [← hQ]
        refine zz_vret 29 X.1 hr hlk (F, sS hs s0 (pR (hM hs s0) f t true), G, T) ?_ (fun _ h _ => h) dX0_include_29
        exact rfl
      · skip
        refine zz_aload_n 8 X.1 0 dX0_include_8 rfl ?_
        refine dd_getM 9 X (by decide +kernel) (i := s0) (by omega) (by decide +kernel) dX0_include_9 ?_
        refine zz_iload_n 12 X.1 3 dX0_include_12 rfl ?_
        refine zz_dup2 13 X.1 dX0_include_13 rfl rfl ?_
        refine dd_lld 14 X (i := s0) (k := k) (by omega) (by omega) dX0_include_14 ?_
        refine zz_iload_n 15 X.1 3 dX0_include_15 rfl ?_
        refine zz_iload_n 16 X.1 1 dX0_include_16 rfl ?_
        refine zz_iload_n 17 X.1 2 dX0_include_17 rfl ?_
        refine zz_callS0l 18 ⟨X.1.1, X.1.2, hml, X.2.2.1, X.2.1⟩ (fun q h => Or.inr h) DP_keep (As := [.int (nI k), .int (nI f), .int (nI t)]) (kt_X0_bitsIn l k f t (by first | rfl | assumption | omega) (by first | rfl | assumption | omega)) gX0_include_X0_bitsIn rfl ⟨rfl, rfl⟩ yd_X0_bitsIn.2 ⟨Nat.le_of_ble_eq_true rfl, Nat.le_of_ble_eq_true rfl⟩ rfl rfl (Nat.le_of_ble_eq_true rfl) ⟨Nat.zero_le _, Nat.zero_le _⟩ dX0_include_18 ?_
        intro r1 hu1
        obtain rfl := hu1
        refine zz_lor 21 X.1 (v := wd (fun i => hM hs1 s0 i || pI f t i) k) dX0_include_21 wd_or ?_
        refine dd_lst 22 hAp X (i := s0) (k := k) (by omega) (by omega) dX0_include_22 ?_
        refine dd_W (W' := WH (vS hs1 s0 k (fun i => hM hs1 s0 i || pI f t i))) (vS_W (rfl)) ?_
        refine zz_iinc 23 X.1 3 (v := (nI (k + 1))) (lv' := [(3, .int (nI (k + 1))), (0, .ref (K (20 + s0))), (1, .int (nI f)), (2, .int (nI t))]) dX0_include_23 rfl (nI_add k 1) (by decide) rfl ?_
        refine zz_goto 26 2 X.1 dX0_include_26 (by decide) ?_
        refine zz_lvs [1, 2, 3, 0] rfl ?_
        exact ih2 (k + 1) (vS hs1 s0 k (fun i => hM hs1 s0 i || pI f t i)) (by omega) (st_inc hh (by omega)) (by omega)
  refine zz_lvs [1, 2, 3, 0] rfl ?_
  exact C2 (16 - 0 + 1) 0 hs (by omega) (sF_0.symm) (Nat.lt_succ_self _)
abbrev rm_X0_exclude : Room := { frames := 2, cells := 0, slots := 0, locals := 45 }
theorem yd_X0_exclude : yX0_exclude.cls = RX0 ∧ yX0_exclude.cls ≠ "java/lang/invoke/MethodHandle" ∧ yX0_exclude.cls ≠ "java/lang/invoke/VarHandle" ∧ (parseMethodDescriptor yX0_exclude.desc).map (fun d => d.parameters.length) = some 2 := by decide +kernel
set_option maxHeartbeats 4000000 in
set_option maxRecDepth 100000 in
theorem kt_X0_exclude (l : Launch) (D : va_G) (C : Nat → ClassId) (K : Nat → Nat) (hAp : DAp K) (F : Nat → Int32) (hs : Nat → Bool) (G T : Nat → Nat → Int32) (s0 : Nat) (f : Nat) (t : Nat) (hs0 : s0 < 8) (hft : f < 2 ^ 31 ∧ t < 2 ^ 31) : CMv l yX0_exclude wsX0_exclude rm_X0_exclude D C K (20 + s0) [.int (nI f), .int (nI t)] F hs G T (fun (u : CSt) => u = (F, sS hs s0 (pR (hM hs s0) f t false), G, T)) := by
  refine CMv_of (lv := [(0, .ref (K (20 + s0))), (1, .int (nI f)), (2, .int (nI t))]) (cc := cX0_exclude) (maxL := 4) (ret := none) rfl (by decide +kernel) (Nat.le_of_ble_eq_true rfl) rfl ?_
  intro p e s m args below meth c X hml hr hlk
  generalize hQ : MQ below _ args s 0 0 _ = Q
  refine zz_iconst 0 X.1 (v := nI 0) dX0_exclude_0 rfl ?_
  refine zz_istore_n 1 X.1 (lv' := [(3, .int (nI 0)), (0, .ref (K (20 + s0))), (1, .int (nI f)), (2, .int (nI t))]) dX0_exclude_1 (by decide) rfl ?_
  have C2 : ∀ (d : Nat) (k : Nat) (hs1 : Nat → Bool) (hk : k ≤ 16) (hh : hs1 = sF hs s0 (pR (hM hs s0) f t false) (64 * k)) (hd : 16 - k < d), ZZ p l e rm_X0_exclude s m args below meth c 0 0 Q (zz_A (DAd K) s.heap.size) (DP D C K F (WH hs1) G T) 4 [(0, .ref (K (20 + s0))), (1, .int (nI f)), (2, .int (nI t)), (3, .int (nI k))] [] 2 := by
    intro d
    induction d with
    | zero => intro k hs1 hk hh hd; exact absurd hd (Nat.not_lt_zero _)
    | succ d ih2 =>
      intro k hs1 hk hh hd
      refine zz_iload_n 2 X.1 3 dX0_exclude_2 rfl ?_
      refine zz_bipush 3 X.1 (v := nI 16) dX0_exclude_3 rfl ?_
      refine zz_icmp_ge 5 33 X.1 (nI_toInt (by omega)) (nI_toInt (by omega)) dX0_exclude_5 (by decide) (fun h5 => ?_) (fun h5 => ?_)
      · skip
        refine zz_world (P' := (DP D C K F (WH (sS hs s0 (pR (hM hs s0) f t false))) G T)) (dp_hs (hh.trans (by rw [show k = 16 by omega]; rfl))) ?_
        rw [← hQ]
        refine zz_vret 33 X.1 hr hlk (F, sS hs s0 (pR (hM hs s0) f t false), G, T) ?_ (fun _ h _ => h) dX0_exclude_33
        exact rfl
      · skip
        refine zz_aload_n 8 X.1 0 dX0_exclude_8 rfl ?_
        refine dd_getM 9 X (by decide +kernel) (i := s0) (by omega) (by decide +kernel) dX0_exclude_9 ?_
        refine zz_iload_n 12 X.1 3 dX0_exclude_12 rfl ?_
        refine zz_dup2 13 X.1 dX0_exclude_13 rfl rfl ?_
        refine dd_lld 14 X (i := s0) (k := k) (by omega) (by omega) dX0_exclude_14 ?_
        refine zz_iload_n 15 X.1 3 dX0_exclude_15 rfl ?_
        refine zz_iload_n 16 X.1 1 dX0_exclude_16 rfl ?_
        refine zz_iload_n 17 X.1 2 dX0_exclude_17 rfl ?_
        refine zz_callS0l 18 ⟨X.1.1, X.1.2, hml, X.2.2.1, X.2.1⟩ (fun q h => Or.inr h) DP_keep (As := [.int (nI k), .int (nI f), .int (nI t)]) (kt_X0_bitsIn l k f t (by first | rfl | assumption | omega) (by first | rfl | assumption | omega)) gX0_exclude_X0_bitsIn rfl ⟨rfl, rfl⟩ yd_X0_bitsIn.2 ⟨Nat.le_of_ble_eq_true rfl, Nat.le_of_ble_eq_true rfl⟩ rfl rfl (Nat.le_of_ble_eq_true rfl) ⟨Nat.zero_le _, Nat.zero_le _⟩ dX0_exclude_18 ?_
        intro r1 hu1
        obtain rfl := hu1
        refine zz_ldc2 21 X.1 (v := -1) dX0_exclude_21 X.2.2.1 (by exact (X.2.1 _ (by decide +kernel))) ?_
        refine zz_lxor 24 X.1 (v := (wd (pI f t) k) ^^^ (-1 : Int64)) dX0_exclude_24 rfl ?_
        refine zz_land 25 X.1 (v := wd (fun i => hM hs1 s0 i && !pI f t i) k) dX0_exclude_25 wd_andn ?_
        refine dd_lst 26 hAp X (i := s0) (k := k) (by omega) (by omega) dX0_exclude_26 ?_
        refine dd_W (W' := WH (vS hs1 s0 k (fun i => hM hs1 s0 i && !pI f t i))) (vS_W (rfl)) ?_
        refine zz_iinc 27 X.1 3 (v := (nI (k + 1))) (lv' := [(3, .int (nI (k + 1))), (0, .ref (K (20 + s0))), (1, .int (nI f)), (2, .int (nI t))]) dX0_exclude_27 rfl (nI_add k 1) (by decide) rfl ?_
        refine zz_goto 30 2 X.1 dX0_exclude_30 (by decide) ?_
        refine zz_lvs [1, 2, 3, 0] rfl ?_
        exact ih2 (k + 1) (vS hs1 s0 k (fun i => hM hs1 s0 i && !pI f t i)) (by omega) (st_exc hh (by omega)) (by omega)
  refine zz_lvs [1, 2, 3, 0] rfl ?_
  exact C2 (16 - 0 + 1) 0 hs (by omega) (sF_0.symm) (Nat.lt_succ_self _)
abbrev rm_X0_toggle : Room := { frames := 2, cells := 0, slots := 0, locals := 45 }
theorem yd_X0_toggle : yX0_toggle.cls = RX0 ∧ yX0_toggle.cls ≠ "java/lang/invoke/MethodHandle" ∧ yX0_toggle.cls ≠ "java/lang/invoke/VarHandle" ∧ (parseMethodDescriptor yX0_toggle.desc).map (fun d => d.parameters.length) = some 2 := by decide +kernel
set_option maxHeartbeats 4000000 in
set_option maxRecDepth 100000 in
theorem kt_X0_toggle (l : Launch) (D : va_G) (C : Nat → ClassId) (K : Nat → Nat) (hAp : DAp K) (F : Nat → Int32) (hs : Nat → Bool) (G T : Nat → Nat → Int32) (s0 : Nat) (f : Nat) (t : Nat) (hs0 : s0 < 8) (hft : f < 2 ^ 31 ∧ t < 2 ^ 31) : CMv l yX0_toggle wsX0_toggle rm_X0_toggle D C K (20 + s0) [.int (nI f), .int (nI t)] F hs G T (fun (u : CSt) => u = (F, sS hs s0 (pX (hM hs s0) f t), G, T)) := by
  refine CMv_of (lv := [(0, .ref (K (20 + s0))), (1, .int (nI f)), (2, .int (nI t))]) (cc := cX0_toggle) (maxL := 4) (ret := none) rfl (by decide +kernel) (Nat.le_of_ble_eq_true rfl) rfl ?_
  intro p e s m args below meth c X hml hr hlk
  generalize hQ : MQ below _ args s 0 0 _ = Q
  refine zz_iconst 0 X.1 (v := nI 0) dX0_toggle_0 rfl ?_
  refine zz_istore_n 1 X.1 (lv' := [(3, .int (nI 0)), (0, .ref (K (20 + s0))), (1, .int (nI f)), (2, .int (nI t))]) dX0_toggle_1 (by decide) rfl ?_
  have C2 : ∀ (d : Nat) (k : Nat) (hs1 : Nat → Bool) (hk : k ≤ 16) (hh : hs1 = sF hs s0 (pX (hM hs s0) f t) (64 * k)) (hd : 16 - k < d), ZZ p l e rm_X0_toggle s m args below meth c 0 0 Q (zz_A (DAd K) s.heap.size) (DP D C K F (WH hs1) G T) 4 [(0, .ref (K (20 + s0))), (1, .int (nI f)), (2, .int (nI t)), (3, .int (nI k))] [] 2 := by
    intro d
    induction d with
    | zero => intro k hs1 hk hh hd; exact absurd hd (Nat.not_lt_zero _)
    | succ d ih2 =>
      intro k hs1 hk hh hd
      refine zz_iload_n 2 X.1 3 dX0_toggle_2 rfl ?_
      refine zz_bipush 3 X.1 (v := nI 16) dX0_toggle_3 rfl ?_
      refine zz_icmp_ge 5 29 X.1 (nI_toInt (by omega)) (nI_toInt (by omega)) dX0_toggle_5 (by decide) (fun h5 => ?_) (fun h5 => ?_)
      · skip
        refine zz_world (P' := (DP D C K F (WH (sS hs s0 (pX (hM hs s0) f t))) G T)) (dp_hs (hh.trans (by rw [show k = 16 by omega]; rfl))) ?_
        rw [← hQ]
        refine zz_vret 29 X.1 hr hlk (F, sS hs s0 (pX (hM hs s0) f t), G, T) ?_ (fun _ h _ => h) dX0_toggle_29
        exact rfl
      · skip
        refine zz_aload_n 8 X.1 0 dX0_toggle_8 rfl ?_
        refine dd_getM 9 X (by decide +kernel) (i := s0) (by omega) (by decide +kernel) dX0_toggle_9 ?_
        refine zz_iload_n 12 X.1 3 dX0_toggle_12 rfl ?_
        refine zz_dup2 13 X.1 dX0_toggle_13 rfl rfl ?_
        refine dd_lld 14 X (i := s0) (k := k) (by omega) (by omega) dX0_toggle_14 ?_
        refine zz_iload_n 15 X.1 3 dX0_toggle_15 rfl ?_
        refine zz_iload_n 16 X.1 1 dX0_toggle_16 rfl ?_
        refine zz_iload_n 17 X.1 2 dX0_toggle_17 rfl ?_
        refine zz_callS0l 18 ⟨X.1.1, X.1.2, hml, X.2.2.1, X.2.1⟩ (fun q h => Or.inr h) DP_keep (As := [.int (nI k), .int (nI f), .int (nI t)]) (kt_X0_bitsIn l k f t (by first | rfl | assumption | omega) (by first | rfl | assumption | omega)) gX0_toggle_X0_bitsIn rfl ⟨rfl, rfl⟩ yd_X0_bitsIn.2 ⟨Nat.le_of_ble_eq_true rfl, Nat.le_of_ble_eq_true rfl⟩ rfl rfl (Nat.le_of_ble_eq_true rfl) ⟨Nat.zero_le _, Nat.zero_le _⟩ dX0_toggle_18 ?_
        intro r1 hu1
        obtain rfl := hu1
        refine zz_lxor 21 X.1 (v := wd (fun i => hM hs1 s0 i ^^ pI f t i) k) dX0_toggle_21 wd_xor ?_
        refine dd_lst 22 hAp X (i := s0) (k := k) (by omega) (by omega) dX0_toggle_22 ?_
        refine dd_W (W' := WH (vS hs1 s0 k (fun i => hM hs1 s0 i ^^ pI f t i))) (vS_W (rfl)) ?_
        refine zz_iinc 23 X.1 3 (v := (nI (k + 1))) (lv' := [(3, .int (nI (k + 1))), (0, .ref (K (20 + s0))), (1, .int (nI f)), (2, .int (nI t))]) dX0_toggle_23 rfl (nI_add k 1) (by decide) rfl ?_
        refine zz_goto 26 2 X.1 dX0_toggle_26 (by decide) ?_
        refine zz_lvs [1, 2, 3, 0] rfl ?_
        exact ih2 (k + 1) (vS hs1 s0 k (fun i => hM hs1 s0 i ^^ pI f t i)) (by omega) (st_tog hh (by omega)) (by omega)
  refine zz_lvs [1, 2, 3, 0] rfl ?_
  exact C2 (16 - 0 + 1) 0 hs (by omega) (sF_0.symm) (Nat.lt_succ_self _)
abbrev rm_X0_decide : Room := { frames := 3, cells := 0, slots := 0, locals := 68 }
theorem yd_X0_decide : yX0_decide.cls = RX0 ∧ yX0_decide.cls ≠ "java/lang/invoke/MethodHandle" ∧ yX0_decide.cls ≠ "java/lang/invoke/VarHandle" ∧ (parseMethodDescriptor yX0_decide.desc).map (fun d => d.parameters.length) = some 3 := by decide +kernel
set_option maxHeartbeats 4000000 in
set_option maxRecDepth 100000 in
theorem kt_X0_decide (l : Launch) (D : va_G) (C : Nat → ClassId) (K : Nat → Nat) (hAp : DAp K) (F : Nat → Int32) (hs : Nat → Bool) (G T : Nat → Nat → Int32) (s0 : Nat) (f : Nat) (t : Nat) (bb : Bool) (hs0 : s0 < 8) (hft : f < 2 ^ 31 ∧ t < 2 ^ 31) : CMv l yX0_decide wsX0_decide rm_X0_decide D C K (20 + s0) [.int (nI f), .int (nI t), .int (bI bb)] F hs G T (fun (u : CSt) => u = (F, sS hs s0 (pR (hM hs s0) f t bb), G, T)) := by
  refine CMv_of (lv := [(0, .ref (K (20 + s0))), (1, .int (nI f)), (2, .int (nI t)), (3, .int (bI bb))]) (cc := cX0_decide) (maxL := 4) (ret := none) rfl (by decide +kernel) (Nat.le_of_ble_eq_true rfl) rfl ?_
  intro p e s m args below meth c X hml hr hlk
  generalize hQ : MQ below _ args s 0 0 _ = Q
  refine zz_iload_n 0 X.1 3 dX0_decide_0 rfl ?_
  refine zz_ifB_eq 1 13 X.1 dX0_decide_1 (by decide) (fun h1 => ?_) (fun h1 => ?_)
  · skip
    refine zz_aload_n 13 X.1 0 dX0_decide_13 rfl ?_
    refine zz_iload_n 14 X.1 1 dX0_decide_14 rfl ?_
    refine zz_iload_n 15 X.1 2 dX0_decide_15 rfl ?_
    refine dd_callVv 16 X hml (th := 20 + s0) (As := [.int (nI f), .int (nI t)]) (kt_X0_exclude l D C K hAp F hs G T s0 f t (by first | rfl | assumption | omega) (by first | rfl | assumption | omega)) gX0_decide_X0_exclude rfl ⟨rfl, rfl⟩ (dr_M X (i := s0) (by omega)) yd_X0_exclude ⟨Nat.le_of_ble_eq_true rfl, Nat.le_of_ble_eq_true rfl⟩ rfl rfl (Nat.le_of_ble_eq_true rfl) ⟨Nat.zero_le _, Nat.zero_le _⟩ dX0_decide_16 ?_
    rintro ⟨F1, hs1, G1, T1⟩ hu1
    have hv1 := hu1
    cases hv1
    refine zz_world (P' := (DP D C K F (WH (sS hs s0 (pR (hM hs s0) f t false))) G T)) (fun _ h => h) ?_
    refine zz_world (P' := (DP D C K F (WH (sS hs s0 (pR (hM hs s0) f t bb))) G T)) (dp_hs (by rw [h1])) ?_
    rw [← hQ]
    refine zz_vret 19 X.1 hr hlk (F, sS hs s0 (pR (hM hs s0) f t bb), G, T) ?_ (fun _ h _ => h) dX0_decide_19
    exact rfl
  · skip
    refine zz_aload_n 4 X.1 0 dX0_decide_4 rfl ?_
    refine zz_iload_n 5 X.1 1 dX0_decide_5 rfl ?_
    refine zz_iload_n 6 X.1 2 dX0_decide_6 rfl ?_
    refine dd_callVv 7 X hml (th := 20 + s0) (As := [.int (nI f), .int (nI t)]) (kt_X0_include l D C K hAp F hs G T s0 f t (by first | rfl | assumption | omega) (by first | rfl | assumption | omega)) gX0_decide_X0_include rfl ⟨rfl, rfl⟩ (dr_M X (i := s0) (by omega)) yd_X0_include ⟨Nat.le_of_ble_eq_true rfl, Nat.le_of_ble_eq_true rfl⟩ rfl rfl (Nat.le_of_ble_eq_true rfl) ⟨Nat.zero_le _, Nat.zero_le _⟩ dX0_decide_7 ?_
    rintro ⟨F2, hs2, G2, T2⟩ hu2
    have hv2 := hu2
    cases hv2
    refine zz_world (P' := (DP D C K F (WH (sS hs s0 (pR (hM hs s0) f t true))) G T)) (fun _ h => h) ?_
    refine zz_goto 10 19 X.1 dX0_decide_10 (by decide) ?_
    refine zz_world (P' := (DP D C K F (WH (sS hs s0 (pR (hM hs s0) f t bb))) G T)) (dp_hs (by rw [h1])) ?_
    rw [← hQ]
    refine zz_vret 19 X.1 hr hlk (F, sS hs s0 (pR (hM hs s0) f t bb), G, T) ?_ (fun _ h _ => h) dX0_decide_19
    exact rfl
abbrev rm_X0_clear : Room := { frames := 3, cells := 0, slots := 0, locals := 68 }
theorem yd_X0_clear : yX0_clear.cls = RX0 ∧ yX0_clear.cls ≠ "java/lang/invoke/MethodHandle" ∧ yX0_clear.cls ≠ "java/lang/invoke/VarHandle" ∧ (parseMethodDescriptor yX0_clear.desc).map (fun d => d.parameters.length) = some 0 := by decide +kernel
set_option maxHeartbeats 4000000 in
set_option maxRecDepth 100000 in
theorem kt_X0_clear (l : Launch) (D : va_G) (C : Nat → ClassId) (K : Nat → Nat) (hAp : DAp K) (F : Nat → Int32) (hs : Nat → Bool) (G T : Nat → Nat → Int32) (s0 : Nat) (hs0 : s0 < 8) : CMv l yX0_clear wsX0_clear rm_X0_clear D C K (20 + s0) [] F hs G T (fun (u : CSt) => u = (F, sS hs s0 (fun _ => false), G, T)) := by
  refine CMv_of (lv := [(0, .ref (K (20 + s0)))]) (cc := cX0_clear) (maxL := 1) (ret := none) rfl (by decide +kernel) (Nat.le_of_ble_eq_true rfl) rfl ?_
  intro p e s m args below meth c X hml hr hlk
  generalize hQ : MQ below _ args s 0 0 _ = Q
  refine zz_aload_n 0 X.1 0 dX0_clear_0 rfl ?_
  refine zz_iconst 1 X.1 (v := nI 0) dX0_clear_1 rfl ?_
  refine zz_sipush 2 X.1 (v := nI 1024) dX0_clear_2 rfl ?_
  refine dd_callVv 5 X hml (th := 20 + s0) (As := [.int (nI 0), .int (nI 1024)]) (kt_X0_exclude l D C K hAp F hs G T s0 0 1024 (by first | rfl | assumption | omega) (by first | rfl | assumption | omega)) gX0_clear_X0_exclude rfl ⟨rfl, rfl⟩ (dr_M X (i := s0) (by omega)) yd_X0_exclude ⟨Nat.le_of_ble_eq_true rfl, Nat.le_of_ble_eq_true rfl⟩ rfl rfl (Nat.le_of_ble_eq_true rfl) ⟨Nat.zero_le _, Nat.zero_le _⟩ dX0_clear_5 ?_
  rintro ⟨F1, hs1, G1, T1⟩ hu1
  have hv1 := hu1
  cases hv1
  refine zz_world (P' := (DP D C K F (WH (sS hs s0 (pR (hM hs s0) 0 1024 false))) G T)) (fun _ h => h) ?_
  refine zz_world (P' := (DP D C K F (WH (sS hs s0 (fun _ => false))) G T)) (dp_hs (sS_R0)) ?_
  rw [← hQ]
  refine zz_vret 8 X.1 hr hlk (F, sS hs s0 (fun _ => false), G, T) ?_ (fun _ h _ => h) dX0_clear_8
  exact rfl
