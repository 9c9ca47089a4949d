abbrev rm_X0_word : Room := { frames := 0, cells := 0, slots := 0, locals := 0 }
theorem yd_X0_word : yX0_word.cls = RX0 ∧ yX0_word.cls ≠ "java/lang/invoke/MethodHandle" ∧ yX0_word.cls ≠ "java/lang/invoke/VarHandle" ∧ (parseMethodDescriptor yX0_word.desc).map (fun d => d.parameters.length) = some 1 := by decide +kernel
set_option maxHeartbeats 4000000 in
set_option maxRecDepth 100000 in
theorem kt_X0_word (l : Launch) (D : va_G) (C : Nat → ClassId) (K : Nat → Nat) (hAp : DAp K) (F : Nat → Int32) (hs : Nat → Bool) (G T : Nat → Nat → Int32) (s0 : Nat) (x1 : Int32) (a : Int) (h_a : x1.toInt = a) (hs0 : s0 < 8) : CMl l yX0_word wsX0_word rm_X0_word D C K (20 + s0) [.int x1] F hs G T (fun (r : Int64) (u : CSt) => r = (wd (qz (hM hs s0) (64 * a)) 0) ∧ u = (F, hs, G, T)) := by
  refine CMl_of (lv := [(0, .ref (K (20 + s0))), (1, .int x1)]) (cc := cX0_word) (maxL := 2) (ret := (some .long)) rfl (by decide +kernel) (Nat.le_of_ble_eq_true rfl) rfl ?_
  intro p e s m args below meth c X hml hr hlk
  generalize hQ : MQ below _ args s 0 0 _ = Q
  refine zz_iload_n 0 X.1 1 dX0_word_0 rfl ?_
  refine zz_if_lt 1 19 X.1 h_a dX0_word_1 (by decide) (fun h1 => ?_) (fun h1 => ?_)
  · skip
    refine zz_lconst 19 X.1 (v := 0) dX0_word_19 (by decide) ?_
    rw [← hQ]
    refine zz_lret 20 X.1 hr hlk (F, hs, G, T) ?_ (fun _ h _ => h) dX0_word_20
    refine ⟨?_, rfl⟩
    first | (rw [← hka]; exact wz_word (by omega)) | (exact wz_out (by omega))
  · skip
    refine zz_iload_n 4 X.1 1 dX0_word_4 rfl ?_
    refine zz_bipush 5 X.1 (v := nI 16) dX0_word_5 rfl ?_
    refine zz_icmp_ge 7 19 X.1 h_a (nI_toInt (by omega)) dX0_word_7 (by decide) (fun h7 => ?_) (fun h7 => ?_)
    · skip
      refine zz_lconst 19 X.1 (v := 0) dX0_word_19 (by decide) ?_
      rw [← hQ]
      refine zz_lret 20 X.1 hr hlk (F, hs, G, T) ?_ (fun _ h _ => h) dX0_word_20
      refine ⟨?_, rfl⟩
      first | (rw [← hka]; exact wz_word (by omega)) | (exact wz_out (by omega))
    · skip
      obtain ⟨kk, rfl, hka, hkb⟩ := zi_ofm h_a (by omega)
      refine zz_aload_n 10 X.1 0 dX0_word_10 rfl ?_
      refine dd_getM 11 X (by decide +kernel) (i := s0) (by omega) (by decide +kernel) dX0_word_11 ?_
      refine zz_iload_n 14 X.1 1 dX0_word_14 rfl ?_
      refine dd_lld 15 X (i := s0) (k := kk) (by omega) (by omega) dX0_word_15 ?_
      refine zz_goto 16 20 X.1 dX0_word_16 (by decide) ?_
      rw [← hQ]
      refine zz_lret 20 X.1 hr hlk (F, hs, G, T) ?_ (fun _ h _ => h) dX0_word_20
      refine ⟨?_, rfl⟩
      first | (rw [← hka]; exact wz_word (by omega)) | (exact wz_out (by omega))

abbrev rm_X0_holds : Room := { frames := 1, cells := 0, slots := 0, locals := 21 }
theorem yd_X0_holds : yX0_holds.cls = RX0 ∧ yX0_holds.cls ≠ "java/lang/invoke/MethodHandle" ∧ yX0_holds.cls ≠ "java/lang/invoke/VarHandle" ∧ (parseMethodDescriptor yX0_holds.desc).map (fun d => d.parameters.length) = some 1 := by decide +kernel
set_option maxHeartbeats 4000000 in
set_option maxRecDepth 100000 in
theorem kt_X0_holds (l : Launch) (D : va_G) (C : Nat → ClassId) (K : Nat → Nat) (hAp : DAp K) (F : Nat → Int32) (hs : Nat → Bool) (G T : Nat → Nat → Int32) (s0 : Nat) (x1 : Int32) (b : Int) (h_b : x1.toInt = b) (hs0 : s0 < 8) : CMi l yX0_holds wsX0_holds rm_X0_holds D C K (20 + s0) [.int x1] F hs G T (fun (r : Int32) (u : CSt) => r = (bI (hz (hM hs s0) b)) ∧ u = (F, hs, G, T)) := by
  refine CMi_of (lv := [(0, .ref (K (20 + s0))), (1, .int x1)]) (cc := cX0_holds) (maxL := 2) (ret := (some .boolean)) rfl (by decide +kernel) (Nat.le_of_ble_eq_true rfl) rfl ?_
  intro p e s m args below meth c X hml hr hlk
  generalize hQ : MQ below _ args s 0 0 _ = Q
  refine zz_aload_n 0 X.1 0 dX0_holds_0 rfl ?_
  refine zz_iload_n 1 X.1 1 dX0_holds_1 rfl ?_
  refine zz_bipush 2 X.1 (v := nI 6) dX0_holds_2 rfl ?_
  refine zz_ishr 4 X.1 (v := (x1 >>> ((nI 6) &&& 31))) dX0_holds_4 rfl ?_
  refine dd_callVl 5 X hml (th := 20 + s0) (As := [.int (x1 >>> ((nI 6) &&& 31))]) (kt_X0_word l D C K hAp F hs G T s0 (x1 >>> ((nI 6) &&& 31)) ((x1 >>> ((nI 6) &&& 31)).toInt) (rfl) (by first | rfl | assumption | omega)) gX0_holds_X0_word rfl ⟨rfl, rfl⟩ (dr_M X (i := s0) (by omega)) yd_X0_word ⟨Nat.le_of_ble_eq_true rfl, Nat.le_of_ble_eq_true rfl⟩ rfl rfl (Nat.le_of_ble_eq_true rfl) ⟨Nat.zero_le _, Nat.zero_le _⟩ dX0_holds_5 ?_
  rintro r1 ⟨F1, hs1, G1, T1⟩ hu1
  obtain ⟨rfl, hv1⟩ := hu1
  cases hv1
  refine zz_world (P' := (DP D C K F (WH hs) G T)) (fun _ h => h) ?_
  refine zz_iload_n 8 X.1 1 dX0_holds_8 rfl ?_
  refine zz_bipush 9 X.1 (v := nI 63) dX0_holds_9 rfl ?_
  refine zz_iand 11 X.1 (v := (nI ((b % 64).toNat))) dX0_holds_11 (zi_and63 h_b) ?_
  refine zz_lushr 12 X.1 (v := ((wd (qz (hM hs s0) (64 * ((x1 >>> ((nI 6) &&& 31)).toInt))) 0).toUInt64 >>> ((nI ((b % 64).toNat)).toInt64.toUInt64 &&& Int64.toUInt64 63)).toInt64) dX0_holds_12 rfl ?_
  refine zz_lconst 13 X.1 (v := 1) dX0_holds_13 (by decide) ?_
  refine zz_land 14 X.1 (v := (((wd (qz (hM hs s0) (64 * ((x1 >>> ((nI 6) &&& 31)).toInt))) 0).toUInt64 >>> ((nI ((b % 64).toNat)).toInt64.toUInt64 &&& Int64.toUInt64 63)).toInt64) &&& 1) dX0_holds_14 rfl ?_
  refine zz_lconst 15 X.1 (v := 0) dX0_holds_15 (by decide) ?_
  refine zz_lcmp 16 X.1 dX0_holds_16 ?_
  refine zz_ifL_eq 17 24 X.1 dX0_holds_17 (by decide) (fun h17 => ?_) (fun h17 => ?_)
  · skip
    refine zz_iconst 24 X.1 (v := nI 0) dX0_holds_24 rfl ?_
    refine zz_topi (bI false) rfl ?_
    rw [← hQ]
    refine zz_iret 25 X.1 hr (bI_nar _) hlk (F, hs, G, T) ?_ (fun _ h _ => h) dX0_holds_25
    refine ⟨congrArg bI ?_, rfl⟩
    first | (exact ((wz_holds (by omega)).mp h17).symm) | (exact (Bool.eq_true_of_not_eq_false (fun z => h17 ((wz_holds (by omega)).mpr z))).symm)
  · skip
    refine zz_iconst 20 X.1 (v := nI 1) dX0_holds_20 rfl ?_
    refine zz_goto 21 25 X.1 dX0_holds_21 (by decide) ?_
    refine zz_topi (bI true) rfl ?_
    rw [← hQ]
    refine zz_iret 25 X.1 hr (bI_nar _) hlk (F, hs, G, T) ?_ (fun _ h _ => h) dX0_holds_25
    refine ⟨congrArg bI ?_, rfl⟩
    first | (exact ((wz_holds (by omega)).mp h17).symm) | (exact (Bool.eq_true_of_not_eq_false (fun z => h17 ((wz_holds (by omega)).mpr z))).symm)
