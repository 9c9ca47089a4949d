abbrev rm_X0_word : Room := { frames := 0, cells := 0, slots := 0, locals := 0 }
theorem yd_X0_word : yX0_word.cls = RX0 ∧ yX0_word.cls ≠ "java/lang/invoke/MethodHandle" ∧ yX0_word.cls ≠ "java/lang/invoke/VarHandle" ∧ (parseMethodDescriptor yX0_word.desc).map (fun d => d.parameters.length) = some 1 := by decide +kernel
set_option maxHeartbeats 4000000 in
set_option maxRecDepth 100000 in
theorem kt_X0_word (l : Launch) (D : va_G) (C : Nat → ClassId) (K : Nat → Nat) (hAp : DAp K) (F : Nat → Int32) (hs : Nat → Bool) (G T : Nat → Nat → Int32) (s0 : Nat) (x1 : Int32) (a : Int) (h_a : x1.toInt = a) (hs0 : s0 < 8) : CMl l yX0_word wsX0_word rm_X0_word D C K (20 + s0) [.int x1] F hs G T (fun (r : Int64) (u : CSt) => r = (wd (qz (hM hs s0) (64 * a)) 0) ∧ u = (F, hs, G, T)) := by
  refine CMl_of (lv := [(0, .ref (K (20 + s0))), (1, .int x1)]) (cc := cX0_word) (maxL := 2) (ret := (some .long)) rfl (by decide +kernel) (Nat.le_of_ble_eq_true rfl) rfl ?_
  intro p e s m args below meth c X hml hr hlk
  generalize hQ : MQ below _ args s 0 0 _ = Q
  refine zz_iload_n 0 X.1 1 dX0_word_0 rfl ?_
  refine zz_if_lt 1 19 X.1 h_a dX0_word_1 (by decide) (fun h1 => ?_) (fun h1 => ?_)
  · skip
    refine zz_lconst 19 X.1 (v := 0) dX0_word_19 (by decide) ?_
    rw [← hQ]
    refine zz_lret 20 X.1 hr hlk (F, hs, G, T) ?_ (fun _ h _ => h) dX0_word_20
    refine ⟨?_, rfl⟩
    first | (rw [← hka]; exact wz_word (by omega)) | (exact wz_out (by omega))
  · skip
    refine zz_iload_n 4 X.1 1 dX0_word_4 rfl ?_
    refine zz_bipush 5 X.1 (v := nI 16) dX0_word_5 rfl ?_
    refine zz_icmp_ge 7 19 X.1 h_a (nI_toInt (by omega)) dX0_word_7 (by decide) (fun h7 => ?_) (fun h7 => ?_)
    · skip
      refine zz_lconst 19 X.1 (v := 0) dX0_word_19 (by decide) ?_
      rw [← hQ]
      refine zz_lret 20 X.1 hr hlk (F, hs, G, T) ?_ (fun _ h _ => h) dX0_word_20
      refine ⟨?_, rfl⟩
      first | (rw [← hka]; exact wz_word (by omega)) | (exact wz_out (by omega))
    · skip
      obtain ⟨kk, rfl, hka, hkb⟩ := zi_ofm h_a (by omega)
      refine zz_aload_n 10 X.1 0 dX0_word_10 rfl ?_
      refine dd_getM 11 X (by decide +kernel) (i := s0) (by omega) (by decide +kernel) dX0_word_11 ?_
      refine zz_iload_n 14 X.1 1 dX0_word_14 rfl ?_
      refine dd_lld 15 X (i := s0) (k := kk) (by omega) (by omega) dX0_word_15 ?_
      refine zz_goto 16 20 X.1 dX0_word_16 (by decide) ?_
      rw [← hQ]
      refine zz_lret 20 X.1 hr hlk (F, hs, G, T) ?_ (fun _ h _ => h) dX0_word_20
      refine ⟨?_, rfl⟩
      first | (rw [← hka]; exact wz_word (by omega)) | (exact wz_out (by omega))

