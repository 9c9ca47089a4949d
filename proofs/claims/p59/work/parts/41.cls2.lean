theorem pp_yes {hs hs1 : Nat → Bool} {s t n : Nat} (hn : 2 ≤ n) (hh : hs1 = sS hs s (pS t n)) : sS hs1 s (pE (hM hs1 s) n t) = sS hs s (pS t (n + 1)) := by
  rw [hh, sS_sS]
  refine sS_cong (fun i hi => ?_)
  rw [← pS_yes hn i]
  unfold pE
  rw [hM_sS hi]
theorem pp_no {hs hs1 : Nat → Bool} {s t n : Nat} (hn : 2 ≤ n) (hn2 : n < 1024) (hnt : n < t) (hh : hs1 = sS hs s (pS t n)) (h : hz (hM hs1 s) (n : Int) = false) : hs1 = sS hs s (pS t (n + 1)) := by
  rw [hz_N, hh, hM_sS hn2] at h
  rw [hh]
  exact sS_cong (fun i hi => pS_no hn hnt (by simpa [hn2] using h) i)
abbrev rm_X0_combined : Room := { frames := 0, cells := 0, slots := 0, locals := 0 }
theorem yd_X0_combined : yX0_combined.cls = RX0 ∧ yX0_combined.cls ≠ "java/lang/invoke/MethodHandle" ∧ yX0_combined.cls ≠ "java/lang/invoke/VarHandle" ∧ (parseMethodDescriptor yX0_combined.desc).map (fun d => d.parameters.length) = some 3 := by decide +kernel
set_option maxHeartbeats 4000000 in
set_option maxRecDepth 100000 in
theorem kt_X0_combined (l : Launch) (qa : Nat → Bool) (qb : Nat → Bool) (k0 : Nat) (sg : Nat) (hsg : sg = 38 ∨ sg = 124 ∨ sg = 126 ∨ sg = 33 ∨ sg = 61) : SMl l yX0_combined wsX0_combined rm_X0_combined [.long (wd qa k0), .long (wd qb k0), .int (nI sg)] (fun (r : Int64) => r = (wd (fun i => pJ sg (qa i) (qb i)) k0)) := by
  refine SMl_of (lv := [(0, .long (wd qa k0)), (2, .long (wd qb k0)), (4, .int (nI sg))]) (cc := cX0_combined) (maxL := 5) (ret := (some .long)) rfl (by decide +kernel) (Nat.le_of_ble_eq_true rfl) rfl ?_
  intro p e s m args below meth c hc hts hown hml hr hlk
  have X : (p.tables.exec = Jvm.exec ∧ c.code = cX0_combined) ∧ True := ⟨hc, trivial⟩
  generalize hQ : MQ below _ args s 0 0 _ = Q
  refine zz_iload 0 X.1 2 dX0_combined_0 rfl ?_
  rcases (show sg = 38 ∨ sg = 124 ∨ sg = 126 ∨ sg = 33 ∨ sg = 61 by omega) with rfl | rfl | rfl | rfl | rfl
  · skip
    refine zz_lookup 2 44 X.1 (off := 42) dX0_combined_2 (by decide) (by decide) (by decide) ?_
    refine zz_lload_n 44 X.1 0 dX0_combined_44 rfl ?_
    refine zz_lload_n 45 X.1 1 dX0_combined_45 rfl ?_
    refine zz_land 46 X.1 (v := wd (fun i => qa i && qb i) k0) dX0_combined_46 wd_and ?_
    rw [← hQ]
    refine zz_lret 47 X.1 hr hlk () ?_ (fun _ _ _ => trivial) dX0_combined_47
    exact wd_cong (fun i _ => by unfold pJ; generalize qa (64 * k0 + i) = u; generalize qb (64 * k0 + i) = v; clear hQ; revert u v; decide)
  · skip
    refine zz_lookup 2 48 X.1 (off := 46) dX0_combined_2 (by decide) (by decide) (by decide) ?_
    refine zz_lload_n 48 X.1 0 dX0_combined_48 rfl ?_
    refine zz_lload_n 49 X.1 1 dX0_combined_49 rfl ?_
    refine zz_lor 50 X.1 (v := wd (fun i => qa i || qb i) k0) dX0_combined_50 wd_or ?_
    rw [← hQ]
    refine zz_lret 51 X.1 hr hlk () ?_ (fun _ _ _ => trivial) dX0_combined_51
    exact wd_cong (fun i _ => by unfold pJ; generalize qa (64 * k0 + i) = u; generalize qb (64 * k0 + i) = v; clear hQ; revert u v; decide)
  · skip
    refine zz_lookup 2 52 X.1 (off := 50) dX0_combined_2 (by decide) (by decide) (by decide) ?_
    refine zz_lload_n 52 X.1 0 dX0_combined_52 rfl ?_
    refine zz_lload_n 53 X.1 1 dX0_combined_53 rfl ?_
    refine zz_lxor 54 X.1 (v := wd (fun i => qa i ^^ qb i) k0) dX0_combined_54 wd_xor ?_
    rw [← hQ]
    refine zz_lret 55 X.1 hr hlk () ?_ (fun _ _ _ => trivial) dX0_combined_55
    exact wd_cong (fun i _ => by unfold pJ; generalize qa (64 * k0 + i) = u; generalize qb (64 * k0 + i) = v; clear hQ; revert u v; decide)
  · skip
    refine zz_lookup 2 56 X.1 (off := 54) dX0_combined_2 (by decide) (by decide) (by decide) ?_
    refine zz_lload_n 56 X.1 0 dX0_combined_56 rfl ?_
    refine zz_lload_n 57 X.1 1 dX0_combined_57 rfl ?_
    refine zz_ldc2 58 X.1 (v := -1) dX0_combined_58 hown (by exact hts _ (by decide +kernel)) ?_
    refine zz_lxor 61 X.1 (v := (wd qb k0) ^^^ (-1 : Int64)) dX0_combined_61 rfl ?_
    refine zz_land 62 X.1 (v := wd (fun i => qa i && !qb i) k0) dX0_combined_62 wd_andn ?_
    rw [← hQ]
    refine zz_lret 63 X.1 hr hlk () ?_ (fun _ _ _ => trivial) dX0_combined_63
    exact wd_cong (fun i _ => by unfold pJ; generalize qa (64 * k0 + i) = u; generalize qb (64 * k0 + i) = v; clear hQ; revert u v; decide)
  · skip
    refine zz_lookup 2 64 X.1 (off := 62) dX0_combined_2 (by decide) (by decide) (by decide) ?_
    refine zz_lload_n 64 X.1 1 dX0_combined_64 rfl ?_
    rw [← hQ]
    refine zz_lret 65 X.1 hr hlk () ?_ (fun _ _ _ => trivial) dX0_combined_65
    exact wd_cong (fun i _ => by unfold pJ; generalize qa (64 * k0 + i) = u; generalize qb (64 * k0 + i) = v; clear hQ; revert u v; decide)
abbrev rm_X0_combineWith : Room := { frames := 1, cells := 0, slots := 0, locals := 24 }
theorem yd_X0_combineWith : yX0_combineWith.cls = RX0 ∧ yX0_combineWith.cls ≠ "java/lang/invoke/MethodHandle" ∧ yX0_combineWith.cls ≠ "java/lang/invoke/VarHandle" ∧ (parseMethodDescriptor yX0_combineWith.desc).map (fun d => d.parameters.length) = some 2 := by decide +kernel
set_option maxHeartbeats 4000000 in
set_option maxRecDepth 100000 in
theorem kt_X0_combineWith (l : Launch) (D : va_G) (C : Nat → ClassId) (K : Nat → Nat) (hAp : DAp K) (F : Nat → Int32) (hs : Nat → Bool) (G T : Nat → Nat → Int32) (s0 : Nat) (o0 : Nat) (sg : Nat) (hs0 : s0 < 8) (ho0 : o0 < 8) (hsg : sg = 38 ∨ sg = 124 ∨ sg = 126 ∨ sg = 33 ∨ sg = 61) : CMv l yX0_combineWith wsX0_combineWith rm_X0_combineWith D C K (20 + s0) [.ref (K (20 + o0)), .int (nI sg)] F hs G T (fun (u : CSt) => u = (F, sS hs s0 (fun i => pJ sg (hM hs s0 i) (hM hs o0 i)), G, T)) := by
  refine CMv_of (lv := [(0, .ref (K (20 + s0))), (1, .ref (K (20 + o0))), (2, .int (nI sg))]) (cc := cX0_combineWith) (maxL := 4) (ret := none) rfl (by decide +kernel) (Nat.le_of_ble_eq_true rfl) rfl ?_
  intro p e s m args below meth c X hml hr hlk
  generalize hQ : MQ below _ args s 0 0 _ = Q
  refine zz_iconst 0 X.1 (v := nI 0) dX0_combineWith_0 rfl ?_
  refine zz_istore_n 1 X.1 (lv' := [(3, .int (nI 0)), (0, .ref (K (20 + s0))), (1, .ref (K (20 + o0))), (2, .int (nI sg))]) dX0_combineWith_1 (by decide) rfl ?_
  have C2 : ∀ (d : Nat) (k : Nat) (hs1 : Nat → Bool) (hk : k ≤ 16) (hh : hs1 = sF hs s0 (fun i => pJ sg (hM hs s0 i) (hM hs o0 i)) (64 * k)) (hd : 16 - k < d), ZZ p l e rm_X0_combineWith s m args below meth c 0 0 Q (zz_A (DAd K) s.heap.size) (DP D C K F (WH hs1) G T) 4 [(0, .ref (K (20 + s0))), (1, .ref (K (20 + o0))), (2, .int (nI sg)), (3, .int (nI k))] [] 2 := by
    intro d
    induction d with
    | zero => intro k hs1 hk hh hd; exact absurd hd (Nat.not_lt_zero _)
    | succ d ih2 =>
      intro k hs1 hk hh hd
      refine zz_iload_n 2 X.1 3 dX0_combineWith_2 rfl ?_
      refine zz_bipush 3 X.1 (v := nI 16) dX0_combineWith_3 rfl ?_
      refine zz_icmp_ge 5 36 X.1 (nI_toInt (by omega)) (nI_toInt (by omega)) dX0_combineWith_5 (by decide) (fun h5 => ?_) (fun h5 => ?_)
      · skip
        refine zz_world (P' := (DP D C K F (WH (sS hs s0 (fun i => pJ sg (hM hs s0 i) (hM hs o0 i)))) G T)) (dp_hs (hh.trans (by rw [show k = 16 by omega]; rfl))) ?_
        rw [← hQ]
        refine zz_vret 36 X.1 hr hlk (F, sS hs s0 (fun i => pJ sg (hM hs s0 i) (hM hs o0 i)), G, T) ?_ (fun _ h _ => h) dX0_combineWith_36
        exact rfl
      · skip
        refine zz_aload_n 8 X.1 0 dX0_combineWith_8 rfl ?_
        refine dd_getM 9 X (by decide +kernel) (i := s0) (by omega) (by decide +kernel) dX0_combineWith_9 ?_
        refine zz_iload_n 12 X.1 3 dX0_combineWith_12 rfl ?_
        refine zz_aload_n 13 X.1 0 dX0_combineWith_13 rfl ?_
        refine dd_getM 14 X (by decide +kernel) (i := s0) (by omega) (by decide +kernel) dX0_combineWith_14 ?_
        refine zz_iload_n 17 X.1 3 dX0_combineWith_17 rfl ?_
        refine dd_lld 18 X (i := s0) (k := k) (by omega) (by omega) dX0_combineWith_18 ?_
        refine zz_aload_n 19 X.1 1 dX0_combineWith_19 rfl ?_
        refine dd_getM 20 X (by decide +kernel) (i := o0) (by omega) (by decide +kernel) dX0_combineWith_20 ?_
        refine zz_iload_n 23 X.1 3 dX0_combineWith_23 rfl ?_
        refine dd_lld 24 X (i := o0) (k := k) (by omega) (by omega) dX0_combineWith_24 ?_
        refine zz_iload_n 25 X.1 2 dX0_combineWith_25 rfl ?_
        refine zz_callS0l 26 ⟨X.1.1, X.1.2, hml, X.2.2.1, X.2.1⟩ (fun q h => Or.inr h) DP_keep (As := [.long (wd (hM hs1 s0) k), .long (wd (hM hs1 o0) k), .int (nI sg)]) (kt_X0_combined l (hM hs1 s0) (hM hs1 o0) k sg (by first | rfl | assumption | omega)) gX0_combineWith_X0_combined rfl ⟨rfl, rfl⟩ yd_X0_combined.2 ⟨Nat.le_of_ble_eq_true rfl, Nat.le_of_ble_eq_true rfl⟩ rfl rfl (Nat.le_of_ble_eq_true rfl) ⟨Nat.zero_le _, Nat.zero_le _⟩ dX0_combineWith_26 ?_
        intro r1 hu1
        obtain rfl := hu1
        refine dd_lst 29 hAp X (i := s0) (k := k) (by omega) (by omega) dX0_combineWith_29 ?_
        refine dd_W (W' := WH (vS hs1 s0 k (fun i => pJ sg (hM hs1 s0 i) (hM hs1 o0 i)))) (vS_W (rfl)) ?_
        refine zz_iinc 30 X.1 3 (v := (nI (k + 1))) (lv' := [(3, .int (nI (k + 1))), (0, .ref (K (20 + s0))), (1, .ref (K (20 + o0))), (2, .int (nI sg))]) dX0_combineWith_30 rfl (nI_add k 1) (by decide) rfl ?_
        refine zz_goto 33 2 X.1 dX0_combineWith_33 (by decide) ?_
        refine zz_lvs [1, 2, 3, 0] rfl ?_
        exact ih2 (k + 1) (vS hs1 s0 k (fun i => pJ sg (hM hs1 s0 i) (hM hs1 o0 i))) (by omega) (st_cmb hh (by omega)) (by omega)
  refine zz_lvs [1, 2, 3, 0] rfl ?_
  exact C2 (16 - 0 + 1) 0 hs (by omega) (sF_0.symm) (Nat.lt_succ_self _)
abbrev rm_X0_becomePart : Room := { frames := 2, cells := 0, slots := 0, locals := 45 }
theorem yd_X0_becomePart : yX0_becomePart.cls = RX0 ∧ yX0_becomePart.cls ≠ "java/lang/invoke/MethodHandle" ∧ yX0_becomePart.cls ≠ "java/lang/invoke/VarHandle" ∧ (parseMethodDescriptor yX0_becomePart.desc).map (fun d => d.parameters.length) = some 3 := by decide +kernel
set_option maxHeartbeats 4000000 in
set_option maxRecDepth 100000 in
theorem kt_X0_becomePart (l : Launch) (D : va_G) (C : Nat → ClassId) (K : Nat → Nat) (hAp : DAp K) (F : Nat → Int32) (hs : Nat → Bool) (G T : Nat → Nat → Int32) (s0 : Nat) (w0 : Nat) (f : Nat) (t : Nat) (hs0 : s0 < 8) (hw0 : w0 < 8) (hft : f ≤ t ∧ t < 2 ^ 31) : CMv l yX0_becomePart wsX0_becomePart rm_X0_becomePart D C K (20 + s0) [.ref (K (20 + w0)), .int (nI f), .int (nI t)] F hs G T (fun (u : CSt) => u = (F, sS hs s0 (pT (hM hs w0) f t), G, T)) := by
  refine CMv_of (lv := [(0, .ref (K (20 + s0))), (1, .ref (K (20 + w0))), (2, .int (nI f)), (3, .int (nI t))]) (cc := cX0_becomePart) (maxL := 6) (ret := none) rfl (by decide +kernel) (Nat.le_of_ble_eq_true rfl) rfl ?_
  intro p e s m args below meth c X hml hr hlk
  generalize hQ : MQ below _ args s 0 0 _ = Q
  refine zz_iload_n 0 X.1 2 dX0_becomePart_0 rfl ?_
  refine zz_sipush 1 X.1 (v := nI 1024) dX0_becomePart_1 rfl ?_
  refine zz_mmin 4 X.1 hml X.2.2.1 ((X.2.1 _ (by decide +kernel))) ((X.2.1 _ (by decide +kernel))) ((X.2.1 _ (by decide +kernel))) ((X.2.1 _ (by decide +kernel))) (Nat.le_of_ble_eq_true rfl) (Nat.le_of_ble_eq_true rfl) (Nat.zero_le _) (Nat.zero_le _) (v := (nI (min f 1024))) dX0_becomePart_4 (zi_of ((zi_min (nI_toInt (by omega)) (nI_toInt (by omega))).trans (by omega))) ?_
  refine zz_istore 7 X.1 (lv' := [(4, .int (nI (min f 1024))), (0, .ref (K (20 + s0))), (1, .ref (K (20 + w0))), (2, .int (nI f)), (3, .int (nI t))]) dX0_becomePart_7 (by decide) rfl ?_
  refine zz_iconst 9 X.1 (v := nI 0) dX0_becomePart_9 rfl ?_
  refine zz_istore 10 X.1 (lv' := [(5, .int (nI 0)), (4, .int (nI (min f 1024))), (0, .ref (K (20 + s0))), (1, .ref (K (20 + w0))), (2, .int (nI f)), (3, .int (nI t))]) dX0_becomePart_10 (by decide) rfl ?_
  have C12 : ∀ (d : Nat) (k : Nat) (hs1 : Nat → Bool) (hk : k ≤ 16) (hh : hs1 = sF hs s0 (pT (hM hs w0) f t) (64 * k)) (hd : 16 - k < d), ZZ p l e rm_X0_becomePart s m args below meth c 0 0 Q (zz_A (DAd K) s.heap.size) (DP D C K F (WH hs1) G T) 6 [(0, .ref (K (20 + s0))), (1, .ref (K (20 + w0))), (2, .int (nI f)), (3, .int (nI t)), (4, .int (nI (min f 1024))), (5, .int (nI k))] [] 12 := by
    intro d
    induction d with
    | zero => intro k hs1 hk hh hd; exact absurd hd (Nat.not_lt_zero _)
    | succ d ih12 =>
      intro k hs1 hk hh hd
      refine zz_iload 12 X.1 5 dX0_becomePart_12 rfl ?_
      refine zz_bipush 14 X.1 (v := nI 16) dX0_becomePart_14 rfl ?_
      refine zz_icmp_ge 16 54 X.1 (nI_toInt (by omega)) (nI_toInt (by omega)) dX0_becomePart_16 (by decide) (fun h16 => ?_) (fun h16 => ?_)
      · skip
        refine zz_world (P' := (DP D C K F (WH (sS hs s0 (pT (hM hs w0) f t))) G T)) (dp_hs (hh.trans (by rw [show k = 16 by omega]; rfl))) ?_
        rw [← hQ]
        refine zz_vret 54 X.1 hr hlk (F, sS hs s0 (pT (hM hs w0) f t), G, T) ?_ (fun _ h _ => h) dX0_becomePart_54
        exact rfl
      · skip
        refine zz_aload_n 19 X.1 0 dX0_becomePart_19 rfl ?_
        refine dd_getM 20 X (by decide +kernel) (i := s0) (by omega) (by decide +kernel) dX0_becomePart_20 ?_
        refine zz_iload 23 X.1 5 dX0_becomePart_23 rfl ?_
        refine zz_aload_n 25 X.1 1 dX0_becomePart_25 rfl ?_
        refine zz_bipush 26 X.1 (v := nI 64) dX0_becomePart_26 rfl ?_
        refine zz_iload 28 X.1 5 dX0_becomePart_28 rfl ?_
        refine zz_imul 30 X.1 (v := (nI (64 * k))) dX0_becomePart_30 (pk_mul _ _) ?_
        refine zz_iload 31 X.1 4 dX0_becomePart_31 rfl ?_
        refine zz_iadd 33 X.1 (v := (nI ((64 * k) + (min f 1024)))) dX0_becomePart_33 (nI_add _ _) ?_
        refine dd_callVl 34 X hml (th := 20 + w0) (As := [.int (nI ((64 * k) + (min f 1024)))]) (kt_X0_wordFrom l D C K hAp F hs1 G T w0 (nI ((64 * k) + (min f 1024))) (((64 * k) + (min f 1024) : Nat) : Int) (nI_toInt (by omega)) (by first | rfl | assumption | omega)) gX0_becomePart_X0_wordFrom rfl ⟨rfl, rfl⟩ (dr_M X (i := w0) (by omega)) yd_X0_wordFrom ⟨Nat.le_of_ble_eq_true rfl, Nat.le_of_ble_eq_true rfl⟩ rfl rfl (Nat.le_of_ble_eq_true rfl) ⟨Nat.zero_le _, Nat.zero_le _⟩ dX0_becomePart_34 ?_
        rintro r1 ⟨F1, hs1, G1, T1⟩ hu1
        obtain ⟨rfl, hv1⟩ := hu1
        cases hv1
        refine zz_world (P' := (DP D C K F (WH hs1) G T)) (fun _ h => h) ?_
        refine zz_iload 37 X.1 5 dX0_becomePart_37 rfl ?_
        refine zz_iconst 39 X.1 (v := nI 0) dX0_becomePart_39 rfl ?_
        refine zz_iload_n 40 X.1 3 dX0_becomePart_40 rfl ?_
        refine zz_iload_n 41 X.1 2 dX0_becomePart_41 rfl ?_
        refine zz_isub 42 X.1 (v := (nI (t - f))) dX0_becomePart_42 (pk_sub (by omega)) ?_
        refine zz_callS0l 43 ⟨X.1.1, X.1.2, hml, X.2.2.1, X.2.1⟩ (fun q h => Or.inr h) DP_keep (As := [.int (nI k), .int (nI 0), .int (nI (t - f))]) (kt_X0_bitsIn l k 0 (t - f) (by first | rfl | assumption | omega) (by first | rfl | assumption | omega)) gX0_becomePart_X0_bitsIn rfl ⟨rfl, rfl⟩ yd_X0_bitsIn.2 ⟨Nat.le_of_ble_eq_true rfl, Nat.le_of_ble_eq_true rfl⟩ rfl rfl (Nat.le_of_ble_eq_true rfl) ⟨Nat.zero_le _, Nat.zero_le _⟩ dX0_becomePart_43 ?_
        intro r2 hu2
        obtain rfl := hu2
        refine zz_land 46 X.1 (v := wd (fun i => qz (hM hs1 w0) ((64 * k + min f 1024 : Nat) : Int) (i - 64 * k) && pI 0 (t - f) i) k) dX0_becomePart_46 wd_qzc ?_
        refine dd_lst 47 hAp X (i := s0) (k := k) (by omega) (by omega) dX0_becomePart_47 ?_
        refine dd_W (W' := WH (vS hs1 s0 k (fun i => qz (hM hs1 w0) ((64 * k + min f 1024 : Nat) : Int) (i - 64 * k) && pI 0 (t - f) i))) (vS_W (rfl)) ?_
        refine zz_iinc 48 X.1 5 (v := (nI (k + 1))) (lv' := [(5, .int (nI (k + 1))), (0, .ref (K (20 + s0))), (1, .ref (K (20 + w0))), (2, .int (nI f)), (3, .int (nI t)), (4, .int (nI (min f 1024)))]) dX0_becomePart_48 rfl (nI_add k 1) (by decide) rfl ?_
        refine zz_goto 51 12 X.1 dX0_becomePart_51 (by decide) ?_
        refine zz_lvs [1, 2, 3, 4, 5, 0] rfl ?_
        exact ih12 (k + 1) (vS hs1 s0 k (fun i => qz (hM hs1 w0) ((64 * k + min f 1024 : Nat) : Int) (i - 64 * k) && pI 0 (t - f) i)) (by omega) (st_part rfl hft.1 hh (by omega)) (by omega)
  refine zz_lvs [2, 3, 4, 5, 1, 0] rfl ?_
  exact C12 (16 - 0 + 1) 0 hs (by omega) (sF_0.symm) (Nat.lt_succ_self _)
abbrev rm_X0_moveUp : Room := { frames := 2, cells := 0, slots := 0, locals := 44 }
theorem yd_X0_moveUp : yX0_moveUp.cls = RX0 ∧ yX0_moveUp.cls ≠ "java/lang/invoke/MethodHandle" ∧ yX0_moveUp.cls ≠ "java/lang/invoke/VarHandle" ∧ (parseMethodDescriptor yX0_moveUp.desc).map (fun d => d.parameters.length) = some 1 := by decide +kernel
set_option maxHeartbeats 4000000 in
set_option maxRecDepth 100000 in
theorem kt_X0_moveUp (l : Launch) (D : va_G) (C : Nat → ClassId) (K : Nat → Nat) (hAp : DAp K) (F : Nat → Int32) (hs : Nat → Bool) (G T : Nat → Nat → Int32) (s0 : Nat) (b0 : Nat) (hs0 : s0 < 8) (hb0 : 0 < b0 ∧ b0 < 1024) : CMv l yX0_moveUp wsX0_moveUp rm_X0_moveUp D C K (20 + s0) [.int (nI b0)] F hs G T (fun (u : CSt) => u = (F, sS hs s0 (pH (hM hs s0) (b0 : Int)), G, T)) := by
  refine CMv_of (lv := [(0, .ref (K (20 + s0))), (1, .int (nI b0))]) (cc := cX0_moveUp) (maxL := 3) (ret := none) rfl (by decide +kernel) (Nat.le_of_ble_eq_true rfl) rfl ?_
  intro p e s m args below meth c X hml hr hlk
  generalize hQ : MQ below _ args s 0 0 _ = Q
  refine zz_bipush 0 X.1 (v := nI 15) dX0_moveUp_0 rfl ?_
  refine zz_istore_n 2 X.1 (lv' := [(2, .int (nI 15)), (0, .ref (K (20 + s0))), (1, .int (nI b0))]) dX0_moveUp_2 (by decide) rfl ?_
  have C3 : ∀ (d : Nat) (j : Nat) (x2 : Int32) (hs1 : Nat → Bool) (hj : j ≤ 16) (hx : x2.toInt = (j : Int) - 1) (hh : hs1 = sU hs s0 (pH (hM hs s0) (b0 : Int)) (64 * j)) (hd : j < d), ZZ p l e rm_X0_moveUp s m args below meth c 0 0 Q (zz_A (DAd K) s.heap.size) (DP D C K F (WH hs1) G T) 3 [(0, .ref (K (20 + s0))), (1, .int (nI b0)), (2, .int x2)] [] 3 := by
    intro d
    induction d with
    | zero => intro j x2 hs1 hj hx hh hd; exact absurd hd (Nat.not_lt_zero _)
    | succ d ih3 =>
      intro j x2 hs1 hj hx hh hd
      refine zz_iload_n 3 X.1 2 dX0_moveUp_3 rfl ?_
      refine zz_if_lt 4 29 X.1 hx dX0_moveUp_4 (by decide) (fun h4 => ?_) (fun h4 => ?_)
      · skip
        refine zz_world (P' := (DP D C K F (WH (sS hs s0 (pH (hM hs s0) (b0 : Int)))) G T)) (dp_hs (hh.trans (by rw [show j = 0 by omega]; exact sU_0))) ?_
        rw [← hQ]
        refine zz_vret 29 X.1 hr hlk (F, sS hs s0 (pH (hM hs s0) (b0 : Int)), G, T) ?_ (fun _ h _ => h) dX0_moveUp_29
        exact rfl
      · skip
        obtain ⟨jj, rfl⟩ : ∃ jj, j = jj + 1 := ⟨j - 1, by omega⟩
        obtain rfl : x2 = nI jj := zi_of (by omega)
        refine zz_aload_n 7 X.1 0 dX0_moveUp_7 rfl ?_
        refine dd_getM 8 X (by decide +kernel) (i := s0) (by omega) (by decide +kernel) dX0_moveUp_8 ?_
        refine zz_iload_n 11 X.1 2 dX0_moveUp_11 rfl ?_
        refine zz_aload_n 12 X.1 0 dX0_moveUp_12 rfl ?_
        refine zz_bipush 13 X.1 (v := nI 64) dX0_moveUp_13 rfl ?_
        refine zz_iload_n 15 X.1 2 dX0_moveUp_15 rfl ?_
        refine zz_imul 16 X.1 (v := (nI (64 * jj))) dX0_moveUp_16 (pk_mul _ _) ?_
        refine zz_iload_n 17 X.1 1 dX0_moveUp_17 rfl ?_
        refine zz_isub 18 X.1 (v := (nI (64 * jj) - nI b0)) dX0_moveUp_18 rfl ?_
        refine dd_callVl 19 X hml (th := 20 + s0) (As := [.int (nI (64 * jj) - nI b0)]) (kt_X0_wordFrom l D C K hAp F hs1 G T s0 (nI (64 * jj) - nI b0) (((64 * jj : Nat) : Int) - ((b0 : Nat) : Int)) ((zi_subN (by omega) (by omega))) (by first | rfl | assumption | omega)) gX0_moveUp_X0_wordFrom rfl ⟨rfl, rfl⟩ (dr_M X (i := s0) (by omega)) yd_X0_wordFrom ⟨Nat.le_of_ble_eq_true rfl, Nat.le_of_ble_eq_true rfl⟩ rfl rfl (Nat.le_of_ble_eq_true rfl) ⟨Nat.zero_le _, Nat.zero_le _⟩ dX0_moveUp_19 ?_
        rintro r1 ⟨F1, hs1, G1, T1⟩ hu1
        obtain ⟨rfl, hv1⟩ := hu1
        cases hv1
        refine zz_world (P' := (DP D C K F (WH hs1) G T)) (fun _ h => h) ?_
        refine dd_lst 22 hAp X (i := s0) (k := jj) (by omega) (by omega) dX0_moveUp_22 ?_
        refine dd_W (W' := WH (vS hs1 s0 jj (fun i => qz (hM hs1 s0) (((64 * jj : Nat) : Int) - ((b0 : Nat) : Int)) (i - 64 * jj)))) (vS_W (wd_qz0)) ?_
        refine zz_iinc 23 X.1 2 (v := (nI jj + (-1))) (lv' := [(2, .int (nI jj + (-1))), (0, .ref (K (20 + s0))), (1, .int (nI b0))]) dX0_moveUp_23 rfl rfl (by decide) rfl ?_
        refine zz_goto 26 3 X.1 dX0_moveUp_26 (by decide) ?_
        refine zz_lvs [1, 2, 0] rfl ?_
        exact ih3 jj (nI jj + (-1)) (vS hs1 s0 jj (fun i => qz (hM hs1 s0) (((64 * jj : Nat) : Int) - ((b0 : Nat) : Int)) (i - 64 * jj))) (by omega) (zi_decN (by omega)) (st_up (by omega) (by omega) hh (by omega)) (by omega)
  refine zz_lvs [1, 2, 0] rfl ?_
  exact C3 (16 + 1) 16 (nI 15) hs (by omega) (by rfl) (sU_top.symm) (Nat.lt_succ_self _)
abbrev rm_X0_excludeMultiples : Room := { frames := 1, cells := 0, slots := 0, locals := 21 }
theorem yd_X0_excludeMultiples : yX0_excludeMultiples.cls = RX0 ∧ yX0_excludeMultiples.cls ≠ "java/lang/invoke/MethodHandle" ∧ yX0_excludeMultiples.cls ≠ "java/lang/invoke/VarHandle" ∧ (parseMethodDescriptor yX0_excludeMultiples.desc).map (fun d => d.parameters.length) = some 2 := by decide +kernel
set_option maxHeartbeats 4000000 in
set_option maxRecDepth 100000 in
theorem kt_X0_excludeMultiples (l : Launch) (D : va_G) (C : Nat → ClassId) (K : Nat → Nat) (hAp : DAp K) (F : Nat → Int32) (hs : Nat → Bool) (G T : Nat → Nat → Int32) (s0 : Nat) (fa : Nat) (t : Nat) (hs0 : s0 < 8) (hfa : 2 ≤ fa ∧ fa ≤ 1024) (ht : t ≤ 1024) : CMv l yX0_excludeMultiples wsX0_excludeMultiples rm_X0_excludeMultiples D C K (20 + s0) [.int (nI fa), .int (nI t)] F hs G T (fun (u : CSt) => u = (F, sS hs s0 (pE (hM hs s0) fa t), G, T)) := by
  refine CMv_of (lv := [(0, .ref (K (20 + s0))), (1, .int (nI fa)), (2, .int (nI t))]) (cc := cX0_excludeMultiples) (maxL := 4) (ret := none) rfl (by decide +kernel) (Nat.le_of_ble_eq_true rfl) rfl ?_
  intro p e s m args below meth c X hml hr hlk
  generalize hQ : MQ below _ args s 0 0 _ = Q
  refine zz_iload_n 0 X.1 1 dX0_excludeMultiples_0 rfl ?_
  refine zz_istore_n 1 X.1 (lv' := [(3, .int (nI fa)), (0, .ref (K (20 + s0))), (1, .int (nI fa)), (2, .int (nI t))]) dX0_excludeMultiples_1 (by decide) rfl ?_
  have C2 : ∀ (d : Nat) (n : Nat) (hs1 : Nat → Bool) (hn : fa = n ∨ (fa < n ∧ (n - 1) * fa < t)) (hn2 : n ≤ 1024) (hh : hs1 = sS hs s0 (pN (hM hs s0) fa n)) (hd : 1025 - n < d), ZZ p l e rm_X0_excludeMultiples s m args below meth c 0 0 Q (zz_A (DAd K) s.heap.size) (DP D C K F (WH hs1) G T) 4 [(0, .ref (K (20 + s0))), (1, .int (nI fa)), (2, .int (nI t)), (3, .int (nI n))] [] 2 := by
    intro d
    induction d with
    | zero => intro n hs1 hn hn2 hh hd; exact absurd hd (Nat.not_lt_zero _)
    | succ d ih2 =>
      intro n hs1 hn hn2 hh hd
      have hmu : n * fa ≤ 1024 * 1024 := Nat.mul_le_mul hn2 hfa.2
      have hm2 : n * 2 ≤ n * fa := Nat.mul_le_mul_left n hfa.1
      refine zz_iload_n 2 X.1 3 dX0_excludeMultiples_2 rfl ?_
      refine zz_sipush 3 X.1 (v := nI 1024) dX0_excludeMultiples_3 rfl ?_
      refine zz_icmp_ge 6 29 X.1 (nI_toInt (by omega)) (nI_toInt (by omega)) dX0_excludeMultiples_6 (by decide) (fun h6 => ?_) (fun h6 => ?_)
      · skip
        refine zz_world (P' := (DP D C K F (WH (sS hs s0 (pE (hM hs s0) fa t))) G T)) (dp_hs (hh.trans (pN_end hfa.1 hn (by omega)))) ?_
        rw [← hQ]
        refine zz_vret 29 X.1 hr hlk (F, sS hs s0 (pE (hM hs s0) fa t), G, T) ?_ (fun _ h _ => h) dX0_excludeMultiples_29
        exact rfl
      · skip
        refine zz_iload_n 9 X.1 3 dX0_excludeMultiples_9 rfl ?_
        refine zz_iload_n 10 X.1 1 dX0_excludeMultiples_10 rfl ?_
        refine zz_imul 11 X.1 (v := (nI (n * fa))) dX0_excludeMultiples_11 (pk_mul _ _) ?_
        refine zz_iload_n 12 X.1 2 dX0_excludeMultiples_12 rfl ?_
        refine zz_icmp_ge 13 29 X.1 (nI_toInt (by omega)) (nI_toInt (by omega)) dX0_excludeMultiples_13 (by decide) (fun h13 => ?_) (fun h13 => ?_)
        · skip
          refine zz_world (P' := (DP D C K F (WH (sS hs s0 (pE (hM hs s0) fa t))) G T)) (dp_hs (hh.trans (pN_end hfa.1 hn (by omega)))) ?_
          rw [← hQ]
          refine zz_vret 29 X.1 hr hlk (F, sS hs s0 (pE (hM hs s0) fa t), G, T) ?_ (fun _ h _ => h) dX0_excludeMultiples_29
          exact rfl
        · skip
          refine zz_aload_n 16 X.1 0 dX0_excludeMultiples_16 rfl ?_
          refine zz_iload_n 17 X.1 3 dX0_excludeMultiples_17 rfl ?_
          refine zz_iload_n 18 X.1 1 dX0_excludeMultiples_18 rfl ?_
          refine zz_imul 19 X.1 (v := (nI (n * fa))) dX0_excludeMultiples_19 (pk_mul _ _) ?_
          refine dd_callVv 20 X hml (th := 20 + s0) (As := [.int (nI (n * fa))]) (kt_X0_excludeOne l D C K hAp F hs1 G T s0 (n * fa) (by first | rfl | assumption | omega) (by first | rfl | assumption | omega)) gX0_excludeMultiples_X0_excludeOne rfl ⟨rfl, rfl⟩ (dr_M X (i := s0) (by omega)) yd_X0_excludeOne ⟨Nat.le_of_ble_eq_true rfl, Nat.le_of_ble_eq_true rfl⟩ rfl rfl (Nat.le_of_ble_eq_true rfl) ⟨Nat.zero_le _, Nat.zero_le _⟩ dX0_excludeMultiples_20 ?_
          rintro ⟨F1, hs1, G1, T1⟩ hu1
          have hv1 := hu1
          cases hv1
          refine zz_world (P' := (DP D C K F (WH (sS hs1 s0 (p1 (hM hs1 s0) (n * fa) false))) G T)) (fun _ h => h) ?_
          refine zz_iinc 23 X.1 3 (v := (nI (n + 1))) (lv' := [(3, .int (nI (n + 1))), (0, .ref (K (20 + s0))), (1, .int (nI fa)), (2, .int (nI t))]) dX0_excludeMultiples_23 rfl (nI_add n 1) (by decide) rfl ?_
          refine zz_goto 26 2 X.1 dX0_excludeMultiples_26 (by decide) ?_
          refine zz_lvs [1, 2, 3, 0] rfl ?_
          exact ih2 (n + 1) (sS hs1 s0 (p1 (hM hs1 s0) (n * fa) false)) (Or.inr ⟨by omega, by rw [Nat.add_sub_cancel]; omega⟩) (by omega) (pN_up hfa.1 (by omega) (by omega) hh) (by omega)
  refine zz_lvs [1, 2, 3, 0] rfl ?_
  exact C2 (1025 - fa + 1) fa hs (by omega) (by omega) (pN_0) (Nat.lt_succ_self _)
abbrev rm_X0_becomePrimes : Room := { frames := 4, cells := 0, slots := 0, locals := 88 }
theorem yd_X0_becomePrimes : yX0_becomePrimes.cls = RX0 ∧ yX0_becomePrimes.cls ≠ "java/lang/invoke/MethodHandle" ∧ yX0_becomePrimes.cls ≠ "java/lang/invoke/VarHandle" ∧ (parseMethodDescriptor yX0_becomePrimes.desc).map (fun d => d.parameters.length) = some 1 := by decide +kernel
set_option maxHeartbeats 4000000 in
set_option maxRecDepth 100000 in
theorem kt_X0_becomePrimes (l : Launch) (D : va_G) (C : Nat → ClassId) (K : Nat → Nat) (hAp : DAp K) (F : Nat → Int32) (hs : Nat → Bool) (G T : Nat → Nat → Int32) (s0 : Nat) (t : Nat) (hs0 : s0 < 8) (ht : t ≤ 1024) : CMv l yX0_becomePrimes wsX0_becomePrimes rm_X0_becomePrimes D C K (20 + s0) [.int (nI t)] F hs G T (fun (u : CSt) => u = (F, sS hs s0 (fun i => decide (i < t) && pr i), G, T)) := by
  refine CMv_of (lv := [(0, .ref (K (20 + s0))), (1, .int (nI t))]) (cc := cX0_becomePrimes) (maxL := 3) (ret := none) rfl (by decide +kernel) (Nat.le_of_ble_eq_true rfl) rfl ?_
  intro p e s m args below meth c X hml hr hlk
  generalize hQ : MQ below _ args s 0 0 _ = Q
  refine zz_aload_n 0 X.1 0 dX0_becomePrimes_0 rfl ?_
  refine dd_callVv 1 X hml (th := 20 + s0) (As := []) (kt_X0_clear l D C K hAp F hs G T s0 (by first | rfl | assumption | omega)) gX0_becomePrimes_X0_clear rfl ⟨rfl, rfl⟩ (dr_M X (i := s0) (by omega)) yd_X0_clear ⟨Nat.le_of_ble_eq_true rfl, Nat.le_of_ble_eq_true rfl⟩ rfl rfl (Nat.le_of_ble_eq_true rfl) ⟨Nat.zero_le _, Nat.zero_le _⟩ dX0_becomePrimes_1 ?_
  rintro ⟨F1, hs1, G1, T1⟩ hu1
  have hv1 := hu1
  cases hv1
  refine zz_world (P' := (DP D C K F (WH (sS hs s0 (fun _ => false))) G T)) (fun _ h => h) ?_
  refine zz_aload_n 4 X.1 0 dX0_becomePrimes_4 rfl ?_
  refine zz_iconst 5 X.1 (v := nI 2) dX0_becomePrimes_5 rfl ?_
  refine zz_iload_n 6 X.1 1 dX0_becomePrimes_6 rfl ?_
  refine dd_callVv 7 X hml (th := 20 + s0) (As := [.int (nI 2), .int (nI t)]) (kt_X0_include l D C K hAp F (sS hs s0 (fun _ => false)) G T s0 2 t (by first | rfl | assumption | omega) (by first | rfl | assumption | omega)) gX0_becomePrimes_X0_include rfl ⟨rfl, rfl⟩ (dr_M X (i := s0) (by omega)) yd_X0_include ⟨Nat.le_of_ble_eq_true rfl, Nat.le_of_ble_eq_true rfl⟩ rfl rfl (Nat.le_of_ble_eq_true rfl) ⟨Nat.zero_le _, Nat.zero_le _⟩ dX0_becomePrimes_7 ?_
  rintro ⟨F2, hs2, G2, T2⟩ hu2
  have hv2 := hu2
  cases hv2
  refine zz_world (P' := (DP D C K F (WH (sS (sS hs s0 (fun _ => false)) s0 (pR (hM (sS hs s0 (fun _ => false)) s0) 2 t true))) G T)) (fun _ h => h) ?_
  refine zz_iconst 10 X.1 (v := nI 2) dX0_becomePrimes_10 rfl ?_
  refine zz_istore_n 11 X.1 (lv' := [(2, .int (nI 2)), (0, .ref (K (20 + s0))), (1, .int (nI t))]) dX0_becomePrimes_11 (by decide) rfl ?_
  have C12 : ∀ (d : Nat) (n : Nat) (hs1 : Nat → Bool) (hn : 2 ≤ n ∧ n ≤ 1025) (hh : hs1 = sS hs s0 (pS t n)) (hd : 1025 - n < d), ZZ p l e rm_X0_becomePrimes s m args below meth c 0 0 Q (zz_A (DAd K) s.heap.size) (DP D C K F (WH hs1) G T) 3 [(0, .ref (K (20 + s0))), (1, .int (nI t)), (2, .int (nI n))] [] 12 := by
    intro d
    induction d with
    | zero => intro n hs1 hn hh hd; exact absurd hd (Nat.not_lt_zero _)
    | succ d ih12 =>
      intro n hs1 hn hh hd
      have hmu : n * n ≤ 1025 * 1025 := Nat.mul_le_mul hn.2 hn.2
      have hm2 : 2 * n ≤ n * n := Nat.mul_le_mul_right n hn.1
      refine zz_iload_n 12 X.1 2 dX0_becomePrimes_12 rfl ?_
      refine zz_sipush 13 X.1 (v := nI 1024) dX0_becomePrimes_13 rfl ?_
      refine zz_icmp_ge 16 46 X.1 (nI_toInt (by omega)) (nI_toInt (by omega)) dX0_becomePrimes_16 (by decide) (fun h16 => ?_) (fun h16 => ?_)
      · skip
        refine zz_world (P' := (DP D C K F (WH (sS hs s0 (fun i => decide (i < t) && pr i))) G T)) (dp_hs (hh.trans (sS_cong (fun i _ => pS_end (by omega) i)))) ?_
        rw [← hQ]
        refine zz_vret 46 X.1 hr hlk (F, sS hs s0 (fun i => decide (i < t) && pr i), G, T) ?_ (fun _ h _ => h) dX0_becomePrimes_46
        exact rfl
      · skip
        refine zz_iload_n 19 X.1 2 dX0_becomePrimes_19 rfl ?_
        refine zz_iload_n 20 X.1 2 dX0_becomePrimes_20 rfl ?_
        refine zz_imul 21 X.1 (v := (nI (n * n))) dX0_becomePrimes_21 (pk_mul _ _) ?_
        refine zz_iload_n 22 X.1 1 dX0_becomePrimes_22 rfl ?_
        refine zz_icmp_ge 23 46 X.1 (nI_toInt (by omega)) (nI_toInt (by omega)) dX0_becomePrimes_23 (by decide) (fun h23 => ?_) (fun h23 => ?_)
        · skip
          refine zz_world (P' := (DP D C K F (WH (sS hs s0 (fun i => decide (i < t) && pr i))) G T)) (dp_hs (hh.trans (sS_cong (fun i _ => pS_end (by omega) i)))) ?_
          rw [← hQ]
          refine zz_vret 46 X.1 hr hlk (F, sS hs s0 (fun i => decide (i < t) && pr i), G, T) ?_ (fun _ h _ => h) dX0_becomePrimes_46
          exact rfl
        · skip
          refine zz_aload_n 26 X.1 0 dX0_becomePrimes_26 rfl ?_
          refine zz_iload_n 27 X.1 2 dX0_becomePrimes_27 rfl ?_
          refine dd_callVi 28 X hml (th := 20 + s0) (As := [.int (nI n)]) (kt_X0_holds l D C K hAp F hs1 G T s0 (nI n) ((n : Nat) : Int) (nI_toInt (by omega)) (by first | rfl | assumption | omega)) gX0_becomePrimes_X0_holds rfl ⟨rfl, rfl⟩ (dr_M X (i := s0) (by omega)) yd_X0_holds ⟨Nat.le_of_ble_eq_true rfl, Nat.le_of_ble_eq_true rfl⟩ rfl rfl (Nat.le_of_ble_eq_true rfl) ⟨Nat.zero_le _, Nat.zero_le _⟩ dX0_becomePrimes_28 ?_
          rintro r3 ⟨F3, hs3, G3, T3⟩ hu3
          obtain ⟨rfl, hv3⟩ := hu3
          cases hv3
          refine zz_world (P' := (DP D C K F (WH hs1) G T)) (fun _ h => h) ?_
          refine zz_ifB_eq 31 40 X.1 dX0_becomePrimes_31 (by decide) (fun h31 => ?_) (fun h31 => ?_)
          · skip
            first | have hz := pp_no (t := t) hn.1 (by omega) (by omega) hh h31 | have hz := pp_yes (t := t) hn.1 hh
            refine zz_iinc 40 X.1 2 (v := (nI (n + 1))) (lv' := [(2, .int (nI (n + 1))), (0, .ref (K (20 + s0))), (1, .int (nI t))]) dX0_becomePrimes_40 rfl (nI_add n 1) (by decide) rfl ?_
            refine zz_goto 43 12 X.1 dX0_becomePrimes_43 (by decide) ?_
            refine zz_lvs [1, 2, 0] rfl ?_
            exact ih12 (n + 1) hs1 (by omega) (hz) (by omega)
          · skip
            refine zz_aload_n 34 X.1 0 dX0_becomePrimes_34 rfl ?_
            refine zz_iload_n 35 X.1 2 dX0_becomePrimes_35 rfl ?_
            refine zz_iload_n 36 X.1 1 dX0_becomePrimes_36 rfl ?_
            refine dd_callVv 37 X hml (th := 20 + s0) (As := [.int (nI n), .int (nI t)]) (kt_X0_excludeMultiples l D C K hAp F hs1 G T s0 n t (by first | rfl | assumption | omega) (by first | rfl | assumption | omega) (by first | rfl | assumption | omega)) gX0_becomePrimes_X0_excludeMultiples rfl ⟨rfl, rfl⟩ (dr_M X (i := s0) (by omega)) yd_X0_excludeMultiples ⟨Nat.le_of_ble_eq_true rfl, Nat.le_of_ble_eq_true rfl⟩ rfl rfl (Nat.le_of_ble_eq_true rfl) ⟨Nat.zero_le _, Nat.zero_le _⟩ dX0_becomePrimes_37 ?_
            rintro ⟨F4, hs4, G4, T4⟩ hu4
            have hv4 := hu4
            cases hv4
            refine zz_world (P' := (DP D C K F (WH (sS hs1 s0 (pE (hM hs1 s0) n t))) G T)) (fun _ h => h) ?_
            first | have hz := pp_no (t := t) hn.1 (by omega) (by omega) hh h31 | have hz := pp_yes (t := t) hn.1 hh
            refine zz_iinc 40 X.1 2 (v := (nI (n + 1))) (lv' := [(2, .int (nI (n + 1))), (0, .ref (K (20 + s0))), (1, .int (nI t))]) dX0_becomePrimes_40 rfl (nI_add n 1) (by decide) rfl ?_
            refine zz_goto 43 12 X.1 dX0_becomePrimes_43 (by decide) ?_
            refine zz_lvs [1, 2, 0] rfl ?_
            exact ih12 (n + 1) (sS hs1 s0 (pE (hM hs1 s0) n t)) (by omega) (hz) (by omega)
  refine zz_lvs [1, 2, 0] rfl ?_
  exact C12 (1025 - 2 + 1) 2 (sS (sS hs s0 (fun _ => false)) s0 (pR (hM (sS hs s0 (fun _ => false)) s0) 2 t true)) (by omega) ((sS_sS.trans (pS_0 (fun i hi => hM_sS hi)))) (Nat.lt_succ_self _)
abbrev rm_X0_becomeWords : Room := { frames := 4, cells := 0, slots := 0, locals := 88 }
theorem yd_X0_becomeWords : yX0_becomeWords.cls = RX0 ∧ yX0_becomeWords.cls ≠ "java/lang/invoke/MethodHandle" ∧ yX0_becomeWords.cls ≠ "java/lang/invoke/VarHandle" ∧ (parseMethodDescriptor yX0_becomeWords.desc).map (fun d => d.parameters.length) = some 3 := by decide +kernel
set_option maxHeartbeats 4000000 in
set_option maxRecDepth 100000 in
theorem kt_X0_becomeWords (l : Launch) (D : va_G) (C : Nat → ClassId) (K : Nat → Nat) (hAp : DAp K) (F : Nat → Int32) (hs : Nat → Bool) (G T : Nat → Nat → Int32) (s0 : Nat) (a0 : Int64) (a1 : Int64) (a2 : Int64) (hs0 : s0 < 8) : CMv l yX0_becomeWords wsX0_becomeWords rm_X0_becomeWords D C K (20 + s0) [.long a0, .long a1, .long a2] F hs G T (fun (u : CSt) => u = (F, sS hs s0 (pW3 a0 a1 a2), G, T)) := by
  refine CMv_of (lv := [(0, .ref (K (20 + s0))), (1, .long a0), (3, .long a1), (5, .long a2)]) (cc := cX0_becomeWords) (maxL := 7) (ret := none) rfl (by decide +kernel) (Nat.le_of_ble_eq_true rfl) rfl ?_
  intro p e s m args below meth c X hml hr hlk
  generalize hQ : MQ below _ args s 0 0 _ = Q
  refine zz_aload_n 0 X.1 0 dX0_becomeWords_0 rfl ?_
  refine dd_callVv 1 X hml (th := 20 + s0) (As := []) (kt_X0_clear l D C K hAp F hs G T s0 (by first | rfl | assumption | omega)) gX0_becomeWords_X0_clear rfl ⟨rfl, rfl⟩ (dr_M X (i := s0) (by omega)) yd_X0_clear ⟨Nat.le_of_ble_eq_true rfl, Nat.le_of_ble_eq_true rfl⟩ rfl rfl (Nat.le_of_ble_eq_true rfl) ⟨Nat.zero_le _, Nat.zero_le _⟩ dX0_becomeWords_1 ?_
  rintro ⟨F1, hs1, G1, T1⟩ hu1
  have hv1 := hu1
  cases hv1
  refine zz_world (P' := (DP D C K F (WH (sS hs s0 (fun _ => false))) G T)) (fun _ h => h) ?_
  refine zz_aload_n 4 X.1 0 dX0_becomeWords_4 rfl ?_
  refine dd_getM 5 X (by decide +kernel) (i := s0) (by omega) (by decide +kernel) dX0_becomeWords_5 ?_
  refine zz_iconst 8 X.1 (v := nI 0) dX0_becomeWords_8 rfl ?_
  refine zz_lload_n 9 X.1 1 dX0_becomeWords_9 rfl ?_
  refine dd_lst 10 hAp X (i := s0) (k := 0) (by omega) (by omega) dX0_becomeWords_10 ?_
  refine dd_W (W' := WH (vS (sS hs s0 (fun _ => false)) s0 0 (fun i => bL a0 i))) (vS_W (wd_bL (k := 0))) ?_
  refine zz_aload_n 11 X.1 0 dX0_becomeWords_11 rfl ?_
  refine dd_getM 12 X (by decide +kernel) (i := s0) (by omega) (by decide +kernel) dX0_becomeWords_12 ?_
  refine zz_iconst 15 X.1 (v := nI 1) dX0_becomeWords_15 rfl ?_
  refine zz_lload_n 16 X.1 2 dX0_becomeWords_16 rfl ?_
  refine dd_lst 17 hAp X (i := s0) (k := 1) (by omega) (by omega) dX0_becomeWords_17 ?_
  refine dd_W (W' := WH (vS (vS (sS hs s0 (fun _ => false)) s0 0 (fun i => bL a0 i)) s0 1 (fun i => bL a1 (i - 64)))) (vS_W (wd_bL (k := 1))) ?_
  refine zz_aload_n 18 X.1 0 dX0_becomeWords_18 rfl ?_
  refine dd_getM 19 X (by decide +kernel) (i := s0) (by omega) (by decide +kernel) dX0_becomeWords_19 ?_
  refine zz_iconst 22 X.1 (v := nI 2) dX0_becomeWords_22 rfl ?_
  refine zz_lload 23 X.1 3 dX0_becomeWords_23 rfl ?_
  refine dd_lst 25 hAp X (i := s0) (k := 2) (by omega) (by omega) dX0_becomeWords_25 ?_
  refine dd_W (W' := WH (vS (vS (vS (sS hs s0 (fun _ => false)) s0 0 (fun i => bL a0 i)) s0 1 (fun i => bL a1 (i - 64))) s0 2 (fun i => bL a2 (i - 128)))) (vS_W (wd_bL (k := 2))) ?_
  refine zz_world (P' := (DP D C K F (WH (sS hs s0 (pW3 a0 a1 a2))) G T)) (dp_hs (st_w3)) ?_
  rw [← hQ]
  refine zz_vret 26 X.1 hr hlk (F, sS hs s0 (pW3 a0 a1 a2), G, T) ?_ (fun _ h _ => h) dX0_becomeWords_26
  exact rfl
