/-! Statements done by the class. -/
theorem fill_up {hs hs1 : Nat → Bool} {s n : Nat} {lv : Nat → Nat} (hh : hs1 = sS hs s (pLv lv n)) (hl : lv n < 1024) : sS hs1 s (p1 (hM hs1 s) (lv n) true) = sS hs s (pLv lv (n + 1)) := (p1_up hl).symm.trans (sF_upL hh hl)
theorem isB_iff {K V : Nat → Nat} {c i : Nat} : isB K V c i = decide (sse K V c i < sfi K V c i) := by
  unfold isB
  refine decide_eq_decide.mpr ?_
  rcases zb_tf (isL K i) with h | h
  · have h1 : K (i + 1) = 61 ∧ K (i + 2) = 91 := of_decide_eq_true h
    have e1 : sfi K V c i = c := by unfold sfi; rw [h]; rfl
    have e2 : sse K V c i = c + slc K i := by unfold sse; rw [h]; rfl
    rw [e1, e2]
    omega
  · have e1 : sfi K V c i = V (i + 2) := by unfold sfi; rw [h]; rfl
    rw [e1]
    refine ⟨fun z => z.2, fun z => ⟨?_, z⟩⟩
    by_cases g : K (i + 1) = 43 ∨ K (i + 1) = 45 ∨ K (i + 1) = 94
    · exact g
    · have e2 : sse K V c i = V (i + 2) := by unfold sse; rw [h, if_neg Bool.false_ne_true, if_neg g]
      rw [e2] at z
      omega
theorem st_bd {K V : Nat → Nat} {c i : Nat} (h : (stR K i).1 = true) (hV2 : ∀ j, K j = 2 → V j < 8) (hV3 : ∀ j, K j = 3 → V j < 1024) : sfi K V c i ≤ c + 1024 ∧ sse K V c i ≤ c + slc K i + 1024 := by
  obtain ⟨h2, hst⟩ := stR_ok h
  rcases hst with ⟨hr, h3, h4⟩ | ⟨hL, hl3⟩ | ⟨hL, hs5, hst2⟩
  · have hL : isL K i = false := isL_f (fun z => by omega)
    have ha := hV3 _ h3
    have e1 : sfi K V c i = V (i + 2) := by unfold sfi; rw [hL]; rfl
    have e2 : sse K V c i = if K (i + 3) = 4 then V (i + 4) else V (i + 2) + 1 := by unfold sse; rw [hL, if_neg Bool.false_ne_true, if_pos hr]
    rw [e1, e2]
    by_cases g : K (i + 3) = 4
    · have := hV3 _ (h4 g)
      rw [if_pos g]; omega
    · rw [if_neg g]; omega
  · have e1 : sfi K V c i = c := by unfold sfi; rw [hL]; rfl
    have e2 : sse K V c i = c + slc K i := by unfold sse; rw [hL]; rfl
    rw [e1, e2]; omega
  · have ha := hV2 _ hst2
    have e1 : sfi K V c i = V (i + 2) := by unfold sfi; rw [hL]; rfl
    have e2 : sse K V c i = V (i + 2) := by unfold sse; rw [hL, if_neg Bool.false_ne_true, if_neg (by omega)]
    rw [e1, e2]; omega
abbrev rm_X1_statements : Room := { frames := 0, cells := 0, slots := 0, locals := 0 }
theorem yd_X1_statements : yX1_statements.cls = RX1 ∧ yX1_statements.cls ≠ "java/lang/invoke/MethodHandle" ∧ yX1_statements.cls ≠ "java/lang/invoke/VarHandle" ∧ (parseMethodDescriptor yX1_statements.desc).map (fun d => d.parameters.length) = some 0 := by decide +kernel
set_option maxHeartbeats 4000000 in
set_option maxRecDepth 100000 in
theorem kt_X1_statements (l : Launch) (D : va_G) (C : Nat → ClassId) (K : Nat → Nat) (hAp : DAp K) (F : Nat → Int32) (hs : Nat → Bool) (G T : Nat → Nat → Int32) (m0 : Nat) (h30 : F 30 = nI m0) : CMi l yX1_statements wsX1_statements rm_X1_statements D C K (4)  [] F hs G T (fun (r : Int32) (u : CSt) => r = (nI m0) ∧ u = (F, hs, G, T)) := by
  refine CMi_of (lv := [(0, .ref (K 4))]) (cc := cX1_statements) (maxL := 1) (ret := (some .int)) rfl (by decide +kernel) (Nat.le_of_ble_eq_true rfl) rfl ?_
  intro p e s m args below meth c X hml hr hlk
  generalize hQ : MQ below _ args s 0 0 _ = Q
  refine zz_aload_n 0 X.1 0 dX1_statements_0 rfl ?_
  refine dd_get4 1 X (by decide +kernel) 3 (by decide) (v := .int (F 30)) rfl (by decide +kernel) rfl dX1_statements_1 ?_
  refine zz_topi (nI m0) (h30) ?_
  rw [← hQ]
  refine zz_iret 4 X.1 hr rfl hlk (F, hs, G, T) ?_ (fun _ h _ => h) dX1_statements_4
  exact ⟨rfl, rfl⟩
abbrev rm_X1_statement : Room := { frames := 0, cells := 0, slots := 0, locals := 0 }
theorem yd_X1_statement : yX1_statement.cls = RX1 ∧ yX1_statement.cls ≠ "java/lang/invoke/MethodHandle" ∧ yX1_statement.cls ≠ "java/lang/invoke/VarHandle" ∧ (parseMethodDescriptor yX1_statement.desc).map (fun d => d.parameters.length) = some 1 := by decide +kernel
set_option maxHeartbeats 4000000 in
set_option maxRecDepth 100000 in
theorem kt_X1_statement (l : Launch) (D : va_G) (C : Nat → ClassId) (K : Nat → Nat) (hAp : DAp K) (F : Nat → Int32) (hs : Nat → Bool) (G T : Nat → Nat → Int32) (u0 : Nat) (hu0 : u0 < 100) : CMr l yX1_statement wsX1_statement rm_X1_statement D C K (4) (100 + u0) [.int (nI u0)] F hs G T (fun (u : CSt) => u = (F, hs, G, T)) := by
  refine CMr_of (lv := [(0, .ref (K 4)), (1, .int (nI u0))]) (cc := cX1_statement) (maxL := 2) (ret := (some (.object "NumberSetDesk$Statement"))) rfl (by decide +kernel) (Nat.le_of_ble_eq_true rfl) rfl ?_
  intro p e s m args below meth c X hml hr hlk
  generalize hQ : MQ below _ args s 0 0 _ = Q
  refine zz_aload_n 0 X.1 0 dX1_statement_0 rfl ?_
  refine dd_get4 1 X (by decide +kernel) 1 (by decide) (v := .ref (K 9)) rfl (by decide +kernel) rfl dX1_statement_1 ?_
  refine zz_iload_n 4 X.1 1 dX1_statement_4 rfl ?_
  refine dd_ald9 5 X (i := u0) (by omega) dX1_statement_5 ?_
  rw [← hQ]
  refine zz_aret 6 X.1 hr (Or.inl ⟨_, rfl⟩) hlk (F, hs, G, T) ?_ (fun _ h _ => ⟨rfl, h⟩) dX1_statement_6
  exact rfl
abbrev rm_X1_fill : Room := { frames := 4, cells := 0, slots := 0, locals := 88 }
theorem yd_X1_fill : yX1_fill.cls = RX1 ∧ yX1_fill.cls ≠ "java/lang/invoke/MethodHandle" ∧ yX1_fill.cls ≠ "java/lang/invoke/VarHandle" ∧ (parseMethodDescriptor yX1_fill.desc).map (fun d => d.parameters.length) = some 3 := by decide +kernel
set_option maxHeartbeats 4000000 in
set_option maxRecDepth 100000 in
theorem kt_X1_fill (l : Launch) (D : va_G) (C : Nat → ClassId) (K : Nat → Nat) (hAp : DAp K) (F : Nat → Int32) (hs : Nat → Bool) (G T : Nat → Nat → Int32) (s0 : Nat) (a0 : Nat) (n0 : Nat) (lv : Nat → Nat) (hs0 : s0 < 8) (han : a0 + n0 ≤ 400) (hlv : ∀ j, j < n0 → G 43 (a0 + j) = nI (lv j) ∧ lv j < 1024) : CMv l yX1_fill wsX1_fill rm_X1_fill D C K (4)  [.ref (K (20 + s0)), .int (nI a0), .int (nI (a0 + n0))] F hs G T (fun (u : CSt) => u = (F, sS hs s0 (pLv lv n0), G, T)) := by
  refine CMv_of (lv := [(0, .ref (K 4)), (1, .ref (K (20 + s0))), (2, .int (nI a0)), (3, .int (nI (a0 + n0)))]) (cc := cX1_fill) (maxL := 5) (ret := none) rfl (by decide +kernel) (Nat.le_of_ble_eq_true rfl) rfl ?_
  intro p e s m args below meth c X hml hr hlk
  generalize hQ : MQ below _ args s 0 0 _ = Q
  refine zz_aload_n 0 X.1 1 dX1_fill_0 rfl ?_
  refine dd_callVv 1 X hml (th := 20 + s0) (As := []) (kt_X0_clear l D C K hAp F hs G T s0 (by first | rfl | assumption | omega)) gX1_fill_X0_clear rfl ⟨rfl, rfl⟩ (dr_M X (i := s0) (by omega)) yd_X0_clear ⟨Nat.le_of_ble_eq_true rfl, Nat.le_of_ble_eq_true rfl⟩ rfl rfl (Nat.le_of_ble_eq_true rfl) ⟨Nat.zero_le _, Nat.zero_le _⟩ dX1_fill_1 ?_
  rintro ⟨F1, hs1, G1, T1⟩ hu1
  have hv1 := hu1
  cases hv1
  refine zz_world (P' := (DP D C K F (WH (sS hs s0 (fun _ => false))) G T)) (fun _ h => h) ?_
  refine zz_iload_n 4 X.1 2 dX1_fill_4 rfl ?_
  refine zz_istore 5 X.1 (lv' := [(4, .int (nI a0)), (0, .ref (K 4)), (1, .ref (K (20 + s0))), (2, .int (nI a0)), (3, .int (nI (a0 + n0)))]) dX1_fill_5 (by decide) rfl ?_
  have C7 : ∀ (d : Nat) (ii : Nat) (hs1 : Nat → Bool) (hii : ii ≤ n0) (hh : hs1 = sS hs s0 (pLv lv ii)) (hd : n0 - ii < d), ZZ p l e rm_X1_fill s m args below meth c 0 0 Q (zz_A (DAd K) s.heap.size) (DP D C K F (WH hs1) G T) 5 [(0, .ref (K 4)), (1, .ref (K (20 + s0))), (3, .int (nI (a0 + n0))), (4, .int (nI (a0 + ii)))] [] 7 := by
    intro d
    induction d with
    | zero => intro ii hs1 hii hh hd; exact absurd hd (Nat.not_lt_zero _)
    | succ d ih7 =>
      intro ii hs1 hii hh hd
      refine zz_iload 7 X.1 3 dX1_fill_7 rfl ?_
      refine zz_iload_n 9 X.1 2 dX1_fill_9 rfl ?_
      refine zz_icmp_ge 10 38 X.1 (nI_toInt (by omega)) (nI_toInt (by omega)) dX1_fill_10 (by decide) (fun h10 => ?_) (fun h10 => ?_)
      · skip
        refine zz_world (P' := (DP D C K F (WH (sS hs s0 (pLv lv n0))) G T)) (dp_hs (hh.trans (by rw [show ii = n0 by omega]))) ?_
        rw [← hQ]
        refine zz_vret 38 X.1 hr hlk (F, sS hs s0 (pLv lv n0), G, T) ?_ (fun _ h _ => h) dX1_fill_38
        exact rfl
      · skip
        refine zz_iload 13 X.1 3 dX1_fill_13 rfl ?_
        refine zz_sipush 15 X.1 (v := nI 400) dX1_fill_15 rfl ?_
        refine zz_icmp_ge 18 38 X.1 (nI_toInt (by omega)) (nI_toInt (by omega)) dX1_fill_18 (by decide) (fun h18 => ?_) (fun h18 => ?_)
        · exfalso; omega
        · skip
          refine zz_aload_n 21 X.1 1 dX1_fill_21 rfl ?_
          have hlvi := (hlv ii (by omega)).2
          refine zz_aload_n 22 X.1 0 dX1_fill_22 rfl ?_
          refine dd_get4 23 X (by decide +kernel) 2 (by decide) (v := .ref (K 10)) rfl (by decide +kernel) rfl dX1_fill_23 ?_
          refine zz_iload 26 X.1 3 dX1_fill_26 rfl ?_
          refine dd_iald 28 X 10 10 (by decide) (len := 400) (f := G 43) rfl (by omega) (by decide) dX1_fill_28 ?_
          refine zz_topi (nI (lv ii)) ((hlv ii (by omega)).1) ?_
          refine dd_callVv 29 X hml (th := 20 + s0) (As := [.int (nI (lv ii))]) (kt_X0_includeOne l D C K hAp F hs1 G T s0 (lv ii) (by first | rfl | assumption | omega) (by first | rfl | assumption | omega)) gX1_fill_X0_includeOne rfl ⟨rfl, rfl⟩ (dr_M X (i := s0) (by omega)) yd_X0_includeOne ⟨Nat.le_of_ble_eq_true rfl, Nat.le_of_ble_eq_true rfl⟩ rfl rfl (Nat.le_of_ble_eq_true rfl) ⟨Nat.zero_le _, Nat.zero_le _⟩ dX1_fill_29 ?_
          rintro ⟨F2, hs2, G2, T2⟩ hu2
          have hv2 := hu2
          cases hv2
          refine zz_world (P' := (DP D C K F (WH (sS hs1 s0 (p1 (hM hs1 s0) (lv ii) true))) G T)) (fun _ h => h) ?_
          refine zz_iinc 32 X.1 3 (v := (nI ((a0 + ii) + 1))) (lv' := [(4, .int (nI ((a0 + ii) + 1))), (0, .ref (K 4)), (1, .ref (K (20 + s0))), (3, .int (nI (a0 + n0)))]) dX1_fill_32 rfl (nI_add (a0 + ii) 1) (by decide) rfl ?_
          refine zz_goto 35 7 X.1 dX1_fill_35 (by decide) ?_
          refine zz_lvs [1, 2, 3, 0] rfl ?_
          exact ih7 (ii + 1) (sS hs1 s0 (p1 (hM hs1 s0) (lv ii) true)) (by omega) (fill_up hh (hlv ii (by omega)).2) (by omega)
  refine zz_lvs [1, 2, 4, 0] rfl ?_
  exact C7 (n0 - 0 + 1) 0 (sS hs s0 (fun _ => false)) (by omega) (rfl) (Nat.lt_succ_self _)
abbrev rm_X6_doStatement : Room := { frames := 5, cells := 0, slots := 0, locals := 112 }
theorem yd_X6_doStatement : yX6_doStatement.cls = RX6 ∧ yX6_doStatement.cls ≠ "java/lang/invoke/MethodHandle" ∧ yX6_doStatement.cls ≠ "java/lang/invoke/VarHandle" ∧ (parseMethodDescriptor yX6_doStatement.desc).map (fun d => d.parameters.length) = some 1 := by decide +kernel
set_option maxHeartbeats 4000000 in
set_option maxRecDepth 100000 in
theorem kt_X6_doStatement_43 (l : Launch) (D : va_G) (C : Nat → ClassId) (K : Nat → Nat) (hAp : DAp K) (F : Nat → Int32) (hs : Nat → Bool) (G T : Nat → Nat → Int32) (u0 : Nat) (s0 : Nat) (f0 : Nat) (t0 : Nat) (hu0 : u0 < 100) (hs0 : s0 < 8) (hT0 : T u0 0 = nI s0) (hT1 : T u0 1 = nI 43) (hT2 : T u0 2 = nI f0) (hT3 : T u0 3 = nI t0) (hft : f0 < 2 ^ 31 ∧ t0 < 2 ^ 31) : CMv l yX6_doStatement wsX6_doStatement rm_X6_doStatement D C K (0)  [.ref (K (100 + u0))] F hs G T (fun (u : CSt) => u = (F, sS hs s0 (pR (hM hs s0) f0 t0 true), G, T)) := by
  refine CMv_of (lv := [(0, .ref (K 0)), (1, .ref (K (100 + u0)))]) (cc := cX6_doStatement) (maxL := 3) (ret := none) rfl (by decide +kernel) (Nat.le_of_ble_eq_true rfl) rfl ?_
  intro p e s m args below meth c X hml hr hlk
  generalize hQ : MQ below _ args s 0 0 _ = Q
  refine zz_aload_n 0 X.1 0 dX6_doStatement_0 rfl ?_
  refine zz_aload_n 1 X.1 1 dX6_doStatement_1 rfl ?_
  refine dd_getS 2 X (by decide +kernel) (i := u0) (by omega) 0 (by decide) (v := .int (T u0 0)) rfl (by decide +kernel) rfl dX6_doStatement_2 ?_
  refine zz_topi (nI s0) (hT0) ?_
  refine dd_callVr 5 X hml (th := 0) (As := [.int (nI s0)]) (kt_X6_setOf l D C K hAp F hs G T s0 (by first | rfl | assumption | omega)) gX6_doStatement_X6_setOf rfl ⟨rfl, rfl⟩ (dr_0 X) yd_X6_setOf ⟨Nat.le_of_ble_eq_true rfl, Nat.le_of_ble_eq_true rfl⟩ rfl rfl (Nat.le_of_ble_eq_true rfl) ⟨Nat.zero_le _, Nat.zero_le _⟩ dX6_doStatement_5 ?_
  rintro ⟨F1, hs1, G1, T1⟩ hu1
  have hv1 := hu1
  cases hv1
  refine zz_world (P' := (DP D C K F (WH hs) G T)) (fun _ h => h) ?_
  refine zz_astore_n 8 X.1 (lv' := [(2, .ref (K (20 + s0))), (0, .ref (K 0)), (1, .ref (K (100 + u0)))]) dX6_doStatement_8 (by decide) rfl ?_
  refine zz_aload_n 9 X.1 2 dX6_doStatement_9 rfl ?_
  refine dd_getS 10 X (by decide +kernel) (i := u0) (by omega) 1 (by decide) (v := .int (T u0 1)) rfl (by decide +kernel) rfl dX6_doStatement_10 ?_
  refine zz_topi (nI 43) (hT1) ?_
  refine zz_lookup 13 56 X.1 (off := 43) dX6_doStatement_13 (by decide) (by decide) (by decide) ?_
  refine zz_aload_n 56 X.1 0 dX6_doStatement_56 rfl ?_
  refine zz_aload_n 57 X.1 2 dX6_doStatement_57 rfl ?_
  refine dd_getS 58 X (by decide +kernel) (i := u0) (by omega) 2 (by decide) (v := .int (T u0 2)) rfl (by decide +kernel) rfl dX6_doStatement_58 ?_
  refine zz_topi (nI f0) (hT2) ?_
  refine zz_aload_n 61 X.1 2 dX6_doStatement_61 rfl ?_
  refine dd_getS 62 X (by decide +kernel) (i := u0) (by omega) 3 (by decide) (v := .int (T u0 3)) rfl (by decide +kernel) rfl dX6_doStatement_62 ?_
  refine zz_topi (nI t0) (hT3) ?_
  refine dd_callVv 65 X hml (th := 20 + s0) (As := [.int (nI f0), .int (nI t0)]) (kt_X0_include l D C K hAp F hs G T s0 f0 t0 (by first | rfl | assumption | omega) (by first | rfl | assumption | omega)) gX6_doStatement_X0_include rfl ⟨rfl, rfl⟩ (dr_M X (i := s0) (by omega)) yd_X0_include ⟨Nat.le_of_ble_eq_true rfl, Nat.le_of_ble_eq_true rfl⟩ rfl rfl (Nat.le_of_ble_eq_true rfl) ⟨Nat.zero_le _, Nat.zero_le _⟩ dX6_doStatement_65 ?_
  rintro ⟨F2, hs2, G2, T2⟩ hu2
  have hv2 := hu2
  cases hv2
  refine zz_world (P' := (DP D C K F (WH (sS hs s0 (pR (hM hs s0) f0 t0 true))) G T)) (fun _ h => h) ?_
  refine zz_goto 68 136 X.1 dX6_doStatement_68 (by decide) ?_
  rw [← hQ]
  refine zz_vret 136 X.1 hr hlk (F, sS hs s0 (pR (hM hs s0) f0 t0 true), G, T) ?_ (fun _ h _ => h) dX6_doStatement_136
  exact rfl
set_option maxHeartbeats 4000000 in
set_option maxRecDepth 100000 in
theorem kt_X6_doStatement_45 (l : Launch) (D : va_G) (C : Nat → ClassId) (K : Nat → Nat) (hAp : DAp K) (F : Nat → Int32) (hs : Nat → Bool) (G T : Nat → Nat → Int32) (u0 : Nat) (s0 : Nat) (f0 : Nat) (t0 : Nat) (hu0 : u0 < 100) (hs0 : s0 < 8) (hT0 : T u0 0 = nI s0) (hT1 : T u0 1 = nI 45) (hT2 : T u0 2 = nI f0) (hT3 : T u0 3 = nI t0) (hft : f0 < 2 ^ 31 ∧ t0 < 2 ^ 31) : CMv l yX6_doStatement wsX6_doStatement rm_X6_doStatement D C K (0)  [.ref (K (100 + u0))] F hs G T (fun (u : CSt) => u = (F, sS hs s0 (pR (hM hs s0) f0 t0 false), G, T)) := by
  refine CMv_of (lv := [(0, .ref (K 0)), (1, .ref (K (100 + u0)))]) (cc := cX6_doStatement) (maxL := 3) (ret := none) rfl (by decide +kernel) (Nat.le_of_ble_eq_true rfl) rfl ?_
  intro p e s m args below meth c X hml hr hlk
  generalize hQ : MQ below _ args s 0 0 _ = Q
  refine zz_aload_n 0 X.1 0 dX6_doStatement_0 rfl ?_
  refine zz_aload_n 1 X.1 1 dX6_doStatement_1 rfl ?_
  refine dd_getS 2 X (by decide +kernel) (i := u0) (by omega) 0 (by decide) (v := .int (T u0 0)) rfl (by decide +kernel) rfl dX6_doStatement_2 ?_
  refine zz_topi (nI s0) (hT0) ?_
  refine dd_callVr 5 X hml (th := 0) (As := [.int (nI s0)]) (kt_X6_setOf l D C K hAp F hs G T s0 (by first | rfl | assumption | omega)) gX6_doStatement_X6_setOf rfl ⟨rfl, rfl⟩ (dr_0 X) yd_X6_setOf ⟨Nat.le_of_ble_eq_true rfl, Nat.le_of_ble_eq_true rfl⟩ rfl rfl (Nat.le_of_ble_eq_true rfl) ⟨Nat.zero_le _, Nat.zero_le _⟩ dX6_doStatement_5 ?_
  rintro ⟨F1, hs1, G1, T1⟩ hu1
  have hv1 := hu1
  cases hv1
  refine zz_world (P' := (DP D C K F (WH hs) G T)) (fun _ h => h) ?_
  refine zz_astore_n 8 X.1 (lv' := [(2, .ref (K (20 + s0))), (0, .ref (K 0)), (1, .ref (K (100 + u0)))]) dX6_doStatement_8 (by decide) rfl ?_
  refine zz_aload_n 9 X.1 2 dX6_doStatement_9 rfl ?_
  refine dd_getS 10 X (by decide +kernel) (i := u0) (by omega) 1 (by decide) (v := .int (T u0 1)) rfl (by decide +kernel) rfl dX6_doStatement_10 ?_
  refine zz_topi (nI 45) (hT1) ?_
  refine zz_lookup 13 71 X.1 (off := 58) dX6_doStatement_13 (by decide) (by decide) (by decide) ?_
  refine zz_aload_n 71 X.1 0 dX6_doStatement_71 rfl ?_
  refine zz_aload_n 72 X.1 2 dX6_doStatement_72 rfl ?_
  refine dd_getS 73 X (by decide +kernel) (i := u0) (by omega) 2 (by decide) (v := .int (T u0 2)) rfl (by decide +kernel) rfl dX6_doStatement_73 ?_
  refine zz_topi (nI f0) (hT2) ?_
  refine zz_aload_n 76 X.1 2 dX6_doStatement_76 rfl ?_
  refine dd_getS 77 X (by decide +kernel) (i := u0) (by omega) 3 (by decide) (v := .int (T u0 3)) rfl (by decide +kernel) rfl dX6_doStatement_77 ?_
  refine zz_topi (nI t0) (hT3) ?_
  refine dd_callVv 80 X hml (th := 20 + s0) (As := [.int (nI f0), .int (nI t0)]) (kt_X0_exclude l D C K hAp F hs G T s0 f0 t0 (by first | rfl | assumption | omega) (by first | rfl | assumption | omega)) gX6_doStatement_X0_exclude rfl ⟨rfl, rfl⟩ (dr_M X (i := s0) (by omega)) yd_X0_exclude ⟨Nat.le_of_ble_eq_true rfl, Nat.le_of_ble_eq_true rfl⟩ rfl rfl (Nat.le_of_ble_eq_true rfl) ⟨Nat.zero_le _, Nat.zero_le _⟩ dX6_doStatement_80 ?_
  rintro ⟨F2, hs2, G2, T2⟩ hu2
  have hv2 := hu2
  cases hv2
  refine zz_world (P' := (DP D C K F (WH (sS hs s0 (pR (hM hs s0) f0 t0 false))) G T)) (fun _ h => h) ?_
  refine zz_goto 83 136 X.1 dX6_doStatement_83 (by decide) ?_
  rw [← hQ]
  refine zz_vret 136 X.1 hr hlk (F, sS hs s0 (pR (hM hs s0) f0 t0 false), G, T) ?_ (fun _ h _ => h) dX6_doStatement_136
  exact rfl
set_option maxHeartbeats 4000000 in
set_option maxRecDepth 100000 in
theorem kt_X6_doStatement_94 (l : Launch) (D : va_G) (C : Nat → ClassId) (K : Nat → Nat) (hAp : DAp K) (F : Nat → Int32) (hs : Nat → Bool) (G T : Nat → Nat → Int32) (u0 : Nat) (s0 : Nat) (f0 : Nat) (t0 : Nat) (hu0 : u0 < 100) (hs0 : s0 < 8) (hT0 : T u0 0 = nI s0) (hT1 : T u0 1 = nI 94) (hT2 : T u0 2 = nI f0) (hT3 : T u0 3 = nI t0) (hft : f0 < 2 ^ 31 ∧ t0 < 2 ^ 31) : CMv l yX6_doStatement wsX6_doStatement rm_X6_doStatement D C K (0)  [.ref (K (100 + u0))] F hs G T (fun (u : CSt) => u = (F, sS hs s0 (pX (hM hs s0) f0 t0), G, T)) := by
  refine CMv_of (lv := [(0, .ref (K 0)), (1, .ref (K (100 + u0)))]) (cc := cX6_doStatement) (maxL := 3) (ret := none) rfl (by decide +kernel) (Nat.le_of_ble_eq_true rfl) rfl ?_
  intro p e s m args below meth c X hml hr hlk
  generalize hQ : MQ below _ args s 0 0 _ = Q
  refine zz_aload_n 0 X.1 0 dX6_doStatement_0 rfl ?_
  refine zz_aload_n 1 X.1 1 dX6_doStatement_1 rfl ?_
  refine dd_getS 2 X (by decide +kernel) (i := u0) (by omega) 0 (by decide) (v := .int (T u0 0)) rfl (by decide +kernel) rfl dX6_doStatement_2 ?_
  refine zz_topi (nI s0) (hT0) ?_
  refine dd_callVr 5 X hml (th := 0) (As := [.int (nI s0)]) (kt_X6_setOf l D C K hAp F hs G T s0 (by first | rfl | assumption | omega)) gX6_doStatement_X6_setOf rfl ⟨rfl, rfl⟩ (dr_0 X) yd_X6_setOf ⟨Nat.le_of_ble_eq_true rfl, Nat.le_of_ble_eq_true rfl⟩ rfl rfl (Nat.le_of_ble_eq_true rfl) ⟨Nat.zero_le _, Nat.zero_le _⟩ dX6_doStatement_5 ?_
  rintro ⟨F1, hs1, G1, T1⟩ hu1
  have hv1 := hu1
  cases hv1
  refine zz_world (P' := (DP D C K F (WH hs) G T)) (fun _ h => h) ?_
  refine zz_astore_n 8 X.1 (lv' := [(2, .ref (K (20 + s0))), (0, .ref (K 0)), (1, .ref (K (100 + u0)))]) dX6_doStatement_8 (by decide) rfl ?_
  refine zz_aload_n 9 X.1 2 dX6_doStatement_9 rfl ?_
  refine dd_getS 10 X (by decide +kernel) (i := u0) (by omega) 1 (by decide) (v := .int (T u0 1)) rfl (by decide +kernel) rfl dX6_doStatement_10 ?_
  refine zz_topi (nI 94) (hT1) ?_
  refine zz_lookup 13 86 X.1 (off := 73) dX6_doStatement_13 (by decide) (by decide) (by decide) ?_
  refine zz_aload_n 86 X.1 0 dX6_doStatement_86 rfl ?_
  refine zz_aload_n 87 X.1 2 dX6_doStatement_87 rfl ?_
  refine dd_getS 88 X (by decide +kernel) (i := u0) (by omega) 2 (by decide) (v := .int (T u0 2)) rfl (by decide +kernel) rfl dX6_doStatement_88 ?_
  refine zz_topi (nI f0) (hT2) ?_
  refine zz_aload_n 91 X.1 2 dX6_doStatement_91 rfl ?_
  refine dd_getS 92 X (by decide +kernel) (i := u0) (by omega) 3 (by decide) (v := .int (T u0 3)) rfl (by decide +kernel) rfl dX6_doStatement_92 ?_
  refine zz_topi (nI t0) (hT3) ?_
  refine dd_callVv 95 X hml (th := 20 + s0) (As := [.int (nI f0), .int (nI t0)]) (kt_X0_toggle l D C K hAp F hs G T s0 f0 t0 (by first | rfl | assumption | omega) (by first | rfl | assumption | omega)) gX6_doStatement_X0_toggle rfl ⟨rfl, rfl⟩ (dr_M X (i := s0) (by omega)) yd_X0_toggle ⟨Nat.le_of_ble_eq_true rfl, Nat.le_of_ble_eq_true rfl⟩ rfl rfl (Nat.le_of_ble_eq_true rfl) ⟨Nat.zero_le _, Nat.zero_le _⟩ dX6_doStatement_95 ?_
  rintro ⟨F2, hs2, G2, T2⟩ hu2
  have hv2 := hu2
  cases hv2
  refine zz_world (P' := (DP D C K F (WH (sS hs s0 (pX (hM hs s0) f0 t0))) G T)) (fun _ h => h) ?_
  refine zz_goto 98 136 X.1 dX6_doStatement_98 (by decide) ?_
  rw [← hQ]
  refine zz_vret 136 X.1 hr hlk (F, sS hs s0 (pX (hM hs s0) f0 t0), G, T) ?_ (fun _ h _ => h) dX6_doStatement_136
  exact rfl
set_option maxHeartbeats 4000000 in
set_option maxRecDepth 100000 in
theorem kt_X6_doStatement_91 (l : Launch) (D : va_G) (C : Nat → ClassId) (K : Nat → Nat) (hAp : DAp K) (F : Nat → Int32) (hs : Nat → Bool) (G T : Nat → Nat → Int32) (u0 : Nat) (s0 : Nat) (f0 : Nat) (n0 : Nat) (lv : Nat → Nat) (hu0 : u0 < 100) (hs0 : s0 < 8) (hT0 : T u0 0 = nI s0) (hT1 : T u0 1 = nI 91) (hT2 : T u0 2 = nI f0) (hT3 : T u0 3 = nI (f0 + n0)) (han : f0 + n0 ≤ 400) (hlv : ∀ j, j < n0 → G 43 (f0 + j) = nI (lv j) ∧ lv j < 1024) : CMv l yX6_doStatement wsX6_doStatement rm_X6_doStatement D C K (0)  [.ref (K (100 + u0))] F hs G T (fun (u : CSt) => u = (F, sS hs s0 (pLv lv n0), G, T)) := by
  refine CMv_of (lv := [(0, .ref (K 0)), (1, .ref (K (100 + u0)))]) (cc := cX6_doStatement) (maxL := 3) (ret := none) rfl (by decide +kernel) (Nat.le_of_ble_eq_true rfl) rfl ?_
  intro p e s m args below meth c X hml hr hlk
  generalize hQ : MQ below _ args s 0 0 _ = Q
  refine zz_aload_n 0 X.1 0 dX6_doStatement_0 rfl ?_
  refine zz_aload_n 1 X.1 1 dX6_doStatement_1 rfl ?_
  refine dd_getS 2 X (by decide +kernel) (i := u0) (by omega) 0 (by decide) (v := .int (T u0 0)) rfl (by decide +kernel) rfl dX6_doStatement_2 ?_
  refine zz_topi (nI s0) (hT0) ?_
  refine dd_callVr 5 X hml (th := 0) (As := [.int (nI s0)]) (kt_X6_setOf l D C K hAp F hs G T s0 (by first | rfl | assumption | omega)) gX6_doStatement_X6_setOf rfl ⟨rfl, rfl⟩ (dr_0 X) yd_X6_setOf ⟨Nat.le_of_ble_eq_true rfl, Nat.le_of_ble_eq_true rfl⟩ rfl rfl (Nat.le_of_ble_eq_true rfl) ⟨Nat.zero_le _, Nat.zero_le _⟩ dX6_doStatement_5 ?_
  rintro ⟨F1, hs1, G1, T1⟩ hu1
  have hv1 := hu1
  cases hv1
  refine zz_world (P' := (DP D C K F (WH hs) G T)) (fun _ h => h) ?_
  refine zz_astore_n 8 X.1 (lv' := [(2, .ref (K (20 + s0))), (0, .ref (K 0)), (1, .ref (K (100 + u0)))]) dX6_doStatement_8 (by decide) rfl ?_
  refine zz_aload_n 9 X.1 2 dX6_doStatement_9 rfl ?_
  refine dd_getS 10 X (by decide +kernel) (i := u0) (by omega) 1 (by decide) (v := .int (T u0 1)) rfl (by decide +kernel) rfl dX6_doStatement_10 ?_
  refine zz_topi (nI 91) (hT1) ?_
  refine zz_lookup 13 101 X.1 (off := 88) dX6_doStatement_13 (by decide) (by decide) (by decide) ?_
  refine zz_aload_n 101 X.1 1 dX6_doStatement_101 rfl ?_
  refine dd_get0 102 X (by decide +kernel) 2 (by decide) (v := .ref (K 4)) rfl (by decide +kernel) rfl dX6_doStatement_102 ?_
  refine zz_aload_n 105 X.1 0 dX6_doStatement_105 rfl ?_
  refine zz_aload_n 106 X.1 2 dX6_doStatement_106 rfl ?_
  refine dd_getS 107 X (by decide +kernel) (i := u0) (by omega) 2 (by decide) (v := .int (T u0 2)) rfl (by decide +kernel) rfl dX6_doStatement_107 ?_
  refine zz_topi (nI f0) (hT2) ?_
  refine zz_aload_n 110 X.1 2 dX6_doStatement_110 rfl ?_
  refine dd_getS 111 X (by decide +kernel) (i := u0) (by omega) 3 (by decide) (v := .int (T u0 3)) rfl (by decide +kernel) rfl dX6_doStatement_111 ?_
  refine zz_topi (nI (f0 + n0)) (hT3) ?_
  refine dd_callVv 114 X hml (th := 4) (As := [.ref (K (20 + s0)), .int (nI f0), .int (nI (f0 + n0))]) (kt_X1_fill l D C K hAp F hs G T s0 f0 n0 lv (by first | rfl | assumption | omega) (by first | rfl | assumption | omega) (by first | rfl | assumption | omega)) gX6_doStatement_X1_fill rfl ⟨rfl, rfl⟩ (dr_4 X) yd_X1_fill ⟨Nat.le_of_ble_eq_true rfl, Nat.le_of_ble_eq_true rfl⟩ rfl rfl (Nat.le_of_ble_eq_true rfl) ⟨Nat.zero_le _, Nat.zero_le _⟩ dX6_doStatement_114 ?_
  rintro ⟨F2, hs2, G2, T2⟩ hu2
  have hv2 := hu2
  cases hv2
  refine zz_world (P' := (DP D C K F (WH (sS hs s0 (pLv lv n0))) G T)) (fun _ h => h) ?_
  refine zz_goto 117 136 X.1 dX6_doStatement_117 (by decide) ?_
  rw [← hQ]
  refine zz_vret 136 X.1 hr hlk (F, sS hs s0 (pLv lv n0), G, T) ?_ (fun _ h _ => h) dX6_doStatement_136
  exact rfl
set_option maxHeartbeats 4000000 in
set_option maxRecDepth 100000 in
theorem kt_X6_doStatement_38 (l : Launch) (D : va_G) (C : Nat → ClassId) (K : Nat → Nat) (hAp : DAp K) (F : Nat → Int32) (hs : Nat → Bool) (G T : Nat → Nat → Int32) (u0 : Nat) (s0 : Nat) (f0 : Nat) (hu0 : u0 < 100) (hs0 : s0 < 8) (hT0 : T u0 0 = nI s0) (hT1 : T u0 1 = nI 38) (hT2 : T u0 2 = nI f0) (hf8 : f0 < 8) : CMv l yX6_doStatement wsX6_doStatement rm_X6_doStatement D C K (0)  [.ref (K (100 + u0))] F hs G T (fun (u : CSt) => u = (F, sS hs s0 (fun i => pJ 38 (hM hs s0 i) (hM hs f0 i)), G, T)) := by
  refine CMv_of (lv := [(0, .ref (K 0)), (1, .ref (K (100 + u0)))]) (cc := cX6_doStatement) (maxL := 3) (ret := none) rfl (by decide +kernel) (Nat.le_of_ble_eq_true rfl) rfl ?_
  intro p e s m args below meth c X hml hr hlk
  generalize hQ : MQ below _ args s 0 0 _ = Q
  refine zz_aload_n 0 X.1 0 dX6_doStatement_0 rfl ?_
  refine zz_aload_n 1 X.1 1 dX6_doStatement_1 rfl ?_
  refine dd_getS 2 X (by decide +kernel) (i := u0) (by omega) 0 (by decide) (v := .int (T u0 0)) rfl (by decide +kernel) rfl dX6_doStatement_2 ?_
  refine zz_topi (nI s0) (hT0) ?_
  refine dd_callVr 5 X hml (th := 0) (As := [.int (nI s0)]) (kt_X6_setOf l D C K hAp F hs G T s0 (by first | rfl | assumption | omega)) gX6_doStatement_X6_setOf rfl ⟨rfl, rfl⟩ (dr_0 X) yd_X6_setOf ⟨Nat.le_of_ble_eq_true rfl, Nat.le_of_ble_eq_true rfl⟩ rfl rfl (Nat.le_of_ble_eq_true rfl) ⟨Nat.zero_le _, Nat.zero_le _⟩ dX6_doStatement_5 ?_
  rintro ⟨F1, hs1, G1, T1⟩ hu1
  have hv1 := hu1
  cases hv1
  refine zz_world (P' := (DP D C K F (WH hs) G T)) (fun _ h => h) ?_
  refine zz_astore_n 8 X.1 (lv' := [(2, .ref (K (20 + s0))), (0, .ref (K 0)), (1, .ref (K (100 + u0)))]) dX6_doStatement_8 (by decide) rfl ?_
  refine zz_aload_n 9 X.1 2 dX6_doStatement_9 rfl ?_
  refine dd_getS 10 X (by decide +kernel) (i := u0) (by omega) 1 (by decide) (v := .int (T u0 1)) rfl (by decide +kernel) rfl dX6_doStatement_10 ?_
  refine zz_topi (nI 38) (hT1) ?_
  refine zz_lookup 13 120 X.1 (off := 107) dX6_doStatement_13 (by decide) (by decide) (by decide) ?_
  refine zz_aload_n 120 X.1 0 dX6_doStatement_120 rfl ?_
  refine zz_aload_n 121 X.1 1 dX6_doStatement_121 rfl ?_
  refine zz_aload_n 122 X.1 2 dX6_doStatement_122 rfl ?_
  refine dd_getS 123 X (by decide +kernel) (i := u0) (by omega) 2 (by decide) (v := .int (T u0 2)) rfl (by decide +kernel) rfl dX6_doStatement_123 ?_
  refine zz_topi (nI f0) (hT2) ?_
  refine dd_callVr 126 X hml (th := 0) (As := [.int (nI f0)]) (kt_X6_setOf l D C K hAp F hs G T f0 (by first | rfl | assumption | omega)) gX6_doStatement_X6_setOf rfl ⟨rfl, rfl⟩ (dr_0 X) yd_X6_setOf ⟨Nat.le_of_ble_eq_true rfl, Nat.le_of_ble_eq_true rfl⟩ rfl rfl (Nat.le_of_ble_eq_true rfl) ⟨Nat.zero_le _, Nat.zero_le _⟩ dX6_doStatement_126 ?_
  rintro ⟨F2, hs2, G2, T2⟩ hu2
  have hv2 := hu2
  cases hv2
  refine zz_world (P' := (DP D C K F (WH hs) G T)) (fun _ h => h) ?_
  refine zz_aload_n 129 X.1 2 dX6_doStatement_129 rfl ?_
  refine dd_getS 130 X (by decide +kernel) (i := u0) (by omega) 1 (by decide) (v := .int (T u0 1)) rfl (by decide +kernel) rfl dX6_doStatement_130 ?_
  refine zz_topi (nI 38) (hT1) ?_
  refine dd_callVv 133 X hml (th := 20 + s0) (As := [.ref (K (20 + f0)), .int (nI 38)]) (kt_X0_combineWith l D C K hAp F hs G T s0 f0 38 (by first | rfl | assumption | omega) (by first | rfl | assumption | omega) (by first | rfl | assumption | omega)) gX6_doStatement_X0_combineWith rfl ⟨rfl, rfl⟩ (dr_M X (i := s0) (by omega)) yd_X0_combineWith ⟨Nat.le_of_ble_eq_true rfl, Nat.le_of_ble_eq_true rfl⟩ rfl rfl (Nat.le_of_ble_eq_true rfl) ⟨Nat.zero_le _, Nat.zero_le _⟩ dX6_doStatement_133 ?_
  rintro ⟨F3, hs3, G3, T3⟩ hu3
  have hv3 := hu3
  cases hv3
  refine zz_world (P' := (DP D C K F (WH (sS hs s0 (fun i => pJ 38 (hM hs s0 i) (hM hs f0 i)))) G T)) (fun _ h => h) ?_
  rw [← hQ]
  refine zz_vret 136 X.1 hr hlk (F, sS hs s0 (fun i => pJ 38 (hM hs s0 i) (hM hs f0 i)), G, T) ?_ (fun _ h _ => h) dX6_doStatement_136
  exact rfl
set_option maxHeartbeats 4000000 in
set_option maxRecDepth 100000 in
theorem kt_X6_doStatement_124 (l : Launch) (D : va_G) (C : Nat → ClassId) (K : Nat → Nat) (hAp : DAp K) (F : Nat → Int32) (hs : Nat → Bool) (G T : Nat → Nat → Int32) (u0 : Nat) (s0 : Nat) (f0 : Nat) (hu0 : u0 < 100) (hs0 : s0 < 8) (hT0 : T u0 0 = nI s0) (hT1 : T u0 1 = nI 124) (hT2 : T u0 2 = nI f0) (hf8 : f0 < 8) : CMv l yX6_doStatement wsX6_doStatement rm_X6_doStatement D C K (0)  [.ref (K (100 + u0))] F hs G T (fun (u : CSt) => u = (F, sS hs s0 (fun i => pJ 124 (hM hs s0 i) (hM hs f0 i)), G, T)) := by
  refine CMv_of (lv := [(0, .ref (K 0)), (1, .ref (K (100 + u0)))]) (cc := cX6_doStatement) (maxL := 3) (ret := none) rfl (by decide +kernel) (Nat.le_of_ble_eq_true rfl) rfl ?_
  intro p e s m args below meth c X hml hr hlk
  generalize hQ : MQ below _ args s 0 0 _ = Q
  refine zz_aload_n 0 X.1 0 dX6_doStatement_0 rfl ?_
  refine zz_aload_n 1 X.1 1 dX6_doStatement_1 rfl ?_
  refine dd_getS 2 X (by decide +kernel) (i := u0) (by omega) 0 (by decide) (v := .int (T u0 0)) rfl (by decide +kernel) rfl dX6_doStatement_2 ?_
  refine zz_topi (nI s0) (hT0) ?_
  refine dd_callVr 5 X hml (th := 0) (As := [.int (nI s0)]) (kt_X6_setOf l D C K hAp F hs G T s0 (by first | rfl | assumption | omega)) gX6_doStatement_X6_setOf rfl ⟨rfl, rfl⟩ (dr_0 X) yd_X6_setOf ⟨Nat.le_of_ble_eq_true rfl, Nat.le_of_ble_eq_true rfl⟩ rfl rfl (Nat.le_of_ble_eq_true rfl) ⟨Nat.zero_le _, Nat.zero_le _⟩ dX6_doStatement_5 ?_
  rintro ⟨F1, hs1, G1, T1⟩ hu1
  have hv1 := hu1
  cases hv1
  refine zz_world (P' := (DP D C K F (WH hs) G T)) (fun _ h => h) ?_
  refine zz_astore_n 8 X.1 (lv' := [(2, .ref (K (20 + s0))), (0, .ref (K 0)), (1, .ref (K (100 + u0)))]) dX6_doStatement_8 (by decide) rfl ?_
  refine zz_aload_n 9 X.1 2 dX6_doStatement_9 rfl ?_
  refine dd_getS 10 X (by decide +kernel) (i := u0) (by omega) 1 (by decide) (v := .int (T u0 1)) rfl (by decide +kernel) rfl dX6_doStatement_10 ?_
  refine zz_topi (nI 124) (hT1) ?_
  refine zz_lookup 13 120 X.1 (off := 107) dX6_doStatement_13 (by decide) (by decide) (by decide) ?_
  refine zz_aload_n 120 X.1 0 dX6_doStatement_120 rfl ?_
  refine zz_aload_n 121 X.1 1 dX6_doStatement_121 rfl ?_
  refine zz_aload_n 122 X.1 2 dX6_doStatement_122 rfl ?_
  refine dd_getS 123 X (by decide +kernel) (i := u0) (by omega) 2 (by decide) (v := .int (T u0 2)) rfl (by decide +kernel) rfl dX6_doStatement_123 ?_
  refine zz_topi (nI f0) (hT2) ?_
  refine dd_callVr 126 X hml (th := 0) (As := [.int (nI f0)]) (kt_X6_setOf l D C K hAp F hs G T f0 (by first | rfl | assumption | omega)) gX6_doStatement_X6_setOf rfl ⟨rfl, rfl⟩ (dr_0 X) yd_X6_setOf ⟨Nat.le_of_ble_eq_true rfl, Nat.le_of_ble_eq_true rfl⟩ rfl rfl (Nat.le_of_ble_eq_true rfl) ⟨Nat.zero_le _, Nat.zero_le _⟩ dX6_doStatement_126 ?_
  rintro ⟨F2, hs2, G2, T2⟩ hu2
  have hv2 := hu2
  cases hv2
  refine zz_world (P' := (DP D C K F (WH hs) G T)) (fun _ h => h) ?_
  refine zz_aload_n 129 X.1 2 dX6_doStatement_129 rfl ?_
  refine dd_getS 130 X (by decide +kernel) (i := u0) (by omega) 1 (by decide) (v := .int (T u0 1)) rfl (by decide +kernel) rfl dX6_doStatement_130 ?_
  refine zz_topi (nI 124) (hT1) ?_
  refine dd_callVv 133 X hml (th := 20 + s0) (As := [.ref (K (20 + f0)), .int (nI 124)]) (kt_X0_combineWith l D C K hAp F hs G T s0 f0 124 (by first | rfl | assumption | omega) (by first | rfl | assumption | omega) (by first | rfl | assumption | omega)) gX6_doStatement_X0_combineWith rfl ⟨rfl, rfl⟩ (dr_M X (i := s0) (by omega)) yd_X0_combineWith ⟨Nat.le_of_ble_eq_true rfl, Nat.le_of_ble_eq_true rfl⟩ rfl rfl (Nat.le_of_ble_eq_true rfl) ⟨Nat.zero_le _, Nat.zero_le _⟩ dX6_doStatement_133 ?_
  rintro ⟨F3, hs3, G3, T3⟩ hu3
  have hv3 := hu3
  cases hv3
  refine zz_world (P' := (DP D C K F (WH (sS hs s0 (fun i => pJ 124 (hM hs s0 i) (hM hs f0 i)))) G T)) (fun _ h => h) ?_
  rw [← hQ]
  refine zz_vret 136 X.1 hr hlk (F, sS hs s0 (fun i => pJ 124 (hM hs s0 i) (hM hs f0 i)), G, T) ?_ (fun _ h _ => h) dX6_doStatement_136
  exact rfl
set_option maxHeartbeats 4000000 in
set_option maxRecDepth 100000 in
theorem kt_X6_doStatement_126 (l : Launch) (D : va_G) (C : Nat → ClassId) (K : Nat → Nat) (hAp : DAp K) (F : Nat → Int32) (hs : Nat → Bool) (G T : Nat → Nat → Int32) (u0 : Nat) (s0 : Nat) (f0 : Nat) (hu0 : u0 < 100) (hs0 : s0 < 8) (hT0 : T u0 0 = nI s0) (hT1 : T u0 1 = nI 126) (hT2 : T u0 2 = nI f0) (hf8 : f0 < 8) : CMv l yX6_doStatement wsX6_doStatement rm_X6_doStatement D C K (0)  [.ref (K (100 + u0))] F hs G T (fun (u : CSt) => u = (F, sS hs s0 (fun i => pJ 126 (hM hs s0 i) (hM hs f0 i)), G, T)) := by
  refine CMv_of (lv := [(0, .ref (K 0)), (1, .ref (K (100 + u0)))]) (cc := cX6_doStatement) (maxL := 3) (ret := none) rfl (by decide +kernel) (Nat.le_of_ble_eq_true rfl) rfl ?_
  intro p e s m args below meth c X hml hr hlk
  generalize hQ : MQ below _ args s 0 0 _ = Q
  refine zz_aload_n 0 X.1 0 dX6_doStatement_0 rfl ?_
  refine zz_aload_n 1 X.1 1 dX6_doStatement_1 rfl ?_
  refine dd_getS 2 X (by decide +kernel) (i := u0) (by omega) 0 (by decide) (v := .int (T u0 0)) rfl (by decide +kernel) rfl dX6_doStatement_2 ?_
  refine zz_topi (nI s0) (hT0) ?_
  refine dd_callVr 5 X hml (th := 0) (As := [.int (nI s0)]) (kt_X6_setOf l D C K hAp F hs G T s0 (by first | rfl | assumption | omega)) gX6_doStatement_X6_setOf rfl ⟨rfl, rfl⟩ (dr_0 X) yd_X6_setOf ⟨Nat.le_of_ble_eq_true rfl, Nat.le_of_ble_eq_true rfl⟩ rfl rfl (Nat.le_of_ble_eq_true rfl) ⟨Nat.zero_le _, Nat.zero_le _⟩ dX6_doStatement_5 ?_
  rintro ⟨F1, hs1, G1, T1⟩ hu1
  have hv1 := hu1
  cases hv1
  refine zz_world (P' := (DP D C K F (WH hs) G T)) (fun _ h => h) ?_
  refine zz_astore_n 8 X.1 (lv' := [(2, .ref (K (20 + s0))), (0, .ref (K 0)), (1, .ref (K (100 + u0)))]) dX6_doStatement_8 (by decide) rfl ?_
  refine zz_aload_n 9 X.1 2 dX6_doStatement_9 rfl ?_
  refine dd_getS 10 X (by decide +kernel) (i := u0) (by omega) 1 (by decide) (v := .int (T u0 1)) rfl (by decide +kernel) rfl dX6_doStatement_10 ?_
  refine zz_topi (nI 126) (hT1) ?_
  refine zz_lookup 13 120 X.1 (off := 107) dX6_doStatement_13 (by decide) (by decide) (by decide) ?_
  refine zz_aload_n 120 X.1 0 dX6_doStatement_120 rfl ?_
  refine zz_aload_n 121 X.1 1 dX6_doStatement_121 rfl ?_
  refine zz_aload_n 122 X.1 2 dX6_doStatement_122 rfl ?_
  refine dd_getS 123 X (by decide +kernel) (i := u0) (by omega) 2 (by decide) (v := .int (T u0 2)) rfl (by decide +kernel) rfl dX6_doStatement_123 ?_
  refine zz_topi (nI f0) (hT2) ?_
  refine dd_callVr 126 X hml (th := 0) (As := [.int (nI f0)]) (kt_X6_setOf l D C K hAp F hs G T f0 (by first | rfl | assumption | omega)) gX6_doStatement_X6_setOf rfl ⟨rfl, rfl⟩ (dr_0 X) yd_X6_setOf ⟨Nat.le_of_ble_eq_true rfl, Nat.le_of_ble_eq_true rfl⟩ rfl rfl (Nat.le_of_ble_eq_true rfl) ⟨Nat.zero_le _, Nat.zero_le _⟩ dX6_doStatement_126 ?_
  rintro ⟨F2, hs2, G2, T2⟩ hu2
  have hv2 := hu2
  cases hv2
  refine zz_world (P' := (DP D C K F (WH hs) G T)) (fun _ h => h) ?_
  refine zz_aload_n 129 X.1 2 dX6_doStatement_129 rfl ?_
  refine dd_getS 130 X (by decide +kernel) (i := u0) (by omega) 1 (by decide) (v := .int (T u0 1)) rfl (by decide +kernel) rfl dX6_doStatement_130 ?_
  refine zz_topi (nI 126) (hT1) ?_
  refine dd_callVv 133 X hml (th := 20 + s0) (As := [.ref (K (20 + f0)), .int (nI 126)]) (kt_X0_combineWith l D C K hAp F hs G T s0 f0 126 (by first | rfl | assumption | omega) (by first | rfl | assumption | omega) (by first | rfl | assumption | omega)) gX6_doStatement_X0_combineWith rfl ⟨rfl, rfl⟩ (dr_M X (i := s0) (by omega)) yd_X0_combineWith ⟨Nat.le_of_ble_eq_true rfl, Nat.le_of_ble_eq_true rfl⟩ rfl rfl (Nat.le_of_ble_eq_true rfl) ⟨Nat.zero_le _, Nat.zero_le _⟩ dX6_doStatement_133 ?_
  rintro ⟨F3, hs3, G3, T3⟩ hu3
  have hv3 := hu3
  cases hv3
  refine zz_world (P' := (DP D C K F (WH (sS hs s0 (fun i => pJ 126 (hM hs s0 i) (hM hs f0 i)))) G T)) (fun _ h => h) ?_
  rw [← hQ]
  refine zz_vret 136 X.1 hr hlk (F, sS hs s0 (fun i => pJ 126 (hM hs s0 i) (hM hs f0 i)), G, T) ?_ (fun _ h _ => h) dX6_doStatement_136
  exact rfl
set_option maxHeartbeats 4000000 in
set_option maxRecDepth 100000 in
theorem kt_X6_doStatement_33 (l : Launch) (D : va_G) (C : Nat → ClassId) (K : Nat → Nat) (hAp : DAp K) (F : Nat → Int32) (hs : Nat → Bool) (G T : Nat → Nat → Int32) (u0 : Nat) (s0 : Nat) (f0 : Nat) (hu0 : u0 < 100) (hs0 : s0 < 8) (hT0 : T u0 0 = nI s0) (hT1 : T u0 1 = nI 33) (hT2 : T u0 2 = nI f0) (hf8 : f0 < 8) : CMv l yX6_doStatement wsX6_doStatement rm_X6_doStatement D C K (0)  [.ref (K (100 + u0))] F hs G T (fun (u : CSt) => u = (F, sS hs s0 (fun i => pJ 33 (hM hs s0 i) (hM hs f0 i)), G, T)) := by
  refine CMv_of (lv := [(0, .ref (K 0)), (1, .ref (K (100 + u0)))]) (cc := cX6_doStatement) (maxL := 3) (ret := none) rfl (by decide +kernel) (Nat.le_of_ble_eq_true rfl) rfl ?_
  intro p e s m args below meth c X hml hr hlk
  generalize hQ : MQ below _ args s 0 0 _ = Q
  refine zz_aload_n 0 X.1 0 dX6_doStatement_0 rfl ?_
  refine zz_aload_n 1 X.1 1 dX6_doStatement_1 rfl ?_
  refine dd_getS 2 X (by decide +kernel) (i := u0) (by omega) 0 (by decide) (v := .int (T u0 0)) rfl (by decide +kernel) rfl dX6_doStatement_2 ?_
  refine zz_topi (nI s0) (hT0) ?_
  refine dd_callVr 5 X hml (th := 0) (As := [.int (nI s0)]) (kt_X6_setOf l D C K hAp F hs G T s0 (by first | rfl | assumption | omega)) gX6_doStatement_X6_setOf rfl ⟨rfl, rfl⟩ (dr_0 X) yd_X6_setOf ⟨Nat.le_of_ble_eq_true rfl, Nat.le_of_ble_eq_true rfl⟩ rfl rfl (Nat.le_of_ble_eq_true rfl) ⟨Nat.zero_le _, Nat.zero_le _⟩ dX6_doStatement_5 ?_
  rintro ⟨F1, hs1, G1, T1⟩ hu1
  have hv1 := hu1
  cases hv1
  refine zz_world (P' := (DP D C K F (WH hs) G T)) (fun _ h => h) ?_
  refine zz_astore_n 8 X.1 (lv' := [(2, .ref (K (20 + s0))), (0, .ref (K 0)), (1, .ref (K (100 + u0)))]) dX6_doStatement_8 (by decide) rfl ?_
  refine zz_aload_n 9 X.1 2 dX6_doStatement_9 rfl ?_
  refine dd_getS 10 X (by decide +kernel) (i := u0) (by omega) 1 (by decide) (v := .int (T u0 1)) rfl (by decide +kernel) rfl dX6_doStatement_10 ?_
  refine zz_topi (nI 33) (hT1) ?_
  refine zz_lookup 13 120 X.1 (off := 107) dX6_doStatement_13 (by decide) (by decide) (by decide) ?_
  refine zz_aload_n 120 X.1 0 dX6_doStatement_120 rfl ?_
  refine zz_aload_n 121 X.1 1 dX6_doStatement_121 rfl ?_
  refine zz_aload_n 122 X.1 2 dX6_doStatement_122 rfl ?_
  refine dd_getS 123 X (by decide +kernel) (i := u0) (by omega) 2 (by decide) (v := .int (T u0 2)) rfl (by decide +kernel) rfl dX6_doStatement_123 ?_
  refine zz_topi (nI f0) (hT2) ?_
  refine dd_callVr 126 X hml (th := 0) (As := [.int (nI f0)]) (kt_X6_setOf l D C K hAp F hs G T f0 (by first | rfl | assumption | omega)) gX6_doStatement_X6_setOf rfl ⟨rfl, rfl⟩ (dr_0 X) yd_X6_setOf ⟨Nat.le_of_ble_eq_true rfl, Nat.le_of_ble_eq_true rfl⟩ rfl rfl (Nat.le_of_ble_eq_true rfl) ⟨Nat.zero_le _, Nat.zero_le _⟩ dX6_doStatement_126 ?_
  rintro ⟨F2, hs2, G2, T2⟩ hu2
  have hv2 := hu2
  cases hv2
  refine zz_world (P' := (DP D C K F (WH hs) G T)) (fun _ h => h) ?_
  refine zz_aload_n 129 X.1 2 dX6_doStatement_129 rfl ?_
  refine dd_getS 130 X (by decide +kernel) (i := u0) (by omega) 1 (by decide) (v := .int (T u0 1)) rfl (by decide +kernel) rfl dX6_doStatement_130 ?_
  refine zz_topi (nI 33) (hT1) ?_
  refine dd_callVv 133 X hml (th := 20 + s0) (As := [.ref (K (20 + f0)), .int (nI 33)]) (kt_X0_combineWith l D C K hAp F hs G T s0 f0 33 (by first | rfl | assumption | omega) (by first | rfl | assumption | omega) (by first | rfl | assumption | omega)) gX6_doStatement_X0_combineWith rfl ⟨rfl, rfl⟩ (dr_M X (i := s0) (by omega)) yd_X0_combineWith ⟨Nat.le_of_ble_eq_true rfl, Nat.le_of_ble_eq_true rfl⟩ rfl rfl (Nat.le_of_ble_eq_true rfl) ⟨Nat.zero_le _, Nat.zero_le _⟩ dX6_doStatement_133 ?_
  rintro ⟨F3, hs3, G3, T3⟩ hu3
  have hv3 := hu3
  cases hv3
  refine zz_world (P' := (DP D C K F (WH (sS hs s0 (fun i => pJ 33 (hM hs s0 i) (hM hs f0 i)))) G T)) (fun _ h => h) ?_
  rw [← hQ]
  refine zz_vret 136 X.1 hr hlk (F, sS hs s0 (fun i => pJ 33 (hM hs s0 i) (hM hs f0 i)), G, T) ?_ (fun _ h _ => h) dX6_doStatement_136
  exact rfl
set_option maxHeartbeats 4000000 in
set_option maxRecDepth 100000 in
theorem kt_X6_doStatement_61 (l : Launch) (D : va_G) (C : Nat → ClassId) (K : Nat → Nat) (hAp : DAp K) (F : Nat → Int32) (hs : Nat → Bool) (G T : Nat → Nat → Int32) (u0 : Nat) (s0 : Nat) (f0 : Nat) (hu0 : u0 < 100) (hs0 : s0 < 8) (hT0 : T u0 0 = nI s0) (hT1 : T u0 1 = nI 61) (hT2 : T u0 2 = nI f0) (hf8 : f0 < 8) : CMv l yX6_doStatement wsX6_doStatement rm_X6_doStatement D C K (0)  [.ref (K (100 + u0))] F hs G T (fun (u : CSt) => u = (F, sS hs s0 (fun i => pJ 61 (hM hs s0 i) (hM hs f0 i)), G, T)) := by
  refine CMv_of (lv := [(0, .ref (K 0)), (1, .ref (K (100 + u0)))]) (cc := cX6_doStatement) (maxL := 3) (ret := none) rfl (by decide +kernel) (Nat.le_of_ble_eq_true rfl) rfl ?_
  intro p e s m args below meth c X hml hr hlk
  generalize hQ : MQ below _ args s 0 0 _ = Q
  refine zz_aload_n 0 X.1 0 dX6_doStatement_0 rfl ?_
  refine zz_aload_n 1 X.1 1 dX6_doStatement_1 rfl ?_
  refine dd_getS 2 X (by decide +kernel) (i := u0) (by omega) 0 (by decide) (v := .int (T u0 0)) rfl (by decide +kernel) rfl dX6_doStatement_2 ?_
  refine zz_topi (nI s0) (hT0) ?_
  refine dd_callVr 5 X hml (th := 0) (As := [.int (nI s0)]) (kt_X6_setOf l D C K hAp F hs G T s0 (by first | rfl | assumption | omega)) gX6_doStatement_X6_setOf rfl ⟨rfl, rfl⟩ (dr_0 X) yd_X6_setOf ⟨Nat.le_of_ble_eq_true rfl, Nat.le_of_ble_eq_true rfl⟩ rfl rfl (Nat.le_of_ble_eq_true rfl) ⟨Nat.zero_le _, Nat.zero_le _⟩ dX6_doStatement_5 ?_
  rintro ⟨F1, hs1, G1, T1⟩ hu1
  have hv1 := hu1
  cases hv1
  refine zz_world (P' := (DP D C K F (WH hs) G T)) (fun _ h => h) ?_
  refine zz_astore_n 8 X.1 (lv' := [(2, .ref (K (20 + s0))), (0, .ref (K 0)), (1, .ref (K (100 + u0)))]) dX6_doStatement_8 (by decide) rfl ?_
  refine zz_aload_n 9 X.1 2 dX6_doStatement_9 rfl ?_
  refine dd_getS 10 X (by decide +kernel) (i := u0) (by omega) 1 (by decide) (v := .int (T u0 1)) rfl (by decide +kernel) rfl dX6_doStatement_10 ?_
  refine zz_topi (nI 61) (hT1) ?_
  refine zz_lookup 13 120 X.1 (off := 107) dX6_doStatement_13 (by decide) (by decide) (by decide) ?_
  refine zz_aload_n 120 X.1 0 dX6_doStatement_120 rfl ?_
  refine zz_aload_n 121 X.1 1 dX6_doStatement_121 rfl ?_
  refine zz_aload_n 122 X.1 2 dX6_doStatement_122 rfl ?_
  refine dd_getS 123 X (by decide +kernel) (i := u0) (by omega) 2 (by decide) (v := .int (T u0 2)) rfl (by decide +kernel) rfl dX6_doStatement_123 ?_
  refine zz_topi (nI f0) (hT2) ?_
  refine dd_callVr 126 X hml (th := 0) (As := [.int (nI f0)]) (kt_X6_setOf l D C K hAp F hs G T f0 (by first | rfl | assumption | omega)) gX6_doStatement_X6_setOf rfl ⟨rfl, rfl⟩ (dr_0 X) yd_X6_setOf ⟨Nat.le_of_ble_eq_true rfl, Nat.le_of_ble_eq_true rfl⟩ rfl rfl (Nat.le_of_ble_eq_true rfl) ⟨Nat.zero_le _, Nat.zero_le _⟩ dX6_doStatement_126 ?_
  rintro ⟨F2, hs2, G2, T2⟩ hu2
  have hv2 := hu2
  cases hv2
  refine zz_world (P' := (DP D C K F (WH hs) G T)) (fun _ h => h) ?_
  refine zz_aload_n 129 X.1 2 dX6_doStatement_129 rfl ?_
  refine dd_getS 130 X (by decide +kernel) (i := u0) (by omega) 1 (by decide) (v := .int (T u0 1)) rfl (by decide +kernel) rfl dX6_doStatement_130 ?_
  refine zz_topi (nI 61) (hT1) ?_
  refine dd_callVv 133 X hml (th := 20 + s0) (As := [.ref (K (20 + f0)), .int (nI 61)]) (kt_X0_combineWith l D C K hAp F hs G T s0 f0 61 (by first | rfl | assumption | omega) (by first | rfl | assumption | omega) (by first | rfl | assumption | omega)) gX6_doStatement_X0_combineWith rfl ⟨rfl, rfl⟩ (dr_M X (i := s0) (by omega)) yd_X0_combineWith ⟨Nat.le_of_ble_eq_true rfl, Nat.le_of_ble_eq_true rfl⟩ rfl rfl (Nat.le_of_ble_eq_true rfl) ⟨Nat.zero_le _, Nat.zero_le _⟩ dX6_doStatement_133 ?_
  rintro ⟨F3, hs3, G3, T3⟩ hu3
  have hv3 := hu3
  cases hv3
  refine zz_world (P' := (DP D C K F (WH (sS hs s0 (fun i => pJ 61 (hM hs s0 i) (hM hs f0 i)))) G T)) (fun _ h => h) ?_
  rw [← hQ]
  refine zz_vret 136 X.1 hr hlk (F, sS hs s0 (fun i => pJ 61 (hM hs s0 i) (hM hs f0 i)), G, T) ?_ (fun _ h _ => h) dX6_doStatement_136
  exact rfl
