abbrev rm_X7_loadWords : Room := { frames := 2, cells := 0, slots := 0, locals := 43 }
theorem yd_X7_loadWords : yX7_loadWords.cls = RX7 ∧ yX7_loadWords.cls ≠ "java/lang/invoke/MethodHandle" ∧ yX7_loadWords.cls ≠ "java/lang/invoke/VarHandle" ∧ (parseMethodDescriptor yX7_loadWords.desc).map (fun d => d.parameters.length) = some 4 := by decide +kernel
set_option maxHeartbeats 4000000 in
set_option maxRecDepth 100000 in
theorem kt_X7_loadWords_no (l : Launch) (D : va_G) (C : Nat → ClassId) (K : Nat → Nat) (hAp : RAp K) (F : Nat → Int32) (hs mv : Nat → Bool) (G : Nat → Nat → Int32) (x0 : Int32) (a0 : Int64) (a1 : Int64) (a2 : Int64) (a : Int) (h_a : x0.toInt = a) (hno : ¬ (0 ≤ a ∧ a < 8)) : RMi l yX7_loadWords wsX7_loadWords rm_X7_loadWords D C K [.int x0, .long a0, .long a1, .long a2] F hs mv G (fun (r : Int32) (u : MSt) => r = (nI 0) ∧ u = (upd F 0 (nI 1), hs, mv, G)) := by
  refine RMi_of (lv := [(0, .ref (K 0)), (1, .int x0), (2, .long a0), (4, .long a1), (6, .long a2)]) (cc := cX7_loadWords) (maxL := 8) (ret := (some .int)) rfl rfl (by decide +kernel) (Nat.le_of_ble_eq_true rfl) rfl ?_
  intro p e s m args below meth c X hml hr hlk
  generalize hQ : MQ below _ args s 0 0 _ = Q
  refine zz_aload_n 0 X.1 0 dX7_loadWords_0 rfl ?_
  refine zz_iconst 1 X.1 (v := nI 0) dX7_loadWords_1 rfl ?_
  refine rr_put 2 hAp X 0 (by decide) (F' := upd F 0 (nI 0)) rfl (by decide +kernel) ⟨rfl, rfl⟩ (by decide +kernel) dX7_loadWords_2 ?_
  refine zz_aload_n 5 X.1 0 dX7_loadWords_5 rfl ?_
  refine zz_iload_n 6 X.1 1 dX7_loadWords_6 rfl ?_
  refine rr_callVi 7 X hml (As := [.int x0]) (kt_X7_noSet l D C K hAp (upd F 0 (nI 0)) hs mv G x0 a (h_a) (by first | rfl | assumption | omega)) gX7_loadWords_X7_noSet rfl ⟨rfl, rfl⟩ yd_X7_noSet ⟨Nat.le_of_ble_eq_true rfl, Nat.le_of_ble_eq_true rfl⟩ rfl rfl (Nat.le_of_ble_eq_true rfl) dX7_loadWords_7 ?_
  rintro r1 ⟨F1, hs1, mv1, G1⟩ hu1
  rcases (show (0 ≤ a ∧ a < 8) ∨ (¬ (0 ≤ a ∧ a < 8)) by omega) with hc1 | hc1
  · exfalso; omega
  · skip
    obtain ⟨rfl, hv1⟩ := (hu1.2 hc1)
    cases hv1
    refine zz_world (P' := (RP D C K (upd F 0 (nI 1)) hs mv G)) (fun _ h => h) ?_
    refine zz_ifB_eq 10 15 X.1 dX7_loadWords_10 (by decide) (fun h10 => ?_) (fun h10 => ?_)
    · exact absurd h10 (by decide)
    · skip
      refine zz_iconst 13 X.1 (v := nI 0) dX7_loadWords_13 rfl ?_
      rw [← hQ]
      refine zz_iret 14 X.1 hr rfl hlk (upd F 0 (nI 1), hs, mv, G) ?_ (fun _ h _ => h) dX7_loadWords_14
      exact ⟨rfl, rfl⟩

set_option maxHeartbeats 4000000 in
set_option maxRecDepth 100000 in
theorem kt_X7_loadWords_ok (l : Launch) (D : va_G) (C : Nat → ClassId) (K : Nat → Nat) (hAp : RAp K) (F : Nat → Int32) (hs mv : Nat → Bool) (G : Nat → Nat → Int32) (s0 : Nat) (a0 : Int64) (a1 : Int64) (a2 : Int64) (hs0 : s0 < 8) : RMi l yX7_loadWords wsX7_loadWords rm_X7_loadWords D C K [.int (nI s0), .long a0, .long a1, .long a2] F hs mv G (fun (r : Int32) (u : MSt) => r = (nI (ln (pW3 a0 a1 a2) 1024)) ∧ u = (upd F 0 (nI 0), sS hs s0 (pW3 a0 a1 a2), mv, G)) := by
  refine RMi_of (lv := [(0, .ref (K 0)), (1, .int (nI s0)), (2, .long a0), (4, .long a1), (6, .long a2)]) (cc := cX7_loadWords) (maxL := 8) (ret := (some .int)) rfl rfl (by decide +kernel) (Nat.le_of_ble_eq_true rfl) rfl ?_
  intro p e s m args below meth c X hml hr hlk
  generalize hQ : MQ below _ args s 0 0 _ = Q
  refine zz_aload_n 0 X.1 0 dX7_loadWords_0 rfl ?_
  refine zz_iconst 1 X.1 (v := nI 0) dX7_loadWords_1 rfl ?_
  refine rr_put 2 hAp X 0 (by decide) (F' := upd F 0 (nI 0)) rfl (by decide +kernel) ⟨rfl, rfl⟩ (by decide +kernel) dX7_loadWords_2 ?_
  refine zz_aload_n 5 X.1 0 dX7_loadWords_5 rfl ?_
  refine zz_iload_n 6 X.1 1 dX7_loadWords_6 rfl ?_
  refine rr_callVi 7 X hml (As := [.int (nI s0)]) (kt_X7_noSet l D C K hAp (upd F 0 (nI 0)) hs mv G (nI s0) ((s0 : Nat) : Int) (nI_toInt (by omega)) (by first | rfl | assumption | omega)) gX7_loadWords_X7_noSet rfl ⟨rfl, rfl⟩ yd_X7_noSet ⟨Nat.le_of_ble_eq_true rfl, Nat.le_of_ble_eq_true rfl⟩ rfl rfl (Nat.le_of_ble_eq_true rfl) dX7_loadWords_7 ?_
  rintro r1 ⟨F1, hs1, mv1, G1⟩ hu1
  obtain ⟨rfl, hv1⟩ := (hu1.1 (by omega))
  cases hv1
  refine zz_world (P' := (RP D C K (upd F 0 (nI 0)) hs mv G)) (fun _ h => h) ?_
  refine zz_ifB_eq 10 15 X.1 dX7_loadWords_10 (by decide) (fun h10 => ?_) (fun h10 => ?_)
  · skip
    refine zz_aload_n 15 X.1 0 dX7_loadWords_15 rfl ?_
    refine zz_iload_n 16 X.1 1 dX7_loadWords_16 rfl ?_
    refine rr_callVv 17 X hml (As := [.int (nI s0)]) (kt_X7_empties l D C K hAp (upd F 0 (nI 0)) hs mv G s0 (by first | rfl | assumption | omega)) gX7_loadWords_X7_empties rfl ⟨rfl, rfl⟩ yd_X7_empties ⟨Nat.le_of_ble_eq_true rfl, Nat.le_of_ble_eq_true rfl⟩ rfl rfl (Nat.le_of_ble_eq_true rfl) dX7_loadWords_17 ?_
    rintro ⟨F2, hs2, mv2, G2⟩ hu2
    cases hu2
    refine zz_world (P' := (RP D C K (upd F 0 (nI 0)) (sS hs s0 (fun _ => false)) mv G)) (fun _ h => h) ?_
    refine zz_aload_n 20 X.1 0 dX7_loadWords_20 rfl ?_
    refine zz_iload_n 21 X.1 1 dX7_loadWords_21 rfl ?_
    refine zz_iconst 22 X.1 (v := nI 0) dX7_loadWords_22 rfl ?_
    refine zz_lload_n 23 X.1 2 dX7_loadWords_23 rfl ?_
    refine rr_callVv 24 X hml (As := [.int (nI s0), .int (nI 0), .long a0]) (kt_X7_tellsWord l D C K hAp (upd F 0 (nI 0)) (sS hs s0 (fun _ => false)) mv G s0 0 a0 (by first | rfl | assumption | omega) (by first | rfl | assumption | omega)) gX7_loadWords_X7_tellsWord rfl ⟨rfl, rfl⟩ yd_X7_tellsWord ⟨Nat.le_of_ble_eq_true rfl, Nat.le_of_ble_eq_true rfl⟩ rfl rfl (Nat.le_of_ble_eq_true rfl) dX7_loadWords_24 ?_
    rintro ⟨F3, hs3, mv3, G3⟩ hu3
    cases hu3
    refine zz_world (P' := (RP D C K (upd F 0 (nI 0)) (sS (sS hs s0 (fun _ => false)) s0 (pWd (hM (sS hs s0 (fun _ => false)) s0) 0 a0)) mv G)) (fun _ h => h) ?_
    refine zz_aload_n 27 X.1 0 dX7_loadWords_27 rfl ?_
    refine zz_iload_n 28 X.1 1 dX7_loadWords_28 rfl ?_
    refine zz_iconst 29 X.1 (v := nI 1) dX7_loadWords_29 rfl ?_
    refine zz_lload 30 X.1 3 dX7_loadWords_30 rfl ?_
    refine rr_callVv 32 X hml (As := [.int (nI s0), .int (nI 1), .long a1]) (kt_X7_tellsWord l D C K hAp (upd F 0 (nI 0)) (sS (sS hs s0 (fun _ => false)) s0 (pWd (hM (sS hs s0 (fun _ => false)) s0) 0 a0)) mv G s0 1 a1 (by first | rfl | assumption | omega) (by first | rfl | assumption | omega)) gX7_loadWords_X7_tellsWord rfl ⟨rfl, rfl⟩ yd_X7_tellsWord ⟨Nat.le_of_ble_eq_true rfl, Nat.le_of_ble_eq_true rfl⟩ rfl rfl (Nat.le_of_ble_eq_true rfl) dX7_loadWords_32 ?_
    rintro ⟨F4, hs4, mv4, G4⟩ hu4
    cases hu4
    refine zz_world (P' := (RP D C K (upd F 0 (nI 0)) (sS (sS (sS hs s0 (fun _ => false)) s0 (pWd (hM (sS hs s0 (fun _ => false)) s0) 0 a0)) s0 (pWd (hM (sS (sS hs s0 (fun _ => false)) s0 (pWd (hM (sS hs s0 (fun _ => false)) s0) 0 a0)) s0) 1 a1)) mv G)) (fun _ h => h) ?_
    refine zz_aload_n 35 X.1 0 dX7_loadWords_35 rfl ?_
    refine zz_iload_n 36 X.1 1 dX7_loadWords_36 rfl ?_
    refine zz_iconst 37 X.1 (v := nI 2) dX7_loadWords_37 rfl ?_
    refine zz_lload 38 X.1 4 dX7_loadWords_38 rfl ?_
    refine rr_callVv 40 X hml (As := [.int (nI s0), .int (nI 2), .long a2]) (kt_X7_tellsWord l D C K hAp (upd F 0 (nI 0)) (sS (sS (sS hs s0 (fun _ => false)) s0 (pWd (hM (sS hs s0 (fun _ => false)) s0) 0 a0)) s0 (pWd (hM (sS (sS hs s0 (fun _ => false)) s0 (pWd (hM (sS hs s0 (fun _ => false)) s0) 0 a0)) s0) 1 a1)) mv G s0 2 a2 (by first | rfl | assumption | omega) (by first | rfl | assumption | omega)) gX7_loadWords_X7_tellsWord rfl ⟨rfl, rfl⟩ yd_X7_tellsWord ⟨Nat.le_of_ble_eq_true rfl, Nat.le_of_ble_eq_true rfl⟩ rfl rfl (Nat.le_of_ble_eq_true rfl) dX7_loadWords_40 ?_
    rintro ⟨F5, hs5, mv5, G5⟩ hu5
    cases hu5
    refine zz_world (P' := (RP D C K (upd F 0 (nI 0)) (sS (sS (sS (sS hs s0 (fun _ => false)) s0 (pWd (hM (sS hs s0 (fun _ => false)) s0) 0 a0)) s0 (pWd (hM (sS (sS hs s0 (fun _ => false)) s0 (pWd (hM (sS hs s0 (fun _ => false)) s0) 0 a0)) s0) 1 a1)) s0 (pWd (hM (sS (sS (sS hs s0 (fun _ => false)) s0 (pWd (hM (sS hs s0 (fun _ => false)) s0) 0 a0)) s0 (pWd (hM (sS (sS hs s0 (fun _ => false)) s0 (pWd (hM (sS hs s0 (fun _ => false)) s0) 0 a0)) s0) 1 a1)) s0) 2 a2)) mv G)) (fun _ h => h) ?_
    refine rr_hs (hs' := sS hs s0 (pW3 a0 a1 a2)) (((sS_sS.trans (sS_sS.trans sS_sS)).trans (sS_W3 (hM (sS hs s0 (fun _ => false)) s0) (hM (sS (sS hs s0 (fun _ => false)) s0 (pWd (hM (sS hs s0 (fun _ => false)) s0) 0 a0)) s0) _ (fun i hi => hM_sS hi) (fun i hi => hM_sS hi) (fun i hi => hM_sS hi)))) ?_
    refine zz_aload_n 43 X.1 0 dX7_loadWords_43 rfl ?_
    refine zz_iload_n 44 X.1 1 dX7_loadWords_44 rfl ?_
    refine rr_callVi 45 X hml (As := [.int (nI s0)]) (kt_X7_lengthOf l D C K hAp (upd F 0 (nI 0)) (sS hs s0 (pW3 a0 a1 a2)) mv G s0 (by first | rfl | assumption | omega)) gX7_loadWords_X7_lengthOf rfl ⟨rfl, rfl⟩ yd_X7_lengthOf ⟨Nat.le_of_ble_eq_true rfl, Nat.le_of_ble_eq_true rfl⟩ rfl rfl (Nat.le_of_ble_eq_true rfl) dX7_loadWords_45 ?_
    rintro r6 ⟨F6, hs6, mv6, G6⟩ hu6
    obtain ⟨rfl, hv6⟩ := hu6
    cases hv6
    refine zz_world (P' := (RP D C K (upd F 0 (nI 0)) (sS hs s0 (pW3 a0 a1 a2)) mv G)) (fun _ h => h) ?_
    rw [← hQ]
    refine zz_iret 48 X.1 hr rfl hlk (upd F 0 (nI 0), sS hs s0 (pW3 a0 a1 a2), mv, G) ?_ (fun _ h _ => h) dX7_loadWords_48
    exact ⟨by rw [ln_sS], rfl⟩
  · exact absurd h10 (by decide)

abbrev rm_X7_loadTape : Room := { frames := 2, cells := 0, slots := 0, locals := 43 }
theorem yd_X7_loadTape : yX7_loadTape.cls = RX7 ∧ yX7_loadTape.cls ≠ "java/lang/invoke/MethodHandle" ∧ yX7_loadTape.cls ≠ "java/lang/invoke/VarHandle" ∧ (parseMethodDescriptor yX7_loadTape.desc).map (fun d => d.parameters.length) = some 1 := by decide +kernel
set_option maxHeartbeats 4000000 in
set_option maxRecDepth 100000 in
theorem kt_X7_loadTape_no (l : Launch) (D : va_G) (C : Nat → ClassId) (K : Nat → Nat) (hAp : RAp K) (F : Nat → Int32) (hs mv : Nat → Bool) (G : Nat → Nat → Int32) (x0 : Int32) (a : Int) (h_a : x0.toInt = a) (hno : ¬ (0 ≤ a ∧ a < 8)) : RMi l yX7_loadTape wsX7_loadTape rm_X7_loadTape D C K [.int x0] F hs mv G (fun (r : Int32) (u : MSt) => r = (nI 0) ∧ u = (upd F 0 (nI 1), hs, mv, G)) := by
  refine RMi_of (lv := [(0, .ref (K 0)), (1, .int x0)]) (cc := cX7_loadTape) (maxL := 3) (ret := (some .int)) rfl rfl (by decide +kernel) (Nat.le_of_ble_eq_true rfl) rfl ?_
  intro p e s m args below meth c X hml hr hlk
  generalize hQ : MQ below _ args s 0 0 _ = Q
  refine zz_aload_n 0 X.1 0 dX7_loadTape_0 rfl ?_
  refine zz_iconst 1 X.1 (v := nI 0) dX7_loadTape_1 rfl ?_
  refine rr_put 2 hAp X 0 (by decide) (F' := upd F 0 (nI 0)) rfl (by decide +kernel) ⟨rfl, rfl⟩ (by decide +kernel) dX7_loadTape_2 ?_
  refine zz_aload_n 5 X.1 0 dX7_loadTape_5 rfl ?_
  refine zz_iload_n 6 X.1 1 dX7_loadTape_6 rfl ?_
  refine rr_callVi 7 X hml (As := [.int x0]) (kt_X7_noSet l D C K hAp (upd F 0 (nI 0)) hs mv G x0 a (h_a) (by first | rfl | assumption | omega)) gX7_loadTape_X7_noSet rfl ⟨rfl, rfl⟩ yd_X7_noSet ⟨Nat.le_of_ble_eq_true rfl, Nat.le_of_ble_eq_true rfl⟩ rfl rfl (Nat.le_of_ble_eq_true rfl) dX7_loadTape_7 ?_
  rintro r1 ⟨F1, hs1, mv1, G1⟩ hu1
  rcases (show (0 ≤ a ∧ a < 8) ∨ (¬ (0 ≤ a ∧ a < 8)) by omega) with hc1 | hc1
  · exfalso; omega
  · skip
    obtain ⟨rfl, hv1⟩ := (hu1.2 hc1)
    cases hv1
    refine zz_world (P' := (RP D C K (upd F 0 (nI 1)) hs mv G)) (fun _ h => h) ?_
    refine zz_ifB_ne 10 39 X.1 dX7_loadTape_10 (by decide) (fun h10 => ?_) (fun h10 => ?_)
    · skip
      refine zz_iconst 39 X.1 (v := nI 0) dX7_loadTape_39 rfl ?_
      rw [← hQ]
      refine zz_iret 40 X.1 hr rfl hlk (upd F 0 (nI 1), hs, mv, G) ?_ (fun _ h _ => h) dX7_loadTape_40
      exact ⟨rfl, rfl⟩
    · exact absurd h10 (by decide)

set_option maxHeartbeats 4000000 in
set_option maxRecDepth 100000 in
theorem kt_X7_loadTape_no2 (l : Launch) (D : va_G) (C : Nat → ClassId) (K : Nat → Nat) (hAp : RAp K) (F : Nat → Int32) (hs mv : Nat → Bool) (G : Nat → Nat → Int32) (s0 : Nat) (tn : Nat) (hs0 : s0 < 8) (hT : F 4 = nI tn) (htn : tn ≤ 400) (hno : 128 < tn) : RMi l yX7_loadTape wsX7_loadTape rm_X7_loadTape D C K [.int (nI s0)] F hs mv G (fun (r : Int32) (u : MSt) => r = (nI 0) ∧ u = (upd F 0 (nI 2), hs, mv, G)) := by
  refine RMi_of (lv := [(0, .ref (K 0)), (1, .int (nI s0))]) (cc := cX7_loadTape) (maxL := 3) (ret := (some .int)) rfl rfl (by decide +kernel) (Nat.le_of_ble_eq_true rfl) rfl ?_
  intro p e s m args below meth c X hml hr hlk
  generalize hQ : MQ below _ args s 0 0 _ = Q
  refine zz_aload_n 0 X.1 0 dX7_loadTape_0 rfl ?_
  refine zz_iconst 1 X.1 (v := nI 0) dX7_loadTape_1 rfl ?_
  refine rr_put 2 hAp X 0 (by decide) (F' := upd F 0 (nI 0)) rfl (by decide +kernel) ⟨rfl, rfl⟩ (by decide +kernel) dX7_loadTape_2 ?_
  refine zz_aload_n 5 X.1 0 dX7_loadTape_5 rfl ?_
  refine zz_iload_n 6 X.1 1 dX7_loadTape_6 rfl ?_
  refine rr_callVi 7 X hml (As := [.int (nI s0)]) (kt_X7_noSet l D C K hAp (upd F 0 (nI 0)) hs mv G (nI s0) ((s0 : Nat) : Int) (nI_toInt (by omega)) (by first | rfl | assumption | omega)) gX7_loadTape_X7_noSet rfl ⟨rfl, rfl⟩ yd_X7_noSet ⟨Nat.le_of_ble_eq_true rfl, Nat.le_of_ble_eq_true rfl⟩ rfl rfl (Nat.le_of_ble_eq_true rfl) dX7_loadTape_7 ?_
  rintro r1 ⟨F1, hs1, mv1, G1⟩ hu1
  obtain ⟨rfl, hv1⟩ := (hu1.1 (by omega))
  cases hv1
  refine zz_world (P' := (RP D C K (upd F 0 (nI 0)) hs mv G)) (fun _ h => h) ?_
  refine zz_ifB_ne 10 39 X.1 dX7_loadTape_10 (by decide) (fun h10 => ?_) (fun h10 => ?_)
  · exact absurd h10 (by decide)
  · skip
    refine zz_aload_n 13 X.1 0 dX7_loadTape_13 rfl ?_
    refine zz_bipush 14 X.1 (v := nI 8) dX7_loadTape_14 rfl ?_
    refine zz_aload_n 16 X.1 0 dX7_loadTape_16 rfl ?_
    refine rr_get 17 X 4 (by decide) (v := .int (F 4)) rfl (by decide +kernel) rfl dX7_loadTape_17 ?_
    refine zz_topi (nI tn) (hT) ?_
    refine zz_imul 20 X.1 (v := (nI (8 * tn))) dX7_loadTape_20 (pk_mul _ _) ?_
    refine zz_sipush 21 X.1 (v := nI 1024) dX7_loadTape_21 rfl ?_
    refine zz_icmp_gt 24 31 X.1 (nI_toInt (by omega)) (nI_toInt (by omega)) dX7_loadTape_24 (by decide) (fun h24 => ?_) (fun h24 => ?_)
    · skip
      refine zz_iconst 31 X.1 (v := nI 0) dX7_loadTape_31 rfl ?_
      refine zz_iconst 32 X.1 (v := nI 2) dX7_loadTape_32 rfl ?_
      refine rr_callVi 33 X hml (As := [.int (bI false), .int (nI 2)]) (kt_X7_fails l D C K hAp (upd F 0 (nI 0)) hs mv G false 2 (by first | rfl | assumption | omega) (by first | rfl | assumption | omega)) gX7_loadTape_X7_fails rfl ⟨rfl, rfl⟩ yd_X7_fails ⟨Nat.le_of_ble_eq_true rfl, Nat.le_of_ble_eq_true rfl⟩ rfl rfl (Nat.le_of_ble_eq_true rfl) dX7_loadTape_33 ?_
      rintro r2 ⟨F2, hs2, mv2, G2⟩ hu2
      obtain ⟨rfl, hv2⟩ := (hu2.2 (rfl))
      cases hv2
      refine zz_world (P' := (RP D C K (upd F 0 (nI 2)) hs mv G)) (fun _ h => h) ?_
      refine zz_ifB_eq 36 41 X.1 dX7_loadTape_36 (by decide) (fun h36 => ?_) (fun h36 => ?_)
      · exact absurd h36 (by decide)
      · skip
        refine zz_iconst 39 X.1 (v := nI 0) dX7_loadTape_39 rfl ?_
        rw [← hQ]
        refine zz_iret 40 X.1 hr rfl hlk (upd F 0 (nI 2), hs, mv, G) ?_ (fun _ h _ => h) dX7_loadTape_40
        exact ⟨rfl, rfl⟩
    · exfalso; omega

set_option maxHeartbeats 4000000 in
set_option maxRecDepth 100000 in
theorem kt_X7_loadTape_ok (l : Launch) (D : va_G) (C : Nat → ClassId) (K : Nat → Nat) (hAp : RAp K) (F : Nat → Int32) (hs mv : Nat → Bool) (G : Nat → Nat → Int32) (s0 : Nat) (tn : Nat) (hs0 : s0 < 8) (hT : F 4 = nI tn) (htn : tn ≤ 400) (hok : tn ≤ 128) : RMi l yX7_loadTape wsX7_loadTape rm_X7_loadTape D C K [.int (nI s0)] F hs mv G (fun (r : Int32) (u : MSt) => r = (nI (ln (pTp (G 3) tn) 1024)) ∧ u = (upd (upd F 0 (nI 0)) 4 (nI 0), sS hs s0 (pTp (G 3) tn), mv, G)) := by
  refine RMi_of (lv := [(0, .ref (K 0)), (1, .int (nI s0))]) (cc := cX7_loadTape) (maxL := 3) (ret := (some .int)) rfl rfl (by decide +kernel) (Nat.le_of_ble_eq_true rfl) rfl ?_
  intro p e s m args below meth c X hml hr hlk
  generalize hQ : MQ below _ args s 0 0 _ = Q
  refine zz_aload_n 0 X.1 0 dX7_loadTape_0 rfl ?_
  refine zz_iconst 1 X.1 (v := nI 0) dX7_loadTape_1 rfl ?_
  refine rr_put 2 hAp X 0 (by decide) (F' := upd F 0 (nI 0)) rfl (by decide +kernel) ⟨rfl, rfl⟩ (by decide +kernel) dX7_loadTape_2 ?_
  refine zz_aload_n 5 X.1 0 dX7_loadTape_5 rfl ?_
  refine zz_iload_n 6 X.1 1 dX7_loadTape_6 rfl ?_
  refine rr_callVi 7 X hml (As := [.int (nI s0)]) (kt_X7_noSet l D C K hAp (upd F 0 (nI 0)) hs mv G (nI s0) ((s0 : Nat) : Int) (nI_toInt (by omega)) (by first | rfl | assumption | omega)) gX7_loadTape_X7_noSet rfl ⟨rfl, rfl⟩ yd_X7_noSet ⟨Nat.le_of_ble_eq_true rfl, Nat.le_of_ble_eq_true rfl⟩ rfl rfl (Nat.le_of_ble_eq_true rfl) dX7_loadTape_7 ?_
  rintro r1 ⟨F1, hs1, mv1, G1⟩ hu1
  obtain ⟨rfl, hv1⟩ := (hu1.1 (by omega))
  cases hv1
  refine zz_world (P' := (RP D C K (upd F 0 (nI 0)) hs mv G)) (fun _ h => h) ?_
  refine zz_ifB_ne 10 39 X.1 dX7_loadTape_10 (by decide) (fun h10 => ?_) (fun h10 => ?_)
  · exact absurd h10 (by decide)
  · skip
    refine zz_aload_n 13 X.1 0 dX7_loadTape_13 rfl ?_
    refine zz_bipush 14 X.1 (v := nI 8) dX7_loadTape_14 rfl ?_
    refine zz_aload_n 16 X.1 0 dX7_loadTape_16 rfl ?_
    refine rr_get 17 X 4 (by decide) (v := .int (F 4)) rfl (by decide +kernel) rfl dX7_loadTape_17 ?_
    refine zz_topi (nI tn) (hT) ?_
    refine zz_imul 20 X.1 (v := (nI (8 * tn))) dX7_loadTape_20 (pk_mul _ _) ?_
    refine zz_sipush 21 X.1 (v := nI 1024) dX7_loadTape_21 rfl ?_
    refine zz_icmp_gt 24 31 X.1 (nI_toInt (by omega)) (nI_toInt (by omega)) dX7_loadTape_24 (by decide) (fun h24 => ?_) (fun h24 => ?_)
    · exfalso; omega
    · skip
      refine zz_iconst 27 X.1 (v := nI 1) dX7_loadTape_27 rfl ?_
      refine zz_goto 28 32 X.1 dX7_loadTape_28 (by decide) ?_
      refine zz_iconst 32 X.1 (v := nI 2) dX7_loadTape_32 rfl ?_
      refine rr_callVi 33 X hml (As := [.int (bI true), .int (nI 2)]) (kt_X7_fails l D C K hAp (upd F 0 (nI 0)) hs mv G true 2 (by first | rfl | assumption | omega) (by first | rfl | assumption | omega)) gX7_loadTape_X7_fails rfl ⟨rfl, rfl⟩ yd_X7_fails ⟨Nat.le_of_ble_eq_true rfl, Nat.le_of_ble_eq_true rfl⟩ rfl rfl (Nat.le_of_ble_eq_true rfl) dX7_loadTape_33 ?_
      rintro r2 ⟨F2, hs2, mv2, G2⟩ hu2
      obtain ⟨rfl, hv2⟩ := (hu2.1 (rfl))
      cases hv2
      refine zz_world (P' := (RP D C K (upd F 0 (nI 0)) hs mv G)) (fun _ h => h) ?_
      refine zz_ifB_eq 36 41 X.1 dX7_loadTape_36 (by decide) (fun h36 => ?_) (fun h36 => ?_)
      · skip
        refine zz_aload_n 41 X.1 0 dX7_loadTape_41 rfl ?_
        refine zz_iload_n 42 X.1 1 dX7_loadTape_42 rfl ?_
        refine rr_callVv 43 X hml (As := [.int (nI s0)]) (kt_X7_empties l D C K hAp (upd F 0 (nI 0)) hs mv G s0 (by first | rfl | assumption | omega)) gX7_loadTape_X7_empties rfl ⟨rfl, rfl⟩ yd_X7_empties ⟨Nat.le_of_ble_eq_true rfl, Nat.le_of_ble_eq_true rfl⟩ rfl rfl (Nat.le_of_ble_eq_true rfl) dX7_loadTape_43 ?_
        rintro ⟨F3, hs3, mv3, G3⟩ hu3
        cases hu3
        refine zz_world (P' := (RP D C K (upd F 0 (nI 0)) (sS hs s0 (fun _ => false)) mv G)) (fun _ h => h) ?_
        refine zz_iconst 46 X.1 (v := nI 0) dX7_loadTape_46 rfl ?_
        refine zz_istore_n 47 X.1 (lv' := [(2, .int (nI 0)), (0, .ref (K 0)), (1, .int (nI s0))]) dX7_loadTape_47 (by decide) rfl ?_
        have C48 : ∀ (d : Nat) (i : Nat) (hs1 : Nat → Bool) (hi : i ≤ 8 * tn) (hh : hs1 = sF (sS hs s0 (fun _ => false)) s0 (pTp (G 3) tn) i) (hd : 8 * tn - i < d), ZZ p l e rm_X7_loadTape s m args below meth c 0 0 Q (zz_A (RAd K) s.heap.size) (RP D C K (upd F 0 (nI 0)) hs1 mv G) 3 [(0, .ref (K 0)), (1, .int (nI s0)), (2, .int (nI i))] [] 48 := by
          intro d
          induction d with
          | zero => intro i hs1 hi hh hd; exact absurd hd (Nat.not_lt_zero _)
          | succ d ih48 =>
            intro i hs1 hi hh hd
            refine zz_iload_n 48 X.1 2 dX7_loadTape_48 rfl ?_
            refine zz_bipush 49 X.1 (v := nI 8) dX7_loadTape_49 rfl ?_
            refine zz_aload_n 51 X.1 0 dX7_loadTape_51 rfl ?_
            refine rr_get 52 X 4 (by decide) (v := .int (F 4)) rfl (by decide +kernel) rfl dX7_loadTape_52 ?_
            refine zz_topi (nI tn) (hT) ?_
            refine zz_imul 55 X.1 (v := (nI (8 * tn))) dX7_loadTape_55 (pk_mul _ _) ?_
            refine zz_icmp_ge 56 102 X.1 (nI_toInt (by omega)) (nI_toInt (by omega)) dX7_loadTape_56 (by decide) (fun h56 => ?_) (fun h56 => ?_)
            · skip
              refine rr_hs (hs' := sS hs s0 (pTp (G 3) tn)) ((hh.trans (sF_end (by omega) (fun j h1 h2 => by rw [show sS hs s0 (fun _ => false) (1024 * s0 + j) = hM (sS hs s0 (fun _ => false)) s0 j from rfl, hM_sS h2]; unfold pTp; simp [show ¬ j < 8 * tn by omega]))).trans sS_sS) ?_
              refine zz_aload_n 102 X.1 0 dX7_loadTape_102 rfl ?_
              refine zz_iconst 103 X.1 (v := nI 0) dX7_loadTape_103 rfl ?_
              refine rr_put 104 hAp X 4 (by decide) (F' := upd (upd F 0 (nI 0)) 4 (nI 0)) rfl (by decide +kernel) ⟨rfl, rfl⟩ (by decide +kernel) dX7_loadTape_104 ?_
              refine zz_aload_n 107 X.1 0 dX7_loadTape_107 rfl ?_
              refine zz_iload_n 108 X.1 1 dX7_loadTape_108 rfl ?_
              refine rr_callVi 109 X hml (As := [.int (nI s0)]) (kt_X7_lengthOf l D C K hAp (upd (upd F 0 (nI 0)) 4 (nI 0)) (sS hs s0 (pTp (G 3) tn)) mv G s0 (by first | rfl | assumption | omega)) gX7_loadTape_X7_lengthOf rfl ⟨rfl, rfl⟩ yd_X7_lengthOf ⟨Nat.le_of_ble_eq_true rfl, Nat.le_of_ble_eq_true rfl⟩ rfl rfl (Nat.le_of_ble_eq_true rfl) dX7_loadTape_109 ?_
              rintro r4 ⟨F4, hs4, mv4, G4⟩ hu4
              obtain ⟨rfl, hv4⟩ := hu4
              cases hv4
              refine zz_world (P' := (RP D C K (upd (upd F 0 (nI 0)) 4 (nI 0)) (sS hs s0 (pTp (G 3) tn)) mv G)) (fun _ h => h) ?_
              rw [← hQ]
              refine zz_iret 112 X.1 hr rfl hlk (upd (upd F 0 (nI 0)) 4 (nI 0), sS hs s0 (pTp (G 3) tn), mv, G) ?_ (fun _ h _ => h) dX7_loadTape_112
              exact ⟨by rw [ln_sS], rfl⟩
            · skip
              refine zz_aload_n 59 X.1 0 dX7_loadTape_59 rfl ?_
              refine rr_get 60 X 1 (by decide) (v := .ref (K 1)) rfl (by decide +kernel) rfl dX7_loadTape_60 ?_
              refine zz_sipush 63 X.1 (v := nI 1024) dX7_loadTape_63 rfl ?_
              refine zz_iload_n 66 X.1 1 dX7_loadTape_66 rfl ?_
              refine zz_imul 67 X.1 (v := (nI (1024 * s0))) dX7_loadTape_67 (pk_mul _ _) ?_
              refine zz_iload_n 68 X.1 2 dX7_loadTape_68 rfl ?_
              refine zz_iadd 69 X.1 (v := (nI ((1024 * s0) + i))) dX7_loadTape_69 (nI_add _ _) ?_
              refine zz_aload_n 70 X.1 0 dX7_loadTape_70 rfl ?_
              refine rr_get 71 X 3 (by decide) (v := .ref (K 3)) rfl (by decide +kernel) rfl dX7_loadTape_71 ?_
              refine zz_iload_n 74 X.1 2 dX7_loadTape_74 rfl ?_
              refine zz_bipush 75 X.1 (v := nI 8) dX7_loadTape_75 rfl ?_
              refine zz_idiv 77 X.1 (v := (nI (i / 8))) dX7_loadTape_77 (zn_ne0 (by omega) (by omega)) (pk_div (by omega) (by omega) (by omega)) ?_
              refine rr_iald 78 X 2 3 (len := 400) (f := G 3) rfl (by omega) (by decide) dX7_loadTape_78 ?_
              refine zz_iload_n 79 X.1 2 dX7_loadTape_79 rfl ?_
              refine zz_bipush 80 X.1 (v := nI 8) dX7_loadTape_80 rfl ?_
              refine zz_irem 82 X.1 (v := (nI (i % 8))) dX7_loadTape_82 (zn_ne0 (by omega) (by omega)) (pk_rem (by omega) (by omega) (by omega)) ?_
              refine zz_ishr 83 X.1 (v := (((G 3) (i / 8)) >>> ((nI (i % 8)) &&& 31))) dX7_loadTape_83 rfl ?_
              refine zz_iconst 84 X.1 (v := nI 1) dX7_loadTape_84 rfl ?_
              refine zz_iand 85 X.1 (v := ((((G 3) (i / 8)) >>> ((nI (i % 8)) &&& 31)) &&& (nI 1))) dX7_loadTape_85 rfl ?_
              refine zz_iconst 86 X.1 (v := nI 1) dX7_loadTape_86 rfl ?_
              refine zz_icmp_ne 87 94 X.1 rfl (nI_toInt (by omega)) dX7_loadTape_87 (by decide) (fun h87 => ?_) (fun h87 => ?_)
              · skip
                refine zz_iconst 94 X.1 (v := nI 0) dX7_loadTape_94 rfl ?_
                refine zz_topi (bI false) rfl ?_
                refine rr_hst 95 hAp X (by omega) dX7_loadTape_95 ?_
                refine zz_iinc 96 X.1 2 (v := (nI (i + 1))) (lv' := [(2, .int (nI (i + 1))), (0, .ref (K 0)), (1, .int (nI s0))]) dX7_loadTape_96 rfl (nI_add i 1) (by decide) rfl ?_
                refine zz_goto 99 48 X.1 dX7_loadTape_99 (by decide) ?_
                refine zz_lvs [1, 2, 0] rfl ?_
                exact ih48 (i + 1) (va_up hs1 ((1024 * s0) + i) false) (by omega) (sF_up2 hh (by unfold pTp; first | (rw [decide_eq_true (show i < 8 * tn by omega), (bN_sh (by omega)).mp h87]; rfl) | (rw [Bool.eq_false_iff.mpr (fun z => h87 ((bN_sh (by omega)).mpr z))]; simp))) (by omega)
              · skip
                refine zz_iconst 90 X.1 (v := nI 1) dX7_loadTape_90 rfl ?_
                refine zz_goto 91 95 X.1 dX7_loadTape_91 (by decide) ?_
                refine zz_topi (bI true) rfl ?_
                refine rr_hst 95 hAp X (by omega) dX7_loadTape_95 ?_
                refine zz_iinc 96 X.1 2 (v := (nI (i + 1))) (lv' := [(2, .int (nI (i + 1))), (0, .ref (K 0)), (1, .int (nI s0))]) dX7_loadTape_96 rfl (nI_add i 1) (by decide) rfl ?_
                refine zz_goto 99 48 X.1 dX7_loadTape_99 (by decide) ?_
                refine zz_lvs [1, 2, 0] rfl ?_
                exact ih48 (i + 1) (va_up hs1 ((1024 * s0) + i) true) (by omega) (sF_up2 hh (by unfold pTp; first | (rw [decide_eq_true (show i < 8 * tn by omega), (bN_sh (by omega)).mp h87]; rfl) | (rw [Bool.eq_false_iff.mpr (fun z => h87 ((bN_sh (by omega)).mpr z))]; simp))) (by omega)
        refine zz_lvs [1, 2, 0] rfl ?_
        exact C48 (8 * tn - 0 + 1) 0 (sS hs s0 (fun _ => false)) (by omega) (sF_0.symm) (Nat.lt_succ_self _)
      · exact absurd h36 (by decide)

abbrev rm_X7_wordCount : Room := { frames := 2, cells := 0, slots := 0, locals := 43 }
theorem yd_X7_wordCount : yX7_wordCount.cls = RX7 ∧ yX7_wordCount.cls ≠ "java/lang/invoke/MethodHandle" ∧ yX7_wordCount.cls ≠ "java/lang/invoke/VarHandle" ∧ (parseMethodDescriptor yX7_wordCount.desc).map (fun d => d.parameters.length) = some 1 := by decide +kernel
set_option maxHeartbeats 4000000 in
set_option maxRecDepth 100000 in
theorem kt_X7_wordCount_no (l : Launch) (D : va_G) (C : Nat → ClassId) (K : Nat → Nat) (hAp : RAp K) (F : Nat → Int32) (hs mv : Nat → Bool) (G : Nat → Nat → Int32) (x0 : Int32) (a : Int) (h_a : x0.toInt = a) (hno : ¬ (0 ≤ a ∧ a < 8)) : RMi l yX7_wordCount wsX7_wordCount rm_X7_wordCount D C K [.int x0] F hs mv G (fun (r : Int32) (u : MSt) => r = (nI 0) ∧ u = (upd F 0 (nI 1), hs, mv, G)) := by
  refine RMi_of (lv := [(0, .ref (K 0)), (1, .int x0)]) (cc := cX7_wordCount) (maxL := 2) (ret := (some .int)) rfl rfl (by decide +kernel) (Nat.le_of_ble_eq_true rfl) rfl ?_
  intro p e s m args below meth c X hml hr hlk
  generalize hQ : MQ below _ args s 0 0 _ = Q
  refine zz_aload_n 0 X.1 0 dX7_wordCount_0 rfl ?_
  refine zz_iconst 1 X.1 (v := nI 0) dX7_wordCount_1 rfl ?_
  refine rr_put 2 hAp X 0 (by decide) (F' := upd F 0 (nI 0)) rfl (by decide +kernel) ⟨rfl, rfl⟩ (by decide +kernel) dX7_wordCount_2 ?_
  refine zz_aload_n 5 X.1 0 dX7_wordCount_5 rfl ?_
  refine zz_iload_n 6 X.1 1 dX7_wordCount_6 rfl ?_
  refine rr_callVi 7 X hml (As := [.int x0]) (kt_X7_noSet l D C K hAp (upd F 0 (nI 0)) hs mv G x0 a (h_a) (by first | rfl | assumption | omega)) gX7_wordCount_X7_noSet rfl ⟨rfl, rfl⟩ yd_X7_noSet ⟨Nat.le_of_ble_eq_true rfl, Nat.le_of_ble_eq_true rfl⟩ rfl rfl (Nat.le_of_ble_eq_true rfl) dX7_wordCount_7 ?_
  rintro r1 ⟨F1, hs1, mv1, G1⟩ hu1
  rcases (show (0 ≤ a ∧ a < 8) ∨ (¬ (0 ≤ a ∧ a < 8)) by omega) with hc1 | hc1
  · exfalso; omega
  · skip
    obtain ⟨rfl, hv1⟩ := (hu1.2 hc1)
    cases hv1
    refine zz_world (P' := (RP D C K (upd F 0 (nI 1)) hs mv G)) (fun _ h => h) ?_
    refine zz_ifB_eq 10 17 X.1 dX7_wordCount_10 (by decide) (fun h10 => ?_) (fun h10 => ?_)
    · exact absurd h10 (by decide)
    · skip
      refine zz_iconst 13 X.1 (v := nI 0) dX7_wordCount_13 rfl ?_
      refine zz_goto 14 28 X.1 dX7_wordCount_14 (by decide) ?_
      rw [← hQ]
      refine zz_iret 28 X.1 hr rfl hlk (upd F 0 (nI 1), hs, mv, G) ?_ (fun _ h _ => h) dX7_wordCount_28
      exact ⟨rfl, rfl⟩

set_option maxHeartbeats 4000000 in
set_option maxRecDepth 100000 in
theorem kt_X7_wordCount_ok (l : Launch) (D : va_G) (C : Nat → ClassId) (K : Nat → Nat) (hAp : RAp K) (F : Nat → Int32) (hs mv : Nat → Bool) (G : Nat → Nat → Int32) (s0 : Nat) (hs0 : s0 < 8) : RMi l yX7_wordCount wsX7_wordCount rm_X7_wordCount D C K [.int (nI s0)] F hs mv G (fun (r : Int32) (u : MSt) => r = (nI ((ln (hM hs s0) 1024 + 63) / 64)) ∧ u = (upd F 0 (nI 0), hs, mv, G)) := by
  refine RMi_of (lv := [(0, .ref (K 0)), (1, .int (nI s0))]) (cc := cX7_wordCount) (maxL := 2) (ret := (some .int)) rfl rfl (by decide +kernel) (Nat.le_of_ble_eq_true rfl) rfl ?_
  intro p e s m args below meth c X hml hr hlk
  generalize hQ : MQ below _ args s 0 0 _ = Q
  refine zz_aload_n 0 X.1 0 dX7_wordCount_0 rfl ?_
  refine zz_iconst 1 X.1 (v := nI 0) dX7_wordCount_1 rfl ?_
  refine rr_put 2 hAp X 0 (by decide) (F' := upd F 0 (nI 0)) rfl (by decide +kernel) ⟨rfl, rfl⟩ (by decide +kernel) dX7_wordCount_2 ?_
  refine zz_aload_n 5 X.1 0 dX7_wordCount_5 rfl ?_
  refine zz_iload_n 6 X.1 1 dX7_wordCount_6 rfl ?_
  refine rr_callVi 7 X hml (As := [.int (nI s0)]) (kt_X7_noSet l D C K hAp (upd F 0 (nI 0)) hs mv G (nI s0) ((s0 : Nat) : Int) (nI_toInt (by omega)) (by first | rfl | assumption | omega)) gX7_wordCount_X7_noSet rfl ⟨rfl, rfl⟩ yd_X7_noSet ⟨Nat.le_of_ble_eq_true rfl, Nat.le_of_ble_eq_true rfl⟩ rfl rfl (Nat.le_of_ble_eq_true rfl) dX7_wordCount_7 ?_
  rintro r1 ⟨F1, hs1, mv1, G1⟩ hu1
  obtain ⟨rfl, hv1⟩ := (hu1.1 (by omega))
  cases hv1
  refine zz_world (P' := (RP D C K (upd F 0 (nI 0)) hs mv G)) (fun _ h => h) ?_
  refine zz_ifB_eq 10 17 X.1 dX7_wordCount_10 (by decide) (fun h10 => ?_) (fun h10 => ?_)
  · skip
    have hl := ln_le (hM hs s0) 1024
    refine zz_aload_n 17 X.1 0 dX7_wordCount_17 rfl ?_
    refine zz_iload_n 18 X.1 1 dX7_wordCount_18 rfl ?_
    refine rr_callVi 19 X hml (As := [.int (nI s0)]) (kt_X7_lengthOf l D C K hAp (upd F 0 (nI 0)) hs mv G s0 (by first | rfl | assumption | omega)) gX7_wordCount_X7_lengthOf rfl ⟨rfl, rfl⟩ yd_X7_lengthOf ⟨Nat.le_of_ble_eq_true rfl, Nat.le_of_ble_eq_true rfl⟩ rfl rfl (Nat.le_of_ble_eq_true rfl) dX7_wordCount_19 ?_
    rintro r2 ⟨F2, hs2, mv2, G2⟩ hu2
    obtain ⟨rfl, hv2⟩ := hu2
    cases hv2
    refine zz_world (P' := (RP D C K (upd F 0 (nI 0)) hs mv G)) (fun _ h => h) ?_
    refine zz_bipush 22 X.1 (v := nI 63) dX7_wordCount_22 rfl ?_
    refine zz_iadd 24 X.1 (v := (nI ((ln (hM hs s0) 1024) + 63))) dX7_wordCount_24 (nI_add _ _) ?_
    refine zz_bipush 25 X.1 (v := nI 64) dX7_wordCount_25 rfl ?_
    refine zz_idiv 27 X.1 (v := (nI (((ln (hM hs s0) 1024) + 63) / 64))) dX7_wordCount_27 (zn_ne0 (by omega) (by omega)) (pk_div (by omega) (by omega) (by omega)) ?_
    rw [← hQ]
    refine zz_iret 28 X.1 hr rfl hlk (upd F 0 (nI 0), hs, mv, G) ?_ (fun _ h _ => h) dX7_wordCount_28
    exact ⟨rfl, rfl⟩
  · exact absurd h10 (by decide)

abbrev rm_X7_byteCount : Room := { frames := 2, cells := 0, slots := 0, locals := 43 }
theorem yd_X7_byteCount : yX7_byteCount.cls = RX7 ∧ yX7_byteCount.cls ≠ "java/lang/invoke/MethodHandle" ∧ yX7_byteCount.cls ≠ "java/lang/invoke/VarHandle" ∧ (parseMethodDescriptor yX7_byteCount.desc).map (fun d => d.parameters.length) = some 1 := by decide +kernel
set_option maxHeartbeats 4000000 in
set_option maxRecDepth 100000 in
theorem kt_X7_byteCount_no (l : Launch) (D : va_G) (C : Nat → ClassId) (K : Nat → Nat) (hAp : RAp K) (F : Nat → Int32) (hs mv : Nat → Bool) (G : Nat → Nat → Int32) (x0 : Int32) (a : Int) (h_a : x0.toInt = a) (hno : ¬ (0 ≤ a ∧ a < 8)) : RMi l yX7_byteCount wsX7_byteCount rm_X7_byteCount D C K [.int x0] F hs mv G (fun (r : Int32) (u : MSt) => r = (nI 0) ∧ u = (upd F 0 (nI 1), hs, mv, G)) := by
  refine RMi_of (lv := [(0, .ref (K 0)), (1, .int x0)]) (cc := cX7_byteCount) (maxL := 2) (ret := (some .int)) rfl rfl (by decide +kernel) (Nat.le_of_ble_eq_true rfl) rfl ?_
  intro p e s m args below meth c X hml hr hlk
  generalize hQ : MQ below _ args s 0 0 _ = Q
  refine zz_aload_n 0 X.1 0 dX7_byteCount_0 rfl ?_
  refine zz_iconst 1 X.1 (v := nI 0) dX7_byteCount_1 rfl ?_
  refine rr_put 2 hAp X 0 (by decide) (F' := upd F 0 (nI 0)) rfl (by decide +kernel) ⟨rfl, rfl⟩ (by decide +kernel) dX7_byteCount_2 ?_
  refine zz_aload_n 5 X.1 0 dX7_byteCount_5 rfl ?_
  refine zz_iload_n 6 X.1 1 dX7_byteCount_6 rfl ?_
  refine rr_callVi 7 X hml (As := [.int x0]) (kt_X7_noSet l D C K hAp (upd F 0 (nI 0)) hs mv G x0 a (h_a) (by first | rfl | assumption | omega)) gX7_byteCount_X7_noSet rfl ⟨rfl, rfl⟩ yd_X7_noSet ⟨Nat.le_of_ble_eq_true rfl, Nat.le_of_ble_eq_true rfl⟩ rfl rfl (Nat.le_of_ble_eq_true rfl) dX7_byteCount_7 ?_
  rintro r1 ⟨F1, hs1, mv1, G1⟩ hu1
  rcases (show (0 ≤ a ∧ a < 8) ∨ (¬ (0 ≤ a ∧ a < 8)) by omega) with hc1 | hc1
  · exfalso; omega
  · skip
    obtain ⟨rfl, hv1⟩ := (hu1.2 hc1)
    cases hv1
    refine zz_world (P' := (RP D C K (upd F 0 (nI 1)) hs mv G)) (fun _ h => h) ?_
    refine zz_ifB_eq 10 17 X.1 dX7_byteCount_10 (by decide) (fun h10 => ?_) (fun h10 => ?_)
    · exact absurd h10 (by decide)
    · skip
      refine zz_iconst 13 X.1 (v := nI 0) dX7_byteCount_13 rfl ?_
      refine zz_goto 14 28 X.1 dX7_byteCount_14 (by decide) ?_
      rw [← hQ]
      refine zz_iret 28 X.1 hr rfl hlk (upd F 0 (nI 1), hs, mv, G) ?_ (fun _ h _ => h) dX7_byteCount_28
      exact ⟨rfl, rfl⟩

set_option maxHeartbeats 4000000 in
set_option maxRecDepth 100000 in
theorem kt_X7_byteCount_ok (l : Launch) (D : va_G) (C : Nat → ClassId) (K : Nat → Nat) (hAp : RAp K) (F : Nat → Int32) (hs mv : Nat → Bool) (G : Nat → Nat → Int32) (s0 : Nat) (hs0 : s0 < 8) : RMi l yX7_byteCount wsX7_byteCount rm_X7_byteCount D C K [.int (nI s0)] F hs mv G (fun (r : Int32) (u : MSt) => r = (nI ((ln (hM hs s0) 1024 + 7) / 8)) ∧ u = (upd F 0 (nI 0), hs, mv, G)) := by
  refine RMi_of (lv := [(0, .ref (K 0)), (1, .int (nI s0))]) (cc := cX7_byteCount) (maxL := 2) (ret := (some .int)) rfl rfl (by decide +kernel) (Nat.le_of_ble_eq_true rfl) rfl ?_
  intro p e s m args below meth c X hml hr hlk
  generalize hQ : MQ below _ args s 0 0 _ = Q
  refine zz_aload_n 0 X.1 0 dX7_byteCount_0 rfl ?_
  refine zz_iconst 1 X.1 (v := nI 0) dX7_byteCount_1 rfl ?_
  refine rr_put 2 hAp X 0 (by decide) (F' := upd F 0 (nI 0)) rfl (by decide +kernel) ⟨rfl, rfl⟩ (by decide +kernel) dX7_byteCount_2 ?_
  refine zz_aload_n 5 X.1 0 dX7_byteCount_5 rfl ?_
  refine zz_iload_n 6 X.1 1 dX7_byteCount_6 rfl ?_
  refine rr_callVi 7 X hml (As := [.int (nI s0)]) (kt_X7_noSet l D C K hAp (upd F 0 (nI 0)) hs mv G (nI s0) ((s0 : Nat) : Int) (nI_toInt (by omega)) (by first | rfl | assumption | omega)) gX7_byteCount_X7_noSet rfl ⟨rfl, rfl⟩ yd_X7_noSet ⟨Nat.le_of_ble_eq_true rfl, Nat.le_of_ble_eq_true rfl⟩ rfl rfl (Nat.le_of_ble_eq_true rfl) dX7_byteCount_7 ?_
  rintro r1 ⟨F1, hs1, mv1, G1⟩ hu1
  obtain ⟨rfl, hv1⟩ := (hu1.1 (by omega))
  cases hv1
  refine zz_world (P' := (RP D C K (upd F 0 (nI 0)) hs mv G)) (fun _ h => h) ?_
  refine zz_ifB_eq 10 17 X.1 dX7_byteCount_10 (by decide) (fun h10 => ?_) (fun h10 => ?_)
  · skip
    have hl := ln_le (hM hs s0) 1024
    refine zz_aload_n 17 X.1 0 dX7_byteCount_17 rfl ?_
    refine zz_iload_n 18 X.1 1 dX7_byteCount_18 rfl ?_
    refine rr_callVi 19 X hml (As := [.int (nI s0)]) (kt_X7_lengthOf l D C K hAp (upd F 0 (nI 0)) hs mv G s0 (by first | rfl | assumption | omega)) gX7_byteCount_X7_lengthOf rfl ⟨rfl, rfl⟩ yd_X7_lengthOf ⟨Nat.le_of_ble_eq_true rfl, Nat.le_of_ble_eq_true rfl⟩ rfl rfl (Nat.le_of_ble_eq_true rfl) dX7_byteCount_19 ?_
    rintro r2 ⟨F2, hs2, mv2, G2⟩ hu2
    obtain ⟨rfl, hv2⟩ := hu2
    cases hv2
    refine zz_world (P' := (RP D C K (upd F 0 (nI 0)) hs mv G)) (fun _ h => h) ?_
    refine zz_bipush 22 X.1 (v := nI 7) dX7_byteCount_22 rfl ?_
    refine zz_iadd 24 X.1 (v := (nI ((ln (hM hs s0) 1024) + 7))) dX7_byteCount_24 (nI_add _ _) ?_
    refine zz_bipush 25 X.1 (v := nI 8) dX7_byteCount_25 rfl ?_
    refine zz_idiv 27 X.1 (v := (nI (((ln (hM hs s0) 1024) + 7) / 8))) dX7_byteCount_27 (zn_ne0 (by omega) (by omega)) (pk_div (by omega) (by omega) (by omega)) ?_
    rw [← hQ]
    refine zz_iret 28 X.1 hr rfl hlk (upd F 0 (nI 0), hs, mv, G) ?_ (fun _ h _ => h) dX7_byteCount_28
    exact ⟨rfl, rfl⟩
  · exact absurd h10 (by decide)

abbrev rm_X7_told : Room := { frames := 0, cells := 0, slots := 0, locals := 0 }
theorem yd_X7_told : yX7_told.cls = RX7 ∧ yX7_told.cls ≠ "java/lang/invoke/MethodHandle" ∧ yX7_told.cls ≠ "java/lang/invoke/VarHandle" ∧ (parseMethodDescriptor yX7_told.desc).map (fun d => d.parameters.length) = some 3 := by decide +kernel
set_option maxHeartbeats 4000000 in
set_option maxRecDepth 100000 in
theorem kt_X7_told (l : Launch) (D : va_G) (C : Nat → ClassId) (K : Nat → Nat) (hAp : RAp K) (F : Nat → Int32) (hs mv : Nat → Bool) (G : Nat → Nat → Int32) (s0 : Nat) (f : Nat) (n : Nat) (hs0 : s0 < 8) (hf : f + n ≤ 1024 ∧ 1 ≤ n ∧ n ≤ 64) : RMl l yX7_told wsX7_told rm_X7_told D C K [.int (nI s0), .int (nI f), .int (nI n)] F hs mv G (fun (r : Int64) (u : MSt) => r = (lN (nB (hM hs s0) f n)) ∧ u = (F, hs, mv, G)) := by
  refine RMl_of (lv := [(0, .ref (K 0)), (1, .int (nI s0)), (2, .int (nI f)), (3, .int (nI n))]) (cc := cX7_told) (maxL := 7) (ret := (some .long)) rfl rfl (by decide +kernel) (Nat.le_of_ble_eq_true rfl) rfl ?_
  intro p e s m args below meth c X hml hr hlk
  generalize hQ : MQ below _ args s 0 0 _ = Q
  refine zz_lconst 0 X.1 (v := 0) dX7_told_0 (by decide) ?_
  refine zz_lstore 1 X.1 (lv' := [(4, .long 0), (0, .ref (K 0)), (1, .int (nI s0)), (2, .int (nI f)), (3, .int (nI n))]) dX7_told_1 (by decide) rfl ?_
  refine zz_iload_n 3 X.1 4 dX7_told_3 rfl ?_
  refine zz_iconst 4 X.1 (v := nI 1) dX7_told_4 rfl ?_
  refine zz_isub 5 X.1 (v := (nI (n - 1))) dX7_told_5 (pk_sub (by omega)) ?_
  refine zz_istore 6 X.1 (lv' := [(6, .int (nI (n - 1))), (4, .long 0), (0, .ref (K 0)), (1, .int (nI s0)), (2, .int (nI f)), (3, .int (nI n))]) dX7_told_6 (by decide) rfl ?_
  have C8 : ∀ (d : Nat) (j : Nat) (v1 : Nat) (x6 : Int32) (hj : j ≤ n) (hx : x6.toInt = (j : Int) - 1) (hv : v1 * 2 ^ j + nB (hM hs s0) f j = nB (hM hs s0) f n) (hd : j < d), ZZ p l e rm_X7_told s m args below meth c 0 0 Q (zz_A (RAd K) s.heap.size) (RP D C K F hs mv G) 7 [(0, .ref (K 0)), (1, .int (nI s0)), (2, .int (nI f)), (4, .long (lN v1)), (6, .int x6)] [] 8 := by
    intro d
    induction d with
    | zero => intro j v1 x6 hj hx hv hd; exact absurd hd (Nat.not_lt_zero _)
    | succ d ih8 =>
      intro j v1 x6 hj hx hv hd
      refine zz_iload 8 X.1 4 dX7_told_8 rfl ?_
      refine zz_if_lt 10 51 X.1 hx dX7_told_10 (by decide) (fun h10 => ?_) (fun h10 => ?_)
      · skip
        refine zz_lload 51 X.1 3 dX7_told_51 rfl ?_
        rw [← hQ]
        refine zz_lret 53 X.1 hr hlk (F, hs, mv, G) ?_ (fun _ h _ => h) dX7_told_53
        refine ⟨?_, rfl⟩
        rw [← hv, show j = 0 by omega]
        rw [show v1 * 2 ^ 0 + nB (hM hs s0) f 0 = v1 by simp [nB]]
      · skip
        obtain ⟨jj, rfl⟩ : ∃ jj, j = jj + 1 := ⟨j - 1, by omega⟩
        obtain rfl : x6 = nI jj := zi_of (by omega)
        refine zz_ldc2 13 X.1 (v := 2) dX7_told_13 X.2.2.2.1 (by exact (X.2.1 _ (by decide +kernel))) ?_
        refine zz_lload 16 X.1 3 dX7_told_16 rfl ?_
        refine zz_lmul 18 X.1 (v := lN (2 * v1)) dX7_told_18 (lN_mul 2 v1) ?_
        refine zz_aload_n 19 X.1 0 dX7_told_19 rfl ?_
        refine rr_get 20 X 1 (by decide) (v := .ref (K 1)) rfl (by decide +kernel) rfl dX7_told_20 ?_
        refine zz_sipush 23 X.1 (v := nI 1024) dX7_told_23 rfl ?_
        refine zz_iload_n 26 X.1 1 dX7_told_26 rfl ?_
        refine zz_imul 27 X.1 (v := (nI (1024 * s0))) dX7_told_27 (pk_mul _ _) ?_
        refine zz_iload_n 28 X.1 2 dX7_told_28 rfl ?_
        refine zz_iadd 29 X.1 (v := (nI ((1024 * s0) + f))) dX7_told_29 (nI_add _ _) ?_
        refine zz_iload 30 X.1 4 dX7_told_30 rfl ?_
        refine zz_iadd 32 X.1 (v := (nI (((1024 * s0) + f) + jj))) dX7_told_32 (nI_add _ _) ?_
        refine rr_hld 33 X (by omega) dX7_told_33 ?_
        refine zz_ifB_eq 34 41 X.1 dX7_told_34 (by decide) (fun h34 => ?_) (fun h34 => ?_)
        · skip
          refine zz_lconst 41 X.1 (v := 0) dX7_told_41 (by decide) ?_
          refine zz_ladd 42 X.1 (v := lN (2 * v1 + 0)) dX7_told_42 (lN_add _ 0) ?_
          refine zz_lstore 43 X.1 (lv' := [(4, .long (lN (2 * v1 + 0))), (0, .ref (K 0)), (1, .int (nI s0)), (2, .int (nI f)), (6, .int (nI jj))]) dX7_told_43 (by decide) rfl ?_
          refine zz_iinc 45 X.1 4 (v := (nI jj + (-1))) (lv' := [(6, .int (nI jj + (-1))), (4, .long (lN (2 * v1 + 0))), (0, .ref (K 0)), (1, .int (nI s0)), (2, .int (nI f))]) dX7_told_45 rfl rfl (by decide) rfl ?_
          refine zz_goto 48 8 X.1 dX7_told_48 (by decide) ?_
          refine zz_lvs [2, 3, 4, 1, 0] rfl ?_
          exact ih8 jj (2 * v1 + 0) (nI jj + (-1)) (by omega) (zi_decN (by omega)) (told_step hv (by simp [hM, ← Nat.add_assoc, h34])) (by omega)
        · skip
          refine zz_lconst 37 X.1 (v := 1) dX7_told_37 (by decide) ?_
          refine zz_goto 38 42 X.1 dX7_told_38 (by decide) ?_
          refine zz_ladd 42 X.1 (v := lN (2 * v1 + 1)) dX7_told_42 (lN_add _ 1) ?_
          refine zz_lstore 43 X.1 (lv' := [(4, .long (lN (2 * v1 + 1))), (0, .ref (K 0)), (1, .int (nI s0)), (2, .int (nI f)), (6, .int (nI jj))]) dX7_told_43 (by decide) rfl ?_
          refine zz_iinc 45 X.1 4 (v := (nI jj + (-1))) (lv' := [(6, .int (nI jj + (-1))), (4, .long (lN (2 * v1 + 1))), (0, .ref (K 0)), (1, .int (nI s0)), (2, .int (nI f))]) dX7_told_45 rfl rfl (by decide) rfl ?_
          refine zz_goto 48 8 X.1 dX7_told_48 (by decide) ?_
          refine zz_lvs [2, 3, 4, 1, 0] rfl ?_
          exact ih8 jj (2 * v1 + 1) (nI jj + (-1)) (by omega) (zi_decN (by omega)) (told_step hv (by simp [hM, ← Nat.add_assoc, h34])) (by omega)
  refine zz_lvs [2, 3, 4, 1, 0] rfl ?_
  exact C8 (n + 1) n 0 (nI (n - 1)) (by omega) (by rw [nI_toInt (by omega)]; omega) (by omega) (Nat.lt_succ_self _)

abbrev rm_X7_wordAt : Room := { frames := 2, cells := 0, slots := 0, locals := 43 }
theorem yd_X7_wordAt : yX7_wordAt.cls = RX7 ∧ yX7_wordAt.cls ≠ "java/lang/invoke/MethodHandle" ∧ yX7_wordAt.cls ≠ "java/lang/invoke/VarHandle" ∧ (parseMethodDescriptor yX7_wordAt.desc).map (fun d => d.parameters.length) = some 2 := by decide +kernel
set_option maxHeartbeats 4000000 in
set_option maxRecDepth 100000 in
theorem kt_X7_wordAt_no (l : Launch) (D : va_G) (C : Nat → ClassId) (K : Nat → Nat) (hAp : RAp K) (F : Nat → Int32) (hs mv : Nat → Bool) (G : Nat → Nat → Int32) (x0 : Int32) (x1 : Int32) (a : Int) (h_a : x0.toInt = a) (hno : ¬ (0 ≤ a ∧ a < 8)) : RMl l yX7_wordAt wsX7_wordAt rm_X7_wordAt D C K [.int x0, .int x1] F hs mv G (fun (r : Int64) (u : MSt) => r = 0 ∧ u = (upd F 0 (nI 1), hs, mv, G)) := by
  refine RMl_of (lv := [(0, .ref (K 0)), (1, .int x0), (2, .int x1)]) (cc := cX7_wordAt) (maxL := 3) (ret := (some .long)) rfl rfl (by decide +kernel) (Nat.le_of_ble_eq_true rfl) rfl ?_
  intro p e s m args below meth c X hml hr hlk
  generalize hQ : MQ below _ args s 0 0 _ = Q
  refine zz_aload_n 0 X.1 0 dX7_wordAt_0 rfl ?_
  refine zz_iconst 1 X.1 (v := nI 0) dX7_wordAt_1 rfl ?_
  refine rr_put 2 hAp X 0 (by decide) (F' := upd F 0 (nI 0)) rfl (by decide +kernel) ⟨rfl, rfl⟩ (by decide +kernel) dX7_wordAt_2 ?_
  refine zz_aload_n 5 X.1 0 dX7_wordAt_5 rfl ?_
  refine zz_iload_n 6 X.1 1 dX7_wordAt_6 rfl ?_
  refine rr_callVi 7 X hml (As := [.int x0]) (kt_X7_noSet l D C K hAp (upd F 0 (nI 0)) hs mv G x0 a (h_a) (by first | rfl | assumption | omega)) gX7_wordAt_X7_noSet rfl ⟨rfl, rfl⟩ yd_X7_noSet ⟨Nat.le_of_ble_eq_true rfl, Nat.le_of_ble_eq_true rfl⟩ rfl rfl (Nat.le_of_ble_eq_true rfl) dX7_wordAt_7 ?_
  rintro r1 ⟨F1, hs1, mv1, G1⟩ hu1
  rcases (show (0 ≤ a ∧ a < 8) ∨ (¬ (0 ≤ a ∧ a < 8)) by omega) with hc1 | hc1
  · exfalso; omega
  · skip
    obtain ⟨rfl, hv1⟩ := (hu1.2 hc1)
    cases hv1
    refine zz_world (P' := (RP D C K (upd F 0 (nI 1)) hs mv G)) (fun _ h => h) ?_
    refine zz_ifB_ne 10 39 X.1 dX7_wordAt_10 (by decide) (fun h10 => ?_) (fun h10 => ?_)
    · skip
      refine zz_lconst 39 X.1 (v := 0) dX7_wordAt_39 (by decide) ?_
      rw [← hQ]
      refine zz_lret 40 X.1 hr hlk (upd F 0 (nI 1), hs, mv, G) ?_ (fun _ h _ => h) dX7_wordAt_40
      exact ⟨rfl, rfl⟩
    · exact absurd h10 (by decide)

abbrev rm_X7_byteAt : Room := { frames := 2, cells := 0, slots := 0, locals := 43 }
theorem yd_X7_byteAt : yX7_byteAt.cls = RX7 ∧ yX7_byteAt.cls ≠ "java/lang/invoke/MethodHandle" ∧ yX7_byteAt.cls ≠ "java/lang/invoke/VarHandle" ∧ (parseMethodDescriptor yX7_byteAt.desc).map (fun d => d.parameters.length) = some 2 := by decide +kernel
set_option maxHeartbeats 4000000 in
set_option maxRecDepth 100000 in
theorem kt_X7_byteAt_no (l : Launch) (D : va_G) (C : Nat → ClassId) (K : Nat → Nat) (hAp : RAp K) (F : Nat → Int32) (hs mv : Nat → Bool) (G : Nat → Nat → Int32) (x0 : Int32) (x1 : Int32) (a : Int) (h_a : x0.toInt = a) (hno : ¬ (0 ≤ a ∧ a < 8)) : RMi l yX7_byteAt wsX7_byteAt rm_X7_byteAt D C K [.int x0, .int x1] F hs mv G (fun (r : Int32) (u : MSt) => r = (nI 0) ∧ u = (upd F 0 (nI 1), hs, mv, G)) := by
  refine RMi_of (lv := [(0, .ref (K 0)), (1, .int x0), (2, .int x1)]) (cc := cX7_byteAt) (maxL := 3) (ret := (some .int)) rfl rfl (by decide +kernel) (Nat.le_of_ble_eq_true rfl) rfl ?_
  intro p e s m args below meth c X hml hr hlk
  generalize hQ : MQ below _ args s 0 0 _ = Q
  refine zz_aload_n 0 X.1 0 dX7_byteAt_0 rfl ?_
  refine zz_iconst 1 X.1 (v := nI 0) dX7_byteAt_1 rfl ?_
  refine rr_put 2 hAp X 0 (by decide) (F' := upd F 0 (nI 0)) rfl (by decide +kernel) ⟨rfl, rfl⟩ (by decide +kernel) dX7_byteAt_2 ?_
  refine zz_aload_n 5 X.1 0 dX7_byteAt_5 rfl ?_
  refine zz_iload_n 6 X.1 1 dX7_byteAt_6 rfl ?_
  refine rr_callVi 7 X hml (As := [.int x0]) (kt_X7_noSet l D C K hAp (upd F 0 (nI 0)) hs mv G x0 a (h_a) (by first | rfl | assumption | omega)) gX7_byteAt_X7_noSet rfl ⟨rfl, rfl⟩ yd_X7_noSet ⟨Nat.le_of_ble_eq_true rfl, Nat.le_of_ble_eq_true rfl⟩ rfl rfl (Nat.le_of_ble_eq_true rfl) dX7_byteAt_7 ?_
  rintro r1 ⟨F1, hs1, mv1, G1⟩ hu1
  rcases (show (0 ≤ a ∧ a < 8) ∨ (¬ (0 ≤ a ∧ a < 8)) by omega) with hc1 | hc1
  · exfalso; omega
  · skip
    obtain ⟨rfl, hv1⟩ := (hu1.2 hc1)
    cases hv1
    refine zz_world (P' := (RP D C K (upd F 0 (nI 1)) hs mv G)) (fun _ h => h) ?_
    refine zz_ifB_ne 10 39 X.1 dX7_byteAt_10 (by decide) (fun h10 => ?_) (fun h10 => ?_)
    · skip
      refine zz_iconst 39 X.1 (v := nI 0) dX7_byteAt_39 rfl ?_
      rw [← hQ]
      refine zz_iret 40 X.1 hr rfl hlk (upd F 0 (nI 1), hs, mv, G) ?_ (fun _ h _ => h) dX7_byteAt_40
      exact ⟨rfl, rfl⟩
    · exact absurd h10 (by decide)

set_option maxHeartbeats 4000000 in
set_option maxRecDepth 100000 in
theorem kt_X7_wordAt_no2 (l : Launch) (D : va_G) (C : Nat → ClassId) (K : Nat → Nat) (hAp : RAp K) (F : Nat → Int32) (hs mv : Nat → Bool) (G : Nat → Nat → Int32) (s0 : Nat) (x1 : Int32) (b : Int) (h_b : x1.toInt = b) (hs0 : s0 < 8) (hno : ¬ (0 ≤ b ∧ b < ((((ln (hM hs s0) 1024 + 63) / 64 : Nat)) : Int))) : RMl l yX7_wordAt wsX7_wordAt rm_X7_wordAt D C K [.int (nI s0), .int x1] F hs mv G (fun (r : Int64) (u : MSt) => r = 0 ∧ u = (upd F 0 (nI 2), hs, mv, G)) := by
  refine RMl_of (lv := [(0, .ref (K 0)), (1, .int (nI s0)), (2, .int x1)]) (cc := cX7_wordAt) (maxL := 3) (ret := (some .long)) rfl rfl (by decide +kernel) (Nat.le_of_ble_eq_true rfl) rfl ?_
  intro p e s m args below meth c X hml hr hlk
  generalize hQ : MQ below _ args s 0 0 _ = Q
  refine zz_aload_n 0 X.1 0 dX7_wordAt_0 rfl ?_
  refine zz_iconst 1 X.1 (v := nI 0) dX7_wordAt_1 rfl ?_
  refine rr_put 2 hAp X 0 (by decide) (F' := upd F 0 (nI 0)) rfl (by decide +kernel) ⟨rfl, rfl⟩ (by decide +kernel) dX7_wordAt_2 ?_
  refine zz_aload_n 5 X.1 0 dX7_wordAt_5 rfl ?_
  refine zz_iload_n 6 X.1 1 dX7_wordAt_6 rfl ?_
  refine rr_callVi 7 X hml (As := [.int (nI s0)]) (kt_X7_noSet l D C K hAp (upd F 0 (nI 0)) hs mv G (nI s0) ((s0 : Nat) : Int) (nI_toInt (by omega)) (by first | rfl | assumption | omega)) gX7_wordAt_X7_noSet rfl ⟨rfl, rfl⟩ yd_X7_noSet ⟨Nat.le_of_ble_eq_true rfl, Nat.le_of_ble_eq_true rfl⟩ rfl rfl (Nat.le_of_ble_eq_true rfl) dX7_wordAt_7 ?_
  rintro r1 ⟨F1, hs1, mv1, G1⟩ hu1
  obtain ⟨rfl, hv1⟩ := (hu1.1 (by omega))
  cases hv1
  refine zz_world (P' := (RP D C K (upd F 0 (nI 0)) hs mv G)) (fun _ h => h) ?_
  refine zz_ifB_ne 10 39 X.1 dX7_wordAt_10 (by decide) (fun h10 => ?_) (fun h10 => ?_)
  · exact absurd h10 (by decide)
  · skip
    have hl := ln_le (hM hs s0) 1024
    refine zz_aload_n 13 X.1 0 dX7_wordAt_13 rfl ?_
    refine zz_iload_n 14 X.1 2 dX7_wordAt_14 rfl ?_
    refine zz_iconst 15 X.1 (v := nI 0) dX7_wordAt_15 rfl ?_
    refine zz_aload_n 16 X.1 0 dX7_wordAt_16 rfl ?_
    refine zz_iload_n 17 X.1 1 dX7_wordAt_17 rfl ?_
    refine rr_callVi 18 X hml (As := [.int (nI s0)]) (kt_X7_lengthOf l D C K hAp (upd F 0 (nI 0)) hs mv G s0 (by first | rfl | assumption | omega)) gX7_wordAt_X7_lengthOf rfl ⟨rfl, rfl⟩ yd_X7_lengthOf ⟨Nat.le_of_ble_eq_true rfl, Nat.le_of_ble_eq_true rfl⟩ rfl rfl (Nat.le_of_ble_eq_true rfl) dX7_wordAt_18 ?_
    rintro r2 ⟨F2, hs2, mv2, G2⟩ hu2
    obtain ⟨rfl, hv2⟩ := hu2
    cases hv2
    refine zz_world (P' := (RP D C K (upd F 0 (nI 0)) hs mv G)) (fun _ h => h) ?_
    refine zz_bipush 21 X.1 (v := nI 63) dX7_wordAt_21 rfl ?_
    refine zz_iadd 23 X.1 (v := (nI ((ln (hM hs s0) 1024) + 63))) dX7_wordAt_23 (nI_add _ _) ?_
    refine zz_bipush 24 X.1 (v := nI 64) dX7_wordAt_24 rfl ?_
    refine zz_idiv 26 X.1 (v := (nI (((ln (hM hs s0) 1024) + 63) / 64))) dX7_wordAt_26 (zn_ne0 (by omega) (by omega)) (pk_div (by omega) (by omega) (by omega)) ?_
    refine zz_iconst 27 X.1 (v := nI 1) dX7_wordAt_27 rfl ?_
    refine zz_isub 28 X.1 (v := (nI (((ln (hM hs s0) 1024) + 63) / 64) - nI 1)) dX7_wordAt_28 rfl ?_
    refine zz_callS0i 29 ⟨X.1.1, X.1.2, hml, X.2.2.2.1, X.2.1⟩ (fun q h => Or.inr h) RP_keep (As := [.int x1, .int (nI 0), .int (nI (((ln (hM hs s0) 1024) + 63) / 64) - nI 1)]) (kt_X7_in l x1 (nI 0) (nI (((ln (hM hs s0) 1024) + 63) / 64) - nI 1) b ((0 : Nat) : Int) (((((ln (hM hs s0) 1024) + 63) / 64 : Nat) : Int) - ((1 : Nat) : Int)) (h_b) (nI_toInt (by omega)) ((pk_sub_toInt (by omega) (by omega)))) gX7_wordAt_X7_in rfl ⟨rfl, rfl⟩ yd_X7_in.2 ⟨Nat.le_of_ble_eq_true rfl, Nat.le_of_ble_eq_true rfl⟩ rfl rfl (Nat.le_of_ble_eq_true rfl) ⟨Nat.zero_le _, Nat.zero_le _⟩ dX7_wordAt_29 ?_
    intro r3 hu3
    obtain rfl := (hu3.2 (by omega))
    refine zz_iconst 32 X.1 (v := nI 2) dX7_wordAt_32 rfl ?_
    refine rr_callVi 33 X hml (As := [.int (bI false), .int (nI 2)]) (kt_X7_fails l D C K hAp (upd F 0 (nI 0)) hs mv G false 2 (by first | rfl | assumption | omega) (by first | rfl | assumption | omega)) gX7_wordAt_X7_fails rfl ⟨rfl, rfl⟩ yd_X7_fails ⟨Nat.le_of_ble_eq_true rfl, Nat.le_of_ble_eq_true rfl⟩ rfl rfl (Nat.le_of_ble_eq_true rfl) dX7_wordAt_33 ?_
    rintro r4 ⟨F4, hs4, mv4, G4⟩ hu4
    obtain ⟨rfl, hv4⟩ := (hu4.2 (rfl))
    cases hv4
    refine zz_world (P' := (RP D C K (upd F 0 (nI 2)) hs mv G)) (fun _ h => h) ?_
    refine zz_ifB_eq 36 41 X.1 dX7_wordAt_36 (by decide) (fun h36 => ?_) (fun h36 => ?_)
    · exact absurd h36 (by decide)
    · skip
      refine zz_lconst 39 X.1 (v := 0) dX7_wordAt_39 (by decide) ?_
      rw [← hQ]
      refine zz_lret 40 X.1 hr hlk (upd F 0 (nI 2), hs, mv, G) ?_ (fun _ h _ => h) dX7_wordAt_40
      exact ⟨rfl, rfl⟩

set_option maxHeartbeats 4000000 in
set_option maxRecDepth 100000 in
theorem kt_X7_wordAt_ok (l : Launch) (D : va_G) (C : Nat → ClassId) (K : Nat → Nat) (hAp : RAp K) (F : Nat → Int32) (hs mv : Nat → Bool) (G : Nat → Nat → Int32) (s0 : Nat) (k0 : Nat) (hs0 : s0 < 8) (hk : k0 < (ln (hM hs s0) 1024 + 63) / 64) : RMl l yX7_wordAt wsX7_wordAt rm_X7_wordAt D C K [.int (nI s0), .int (nI k0)] F hs mv G (fun (r : Int64) (u : MSt) => r = (lN (nB (hM hs s0) (64 * k0) 64)) ∧ u = (upd F 0 (nI 0), hs, mv, G)) := by
  refine RMl_of (lv := [(0, .ref (K 0)), (1, .int (nI s0)), (2, .int (nI k0))]) (cc := cX7_wordAt) (maxL := 3) (ret := (some .long)) rfl rfl (by decide +kernel) (Nat.le_of_ble_eq_true rfl) rfl ?_
  intro p e s m args below meth c X hml hr hlk
  generalize hQ : MQ below _ args s 0 0 _ = Q
  refine zz_aload_n 0 X.1 0 dX7_wordAt_0 rfl ?_
  refine zz_iconst 1 X.1 (v := nI 0) dX7_wordAt_1 rfl ?_
  refine rr_put 2 hAp X 0 (by decide) (F' := upd F 0 (nI 0)) rfl (by decide +kernel) ⟨rfl, rfl⟩ (by decide +kernel) dX7_wordAt_2 ?_
  refine zz_aload_n 5 X.1 0 dX7_wordAt_5 rfl ?_
  refine zz_iload_n 6 X.1 1 dX7_wordAt_6 rfl ?_
  refine rr_callVi 7 X hml (As := [.int (nI s0)]) (kt_X7_noSet l D C K hAp (upd F 0 (nI 0)) hs mv G (nI s0) ((s0 : Nat) : Int) (nI_toInt (by omega)) (by first | rfl | assumption | omega)) gX7_wordAt_X7_noSet rfl ⟨rfl, rfl⟩ yd_X7_noSet ⟨Nat.le_of_ble_eq_true rfl, Nat.le_of_ble_eq_true rfl⟩ rfl rfl (Nat.le_of_ble_eq_true rfl) dX7_wordAt_7 ?_
  rintro r1 ⟨F1, hs1, mv1, G1⟩ hu1
  obtain ⟨rfl, hv1⟩ := (hu1.1 (by omega))
  cases hv1
  refine zz_world (P' := (RP D C K (upd F 0 (nI 0)) hs mv G)) (fun _ h => h) ?_
  refine zz_ifB_ne 10 39 X.1 dX7_wordAt_10 (by decide) (fun h10 => ?_) (fun h10 => ?_)
  · exact absurd h10 (by decide)
  · skip
    have hl := ln_le (hM hs s0) 1024
    refine zz_aload_n 13 X.1 0 dX7_wordAt_13 rfl ?_
    refine zz_iload_n 14 X.1 2 dX7_wordAt_14 rfl ?_
    refine zz_iconst 15 X.1 (v := nI 0) dX7_wordAt_15 rfl ?_
    refine zz_aload_n 16 X.1 0 dX7_wordAt_16 rfl ?_
    refine zz_iload_n 17 X.1 1 dX7_wordAt_17 rfl ?_
    refine rr_callVi 18 X hml (As := [.int (nI s0)]) (kt_X7_lengthOf l D C K hAp (upd F 0 (nI 0)) hs mv G s0 (by first | rfl | assumption | omega)) gX7_wordAt_X7_lengthOf rfl ⟨rfl, rfl⟩ yd_X7_lengthOf ⟨Nat.le_of_ble_eq_true rfl, Nat.le_of_ble_eq_true rfl⟩ rfl rfl (Nat.le_of_ble_eq_true rfl) dX7_wordAt_18 ?_
    rintro r2 ⟨F2, hs2, mv2, G2⟩ hu2
    obtain ⟨rfl, hv2⟩ := hu2
    cases hv2
    refine zz_world (P' := (RP D C K (upd F 0 (nI 0)) hs mv G)) (fun _ h => h) ?_
    refine zz_bipush 21 X.1 (v := nI 63) dX7_wordAt_21 rfl ?_
    refine zz_iadd 23 X.1 (v := (nI ((ln (hM hs s0) 1024) + 63))) dX7_wordAt_23 (nI_add _ _) ?_
    refine zz_bipush 24 X.1 (v := nI 64) dX7_wordAt_24 rfl ?_
    refine zz_idiv 26 X.1 (v := (nI (((ln (hM hs s0) 1024) + 63) / 64))) dX7_wordAt_26 (zn_ne0 (by omega) (by omega)) (pk_div (by omega) (by omega) (by omega)) ?_
    refine zz_iconst 27 X.1 (v := nI 1) dX7_wordAt_27 rfl ?_
    refine zz_isub 28 X.1 (v := (nI ((((ln (hM hs s0) 1024) + 63) / 64) - 1))) dX7_wordAt_28 (pk_sub (by omega)) ?_
    refine zz_callS0i 29 ⟨X.1.1, X.1.2, hml, X.2.2.2.1, X.2.1⟩ (fun q h => Or.inr h) RP_keep (As := [.int (nI k0), .int (nI 0), .int (nI ((((ln (hM hs s0) 1024) + 63) / 64) - 1))]) (kt_X7_in l (nI k0) (nI 0) (nI ((((ln (hM hs s0) 1024) + 63) / 64) - 1)) ((k0 : Nat) : Int) ((0 : Nat) : Int) (((((ln (hM hs s0) 1024) + 63) / 64) - 1 : Nat) : Int) (nI_toInt (by omega)) (nI_toInt (by omega)) (nI_toInt (by omega))) gX7_wordAt_X7_in rfl ⟨rfl, rfl⟩ yd_X7_in.2 ⟨Nat.le_of_ble_eq_true rfl, Nat.le_of_ble_eq_true rfl⟩ rfl rfl (Nat.le_of_ble_eq_true rfl) ⟨Nat.zero_le _, Nat.zero_le _⟩ dX7_wordAt_29 ?_
    intro r3 hu3
    obtain rfl := (hu3.1 (by omega))
    refine zz_iconst 32 X.1 (v := nI 2) dX7_wordAt_32 rfl ?_
    refine rr_callVi 33 X hml (As := [.int (bI true), .int (nI 2)]) (kt_X7_fails l D C K hAp (upd F 0 (nI 0)) hs mv G true 2 (by first | rfl | assumption | omega) (by first | rfl | assumption | omega)) gX7_wordAt_X7_fails rfl ⟨rfl, rfl⟩ yd_X7_fails ⟨Nat.le_of_ble_eq_true rfl, Nat.le_of_ble_eq_true rfl⟩ rfl rfl (Nat.le_of_ble_eq_true rfl) dX7_wordAt_33 ?_
    rintro r4 ⟨F4, hs4, mv4, G4⟩ hu4
    obtain ⟨rfl, hv4⟩ := (hu4.1 (rfl))
    cases hv4
    refine zz_world (P' := (RP D C K (upd F 0 (nI 0)) hs mv G)) (fun _ h => h) ?_
    refine zz_ifB_eq 36 41 X.1 dX7_wordAt_36 (by decide) (fun h36 => ?_) (fun h36 => ?_)
    · skip
      refine zz_aload_n 41 X.1 0 dX7_wordAt_41 rfl ?_
      refine zz_iload_n 42 X.1 1 dX7_wordAt_42 rfl ?_
      refine zz_bipush 43 X.1 (v := nI 64) dX7_wordAt_43 rfl ?_
      refine zz_iload_n 45 X.1 2 dX7_wordAt_45 rfl ?_
      refine zz_imul 46 X.1 (v := (nI (64 * k0))) dX7_wordAt_46 (pk_mul _ _) ?_
      refine zz_bipush 47 X.1 (v := nI 64) dX7_wordAt_47 rfl ?_
      refine rr_callVl 49 X hml (As := [.int (nI s0), .int (nI (64 * k0)), .int (nI 64)]) (kt_X7_told l D C K hAp (upd F 0 (nI 0)) hs mv G s0 (64 * k0) 64 (by first | rfl | assumption | omega) (by first | rfl | assumption | omega)) gX7_wordAt_X7_told rfl ⟨rfl, rfl⟩ yd_X7_told ⟨Nat.le_of_ble_eq_true rfl, Nat.le_of_ble_eq_true rfl⟩ rfl rfl (Nat.le_of_ble_eq_true rfl) dX7_wordAt_49 ?_
      rintro r5 ⟨F5, hs5, mv5, G5⟩ hu5
      obtain ⟨rfl, hv5⟩ := hu5
      cases hv5
      refine zz_world (P' := (RP D C K (upd F 0 (nI 0)) hs mv G)) (fun _ h => h) ?_
      rw [← hQ]
      refine zz_lret 52 X.1 hr hlk (upd F 0 (nI 0), hs, mv, G) ?_ (fun _ h _ => h) dX7_wordAt_52
      exact ⟨rfl, rfl⟩
    · exact absurd h36 (by decide)

set_option maxHeartbeats 4000000 in
set_option maxRecDepth 100000 in
theorem kt_X7_byteAt_no2 (l : Launch) (D : va_G) (C : Nat → ClassId) (K : Nat → Nat) (hAp : RAp K) (F : Nat → Int32) (hs mv : Nat → Bool) (G : Nat → Nat → Int32) (s0 : Nat) (x1 : Int32) (b : Int) (h_b : x1.toInt = b) (hs0 : s0 < 8) (hno : ¬ (0 ≤ b ∧ b < ((((ln (hM hs s0) 1024 + 7) / 8 : Nat)) : Int))) : RMi l yX7_byteAt wsX7_byteAt rm_X7_byteAt D C K [.int (nI s0), .int x1] F hs mv G (fun (r : Int32) (u : MSt) => r = (nI 0) ∧ u = (upd F 0 (nI 2), hs, mv, G)) := by
  refine RMi_of (lv := [(0, .ref (K 0)), (1, .int (nI s0)), (2, .int x1)]) (cc := cX7_byteAt) (maxL := 3) (ret := (some .int)) rfl rfl (by decide +kernel) (Nat.le_of_ble_eq_true rfl) rfl ?_
  intro p e s m args below meth c X hml hr hlk
  generalize hQ : MQ below _ args s 0 0 _ = Q
  refine zz_aload_n 0 X.1 0 dX7_byteAt_0 rfl ?_
  refine zz_iconst 1 X.1 (v := nI 0) dX7_byteAt_1 rfl ?_
  refine rr_put 2 hAp X 0 (by decide) (F' := upd F 0 (nI 0)) rfl (by decide +kernel) ⟨rfl, rfl⟩ (by decide +kernel) dX7_byteAt_2 ?_
  refine zz_aload_n 5 X.1 0 dX7_byteAt_5 rfl ?_
  refine zz_iload_n 6 X.1 1 dX7_byteAt_6 rfl ?_
  refine rr_callVi 7 X hml (As := [.int (nI s0)]) (kt_X7_noSet l D C K hAp (upd F 0 (nI 0)) hs mv G (nI s0) ((s0 : Nat) : Int) (nI_toInt (by omega)) (by first | rfl | assumption | omega)) gX7_byteAt_X7_noSet rfl ⟨rfl, rfl⟩ yd_X7_noSet ⟨Nat.le_of_ble_eq_true rfl, Nat.le_of_ble_eq_true rfl⟩ rfl rfl (Nat.le_of_ble_eq_true rfl) dX7_byteAt_7 ?_
  rintro r1 ⟨F1, hs1, mv1, G1⟩ hu1
  obtain ⟨rfl, hv1⟩ := (hu1.1 (by omega))
  cases hv1
  refine zz_world (P' := (RP D C K (upd F 0 (nI 0)) hs mv G)) (fun _ h => h) ?_
  refine zz_ifB_ne 10 39 X.1 dX7_byteAt_10 (by decide) (fun h10 => ?_) (fun h10 => ?_)
  · exact absurd h10 (by decide)
  · skip
    have hl := ln_le (hM hs s0) 1024
    refine zz_aload_n 13 X.1 0 dX7_byteAt_13 rfl ?_
    refine zz_iload_n 14 X.1 2 dX7_byteAt_14 rfl ?_
    refine zz_iconst 15 X.1 (v := nI 0) dX7_byteAt_15 rfl ?_
    refine zz_aload_n 16 X.1 0 dX7_byteAt_16 rfl ?_
    refine zz_iload_n 17 X.1 1 dX7_byteAt_17 rfl ?_
    refine rr_callVi 18 X hml (As := [.int (nI s0)]) (kt_X7_lengthOf l D C K hAp (upd F 0 (nI 0)) hs mv G s0 (by first | rfl | assumption | omega)) gX7_byteAt_X7_lengthOf rfl ⟨rfl, rfl⟩ yd_X7_lengthOf ⟨Nat.le_of_ble_eq_true rfl, Nat.le_of_ble_eq_true rfl⟩ rfl rfl (Nat.le_of_ble_eq_true rfl) dX7_byteAt_18 ?_
    rintro r2 ⟨F2, hs2, mv2, G2⟩ hu2
    obtain ⟨rfl, hv2⟩ := hu2
    cases hv2
    refine zz_world (P' := (RP D C K (upd F 0 (nI 0)) hs mv G)) (fun _ h => h) ?_
    refine zz_bipush 21 X.1 (v := nI 7) dX7_byteAt_21 rfl ?_
    refine zz_iadd 23 X.1 (v := (nI ((ln (hM hs s0) 1024) + 7))) dX7_byteAt_23 (nI_add _ _) ?_
    refine zz_bipush 24 X.1 (v := nI 8) dX7_byteAt_24 rfl ?_
    refine zz_idiv 26 X.1 (v := (nI (((ln (hM hs s0) 1024) + 7) / 8))) dX7_byteAt_26 (zn_ne0 (by omega) (by omega)) (pk_div (by omega) (by omega) (by omega)) ?_
    refine zz_iconst 27 X.1 (v := nI 1) dX7_byteAt_27 rfl ?_
    refine zz_isub 28 X.1 (v := (nI (((ln (hM hs s0) 1024) + 7) / 8) - nI 1)) dX7_byteAt_28 rfl ?_
    refine zz_callS0i 29 ⟨X.1.1, X.1.2, hml, X.2.2.2.1, X.2.1⟩ (fun q h => Or.inr h) RP_keep (As := [.int x1, .int (nI 0), .int (nI (((ln (hM hs s0) 1024) + 7) / 8) - nI 1)]) (kt_X7_in l x1 (nI 0) (nI (((ln (hM hs s0) 1024) + 7) / 8) - nI 1) b ((0 : Nat) : Int) (((((ln (hM hs s0) 1024) + 7) / 8 : Nat) : Int) - ((1 : Nat) : Int)) (h_b) (nI_toInt (by omega)) ((pk_sub_toInt (by omega) (by omega)))) gX7_byteAt_X7_in rfl ⟨rfl, rfl⟩ yd_X7_in.2 ⟨Nat.le_of_ble_eq_true rfl, Nat.le_of_ble_eq_true rfl⟩ rfl rfl (Nat.le_of_ble_eq_true rfl) ⟨Nat.zero_le _, Nat.zero_le _⟩ dX7_byteAt_29 ?_
    intro r3 hu3
    obtain rfl := (hu3.2 (by omega))
    refine zz_iconst 32 X.1 (v := nI 2) dX7_byteAt_32 rfl ?_
    refine rr_callVi 33 X hml (As := [.int (bI false), .int (nI 2)]) (kt_X7_fails l D C K hAp (upd F 0 (nI 0)) hs mv G false 2 (by first | rfl | assumption | omega) (by first | rfl | assumption | omega)) gX7_byteAt_X7_fails rfl ⟨rfl, rfl⟩ yd_X7_fails ⟨Nat.le_of_ble_eq_true rfl, Nat.le_of_ble_eq_true rfl⟩ rfl rfl (Nat.le_of_ble_eq_true rfl) dX7_byteAt_33 ?_
    rintro r4 ⟨F4, hs4, mv4, G4⟩ hu4
    obtain ⟨rfl, hv4⟩ := (hu4.2 (rfl))
    cases hv4
    refine zz_world (P' := (RP D C K (upd F 0 (nI 2)) hs mv G)) (fun _ h => h) ?_
    refine zz_ifB_eq 36 41 X.1 dX7_byteAt_36 (by decide) (fun h36 => ?_) (fun h36 => ?_)
    · exact absurd h36 (by decide)
    · skip
      refine zz_iconst 39 X.1 (v := nI 0) dX7_byteAt_39 rfl ?_
      rw [← hQ]
      refine zz_iret 40 X.1 hr rfl hlk (upd F 0 (nI 2), hs, mv, G) ?_ (fun _ h _ => h) dX7_byteAt_40
      exact ⟨rfl, rfl⟩

set_option maxHeartbeats 4000000 in
set_option maxRecDepth 100000 in
theorem kt_X7_byteAt_ok (l : Launch) (D : va_G) (C : Nat → ClassId) (K : Nat → Nat) (hAp : RAp K) (F : Nat → Int32) (hs mv : Nat → Bool) (G : Nat → Nat → Int32) (s0 : Nat) (k0 : Nat) (hs0 : s0 < 8) (hk : k0 < (ln (hM hs s0) 1024 + 7) / 8) : RMi l yX7_byteAt wsX7_byteAt rm_X7_byteAt D C K [.int (nI s0), .int (nI k0)] F hs mv G (fun (r : Int32) (u : MSt) => r = ((lN (nB (hM hs s0) (8 * k0) 8)).toInt32) ∧ u = (upd F 0 (nI 0), hs, mv, G)) := by
  refine RMi_of (lv := [(0, .ref (K 0)), (1, .int (nI s0)), (2, .int (nI k0))]) (cc := cX7_byteAt) (maxL := 3) (ret := (some .int)) rfl rfl (by decide +kernel) (Nat.le_of_ble_eq_true rfl) rfl ?_
  intro p e s m args below meth c X hml hr hlk
  generalize hQ : MQ below _ args s 0 0 _ = Q
  refine zz_aload_n 0 X.1 0 dX7_byteAt_0 rfl ?_
  refine zz_iconst 1 X.1 (v := nI 0) dX7_byteAt_1 rfl ?_
  refine rr_put 2 hAp X 0 (by decide) (F' := upd F 0 (nI 0)) rfl (by decide +kernel) ⟨rfl, rfl⟩ (by decide +kernel) dX7_byteAt_2 ?_
  refine zz_aload_n 5 X.1 0 dX7_byteAt_5 rfl ?_
  refine zz_iload_n 6 X.1 1 dX7_byteAt_6 rfl ?_
  refine rr_callVi 7 X hml (As := [.int (nI s0)]) (kt_X7_noSet l D C K hAp (upd F 0 (nI 0)) hs mv G (nI s0) ((s0 : Nat) : Int) (nI_toInt (by omega)) (by first | rfl | assumption | omega)) gX7_byteAt_X7_noSet rfl ⟨rfl, rfl⟩ yd_X7_noSet ⟨Nat.le_of_ble_eq_true rfl, Nat.le_of_ble_eq_true rfl⟩ rfl rfl (Nat.le_of_ble_eq_true rfl) dX7_byteAt_7 ?_
  rintro r1 ⟨F1, hs1, mv1, G1⟩ hu1
  obtain ⟨rfl, hv1⟩ := (hu1.1 (by omega))
  cases hv1
  refine zz_world (P' := (RP D C K (upd F 0 (nI 0)) hs mv G)) (fun _ h => h) ?_
  refine zz_ifB_ne 10 39 X.1 dX7_byteAt_10 (by decide) (fun h10 => ?_) (fun h10 => ?_)
  · exact absurd h10 (by decide)
  · skip
    have hl := ln_le (hM hs s0) 1024
    refine zz_aload_n 13 X.1 0 dX7_byteAt_13 rfl ?_
    refine zz_iload_n 14 X.1 2 dX7_byteAt_14 rfl ?_
    refine zz_iconst 15 X.1 (v := nI 0) dX7_byteAt_15 rfl ?_
    refine zz_aload_n 16 X.1 0 dX7_byteAt_16 rfl ?_
    refine zz_iload_n 17 X.1 1 dX7_byteAt_17 rfl ?_
    refine rr_callVi 18 X hml (As := [.int (nI s0)]) (kt_X7_lengthOf l D C K hAp (upd F 0 (nI 0)) hs mv G s0 (by first | rfl | assumption | omega)) gX7_byteAt_X7_lengthOf rfl ⟨rfl, rfl⟩ yd_X7_lengthOf ⟨Nat.le_of_ble_eq_true rfl, Nat.le_of_ble_eq_true rfl⟩ rfl rfl (Nat.le_of_ble_eq_true rfl) dX7_byteAt_18 ?_
    rintro r2 ⟨F2, hs2, mv2, G2⟩ hu2
    obtain ⟨rfl, hv2⟩ := hu2
    cases hv2
    refine zz_world (P' := (RP D C K (upd F 0 (nI 0)) hs mv G)) (fun _ h => h) ?_
    refine zz_bipush 21 X.1 (v := nI 7) dX7_byteAt_21 rfl ?_
    refine zz_iadd 23 X.1 (v := (nI ((ln (hM hs s0) 1024) + 7))) dX7_byteAt_23 (nI_add _ _) ?_
    refine zz_bipush 24 X.1 (v := nI 8) dX7_byteAt_24 rfl ?_
    refine zz_idiv 26 X.1 (v := (nI (((ln (hM hs s0) 1024) + 7) / 8))) dX7_byteAt_26 (zn_ne0 (by omega) (by omega)) (pk_div (by omega) (by omega) (by omega)) ?_
    refine zz_iconst 27 X.1 (v := nI 1) dX7_byteAt_27 rfl ?_
    refine zz_isub 28 X.1 (v := (nI ((((ln (hM hs s0) 1024) + 7) / 8) - 1))) dX7_byteAt_28 (pk_sub (by omega)) ?_
    refine zz_callS0i 29 ⟨X.1.1, X.1.2, hml, X.2.2.2.1, X.2.1⟩ (fun q h => Or.inr h) RP_keep (As := [.int (nI k0), .int (nI 0), .int (nI ((((ln (hM hs s0) 1024) + 7) / 8) - 1))]) (kt_X7_in l (nI k0) (nI 0) (nI ((((ln (hM hs s0) 1024) + 7) / 8) - 1)) ((k0 : Nat) : Int) ((0 : Nat) : Int) (((((ln (hM hs s0) 1024) + 7) / 8) - 1 : Nat) : Int) (nI_toInt (by omega)) (nI_toInt (by omega)) (nI_toInt (by omega))) gX7_byteAt_X7_in rfl ⟨rfl, rfl⟩ yd_X7_in.2 ⟨Nat.le_of_ble_eq_true rfl, Nat.le_of_ble_eq_true rfl⟩ rfl rfl (Nat.le_of_ble_eq_true rfl) ⟨Nat.zero_le _, Nat.zero_le _⟩ dX7_byteAt_29 ?_
    intro r3 hu3
    obtain rfl := (hu3.1 (by omega))
    refine zz_iconst 32 X.1 (v := nI 2) dX7_byteAt_32 rfl ?_
    refine rr_callVi 33 X hml (As := [.int (bI true), .int (nI 2)]) (kt_X7_fails l D C K hAp (upd F 0 (nI 0)) hs mv G true 2 (by first | rfl | assumption | omega) (by first | rfl | assumption | omega)) gX7_byteAt_X7_fails rfl ⟨rfl, rfl⟩ yd_X7_fails ⟨Nat.le_of_ble_eq_true rfl, Nat.le_of_ble_eq_true rfl⟩ rfl rfl (Nat.le_of_ble_eq_true rfl) dX7_byteAt_33 ?_
    rintro r4 ⟨F4, hs4, mv4, G4⟩ hu4
    obtain ⟨rfl, hv4⟩ := (hu4.1 (rfl))
    cases hv4
    refine zz_world (P' := (RP D C K (upd F 0 (nI 0)) hs mv G)) (fun _ h => h) ?_
    refine zz_ifB_eq 36 41 X.1 dX7_byteAt_36 (by decide) (fun h36 => ?_) (fun h36 => ?_)
    · skip
      refine zz_aload_n 41 X.1 0 dX7_byteAt_41 rfl ?_
      refine zz_iload_n 42 X.1 1 dX7_byteAt_42 rfl ?_
      refine zz_bipush 43 X.1 (v := nI 8) dX7_byteAt_43 rfl ?_
      refine zz_iload_n 45 X.1 2 dX7_byteAt_45 rfl ?_
      refine zz_imul 46 X.1 (v := (nI (8 * k0))) dX7_byteAt_46 (pk_mul _ _) ?_
      refine zz_bipush 47 X.1 (v := nI 8) dX7_byteAt_47 rfl ?_
      refine rr_callVl 49 X hml (As := [.int (nI s0), .int (nI (8 * k0)), .int (nI 8)]) (kt_X7_told l D C K hAp (upd F 0 (nI 0)) hs mv G s0 (8 * k0) 8 (by first | rfl | assumption | omega) (by first | rfl | assumption | omega)) gX7_byteAt_X7_told rfl ⟨rfl, rfl⟩ yd_X7_told ⟨Nat.le_of_ble_eq_true rfl, Nat.le_of_ble_eq_true rfl⟩ rfl rfl (Nat.le_of_ble_eq_true rfl) dX7_byteAt_49 ?_
      rintro r5 ⟨F5, hs5, mv5, G5⟩ hu5
      obtain ⟨rfl, hv5⟩ := hu5
      cases hv5
      refine zz_world (P' := (RP D C K (upd F 0 (nI 0)) hs mv G)) (fun _ h => h) ?_
      refine zz_l2i 52 X.1 (v := ((lN (nB (hM hs s0) (8 * k0) 8)).toInt32)) dX7_byteAt_52 rfl ?_
      rw [← hQ]
      refine zz_iret 53 X.1 hr rfl hlk (upd F 0 (nI 0), hs, mv, G) ?_ (fun _ h _ => h) dX7_byteAt_53
      exact ⟨rfl, rfl⟩
    · exact absurd h36 (by decide)

abbrev rm_X7_fingerprint : Room := { frames := 2, cells := 0, slots := 0, locals := 43 }
theorem yd_X7_fingerprint : yX7_fingerprint.cls = RX7 ∧ yX7_fingerprint.cls ≠ "java/lang/invoke/MethodHandle" ∧ yX7_fingerprint.cls ≠ "java/lang/invoke/VarHandle" ∧ (parseMethodDescriptor yX7_fingerprint.desc).map (fun d => d.parameters.length) = some 1 := by decide +kernel
set_option maxHeartbeats 4000000 in
set_option maxRecDepth 100000 in
theorem kt_X7_fingerprint_no (l : Launch) (D : va_G) (C : Nat → ClassId) (K : Nat → Nat) (hAp : RAp K) (F : Nat → Int32) (hs mv : Nat → Bool) (G : Nat → Nat → Int32) (x0 : Int32) (a : Int) (h_a : x0.toInt = a) (hno : ¬ (0 ≤ a ∧ a < 8)) : RMi l yX7_fingerprint wsX7_fingerprint rm_X7_fingerprint D C K [.int x0] F hs mv G (fun (r : Int32) (u : MSt) => r = (nI 0) ∧ u = (upd F 0 (nI 1), hs, mv, G)) := by
  refine RMi_of (lv := [(0, .ref (K 0)), (1, .int x0)]) (cc := cX7_fingerprint) (maxL := 5) (ret := (some .int)) rfl rfl (by decide +kernel) (Nat.le_of_ble_eq_true rfl) rfl ?_
  intro p e s m args below meth c X hml hr hlk
  generalize hQ : MQ below _ args s 0 0 _ = Q
  refine zz_aload_n 0 X.1 0 dX7_fingerprint_0 rfl ?_
  refine zz_iconst 1 X.1 (v := nI 0) dX7_fingerprint_1 rfl ?_
  refine rr_put 2 hAp X 0 (by decide) (F' := upd F 0 (nI 0)) rfl (by decide +kernel) ⟨rfl, rfl⟩ (by decide +kernel) dX7_fingerprint_2 ?_
  refine zz_aload_n 5 X.1 0 dX7_fingerprint_5 rfl ?_
  refine zz_iload_n 6 X.1 1 dX7_fingerprint_6 rfl ?_
  refine rr_callVi 7 X hml (As := [.int x0]) (kt_X7_noSet l D C K hAp (upd F 0 (nI 0)) hs mv G x0 a (h_a) (by first | rfl | assumption | omega)) gX7_fingerprint_X7_noSet rfl ⟨rfl, rfl⟩ yd_X7_noSet ⟨Nat.le_of_ble_eq_true rfl, Nat.le_of_ble_eq_true rfl⟩ rfl rfl (Nat.le_of_ble_eq_true rfl) dX7_fingerprint_7 ?_
  rintro r1 ⟨F1, hs1, mv1, G1⟩ hu1
  rcases (show (0 ≤ a ∧ a < 8) ∨ (¬ (0 ≤ a ∧ a < 8)) by omega) with hc1 | hc1
  · exfalso; omega
  · skip
    obtain ⟨rfl, hv1⟩ := (hu1.2 hc1)
    cases hv1
    refine zz_world (P' := (RP D C K (upd F 0 (nI 1)) hs mv G)) (fun _ h => h) ?_
    refine zz_ifB_eq 10 15 X.1 dX7_fingerprint_10 (by decide) (fun h10 => ?_) (fun h10 => ?_)
    · exact absurd h10 (by decide)
    · skip
      refine zz_iconst 13 X.1 (v := nI 0) dX7_fingerprint_13 rfl ?_
      rw [← hQ]
      refine zz_iret 14 X.1 hr rfl hlk (upd F 0 (nI 1), hs, mv, G) ?_ (fun _ h _ => h) dX7_fingerprint_14
      exact ⟨rfl, rfl⟩

set_option maxHeartbeats 4000000 in
set_option maxRecDepth 100000 in
theorem kt_X7_fingerprint_ok (l : Launch) (D : va_G) (C : Nat → ClassId) (K : Nat → Nat) (hAp : RAp K) (F : Nat → Int32) (hs mv : Nat → Bool) (G : Nat → Nat → Int32) (s0 : Nat) (hs0 : s0 < 8) : RMi l yX7_fingerprint wsX7_fingerprint rm_X7_fingerprint D C K [.int (nI s0)] F hs mv G (fun (r : Int32) (u : MSt) => r = (fpr (hM hs s0)) ∧ u = (upd F 0 (nI 0), hs, mv, G)) := by
  refine RMi_of (lv := [(0, .ref (K 0)), (1, .int (nI s0))]) (cc := cX7_fingerprint) (maxL := 5) (ret := (some .int)) rfl rfl (by decide +kernel) (Nat.le_of_ble_eq_true rfl) rfl ?_
  intro p e s m args below meth c X hml hr hlk
  generalize hQ : MQ below _ args s 0 0 _ = Q
  refine zz_aload_n 0 X.1 0 dX7_fingerprint_0 rfl ?_
  refine zz_iconst 1 X.1 (v := nI 0) dX7_fingerprint_1 rfl ?_
  refine rr_put 2 hAp X 0 (by decide) (F' := upd F 0 (nI 0)) rfl (by decide +kernel) ⟨rfl, rfl⟩ (by decide +kernel) dX7_fingerprint_2 ?_
  refine zz_aload_n 5 X.1 0 dX7_fingerprint_5 rfl ?_
  refine zz_iload_n 6 X.1 1 dX7_fingerprint_6 rfl ?_
  refine rr_callVi 7 X hml (As := [.int (nI s0)]) (kt_X7_noSet l D C K hAp (upd F 0 (nI 0)) hs mv G (nI s0) ((s0 : Nat) : Int) (nI_toInt (by omega)) (by first | rfl | assumption | omega)) gX7_fingerprint_X7_noSet rfl ⟨rfl, rfl⟩ yd_X7_noSet ⟨Nat.le_of_ble_eq_true rfl, Nat.le_of_ble_eq_true rfl⟩ rfl rfl (Nat.le_of_ble_eq_true rfl) dX7_fingerprint_7 ?_
  rintro r1 ⟨F1, hs1, mv1, G1⟩ hu1
  obtain ⟨rfl, hv1⟩ := (hu1.1 (by omega))
  cases hv1
  refine zz_world (P' := (RP D C K (upd F 0 (nI 0)) hs mv G)) (fun _ h => h) ?_
  refine zz_ifB_eq 10 15 X.1 dX7_fingerprint_10 (by decide) (fun h10 => ?_) (fun h10 => ?_)
  · skip
    refine zz_ldc2 15 X.1 (v := 1234) dX7_fingerprint_15 X.2.2.2.1 (by exact (X.2.1 _ (by decide +kernel))) ?_
    refine zz_lstore_n 18 X.1 (lv' := [(2, .long (1234 : Int64)), (0, .ref (K 0)), (1, .int (nI s0))]) dX7_fingerprint_18 (by decide) rfl ?_
    refine zz_bipush 19 X.1 (v := nI 15) dX7_fingerprint_19 rfl ?_
    refine zz_istore 21 X.1 (lv' := [(4, .int (nI 15)), (2, .long (1234 : Int64)), (0, .ref (K 0)), (1, .int (nI s0))]) dX7_fingerprint_21 (by decide) rfl ?_
    have C23 : ∀ (d : Nat) (j : Nat) (h1 : Int64) (x4 : Int32) (hj : j ≤ 16) (hx : x4.toInt = (j : Int) - 1) (hv : fg (hM hs s0) j h1 = fg (hM hs s0) 16 1234) (hd : j < d), ZZ p l e rm_X7_fingerprint s m args below meth c 0 0 Q (zz_A (RAd K) s.heap.size) (RP D C K (upd F 0 (nI 0)) hs mv G) 5 [(0, .ref (K 0)), (1, .int (nI s0)), (2, .long h1), (4, .int x4)] [] 23 := by
      intro d
      induction d with
      | zero => intro j h1 x4 hj hx hv hd; exact absurd hd (Nat.not_lt_zero _)
      | succ d ih23 =>
        intro j h1 x4 hj hx hv hd
        refine zz_iload 23 X.1 3 dX7_fingerprint_23 rfl ?_
        refine zz_if_lt 25 55 X.1 hx dX7_fingerprint_25 (by decide) (fun h25 => ?_) (fun h25 => ?_)
        · skip
          refine zz_lload_n 55 X.1 2 dX7_fingerprint_55 rfl ?_
          refine zz_bipush 56 X.1 (v := nI 32) dX7_fingerprint_56 rfl ?_
          refine zz_lshr 58 X.1 (v := h1 >>> ((nI 32).toInt64 &&& 63)) dX7_fingerprint_58 rfl ?_
          refine zz_lload_n 59 X.1 2 dX7_fingerprint_59 rfl ?_
          refine zz_lxor 60 X.1 (v := (h1 >>> ((nI 32).toInt64 &&& 63)) ^^^ h1) dX7_fingerprint_60 rfl ?_
          refine zz_l2i 61 X.1 (v := (((h1 >>> ((nI 32).toInt64 &&& 63)) ^^^ h1).toInt32)) dX7_fingerprint_61 rfl ?_
          obtain rfl : j = 0 := by omega
          rw [← hQ]
          refine zz_iret 62 X.1 hr rfl hlk (upd F 0 (nI 0), hs, mv, G) ?_ (fun _ h _ => h) dX7_fingerprint_62
          refine ⟨?_, rfl⟩
          unfold fpr
          rw [← hv]
          rfl
        · skip
          obtain ⟨jj, rfl⟩ : ∃ jj, j = jj + 1 := ⟨j - 1, by omega⟩
          obtain rfl : x4 = nI jj := zi_of (by omega)
          refine zz_lload_n 28 X.1 2 dX7_fingerprint_28 rfl ?_
          refine zz_aload_n 29 X.1 0 dX7_fingerprint_29 rfl ?_
          refine zz_iload_n 30 X.1 1 dX7_fingerprint_30 rfl ?_
          refine zz_bipush 31 X.1 (v := nI 64) dX7_fingerprint_31 rfl ?_
          refine zz_iload 33 X.1 3 dX7_fingerprint_33 rfl ?_
          refine zz_imul 35 X.1 (v := (nI (64 * jj))) dX7_fingerprint_35 (pk_mul _ _) ?_
          refine zz_bipush 36 X.1 (v := nI 64) dX7_fingerprint_36 rfl ?_
          refine rr_callVl 38 X hml (As := [.int (nI s0), .int (nI (64 * jj)), .int (nI 64)]) (kt_X7_told l D C K hAp (upd F 0 (nI 0)) hs mv G s0 (64 * jj) 64 (by first | rfl | assumption | omega) (by first | rfl | assumption | omega)) gX7_fingerprint_X7_told rfl ⟨rfl, rfl⟩ yd_X7_told ⟨Nat.le_of_ble_eq_true rfl, Nat.le_of_ble_eq_true rfl⟩ rfl rfl (Nat.le_of_ble_eq_true rfl) dX7_fingerprint_38 ?_
          rintro r2 ⟨F2, hs2, mv2, G2⟩ hu2
          obtain ⟨rfl, hv2⟩ := hu2
          cases hv2
          refine zz_world (P' := (RP D C K (upd F 0 (nI 0)) hs mv G)) (fun _ h => h) ?_
          refine zz_iload 41 X.1 3 dX7_fingerprint_41 rfl ?_
          refine zz_iconst 43 X.1 (v := nI 1) dX7_fingerprint_43 rfl ?_
          refine zz_iadd 44 X.1 (v := (nI (jj + 1))) dX7_fingerprint_44 (nI_add _ _) ?_
          refine zz_i2l 45 X.1 (v := lN (jj + 1)) dX7_fingerprint_45 (nI_l (by omega)) ?_
          refine zz_lmul 46 X.1 (v := (lN (nB (hM hs s0) (64 * jj) 64)) * (lN (jj + 1))) dX7_fingerprint_46 rfl ?_
          refine zz_lxor 47 X.1 (v := h1 ^^^ ((lN (nB (hM hs s0) (64 * jj) 64)) * (lN (jj + 1)))) dX7_fingerprint_47 rfl ?_
          refine zz_lstore_n 48 X.1 (lv' := [(2, .long (h1 ^^^ ((lN (nB (hM hs s0) (64 * jj) 64)) * (lN (jj + 1))))), (0, .ref (K 0)), (1, .int (nI s0)), (4, .int (nI jj))]) dX7_fingerprint_48 (by decide) rfl ?_
          refine zz_iinc 49 X.1 3 (v := (nI jj + (-1))) (lv' := [(4, .int (nI jj + (-1))), (2, .long (h1 ^^^ ((lN (nB (hM hs s0) (64 * jj) 64)) * (lN (jj + 1))))), (0, .ref (K 0)), (1, .int (nI s0))]) dX7_fingerprint_49 rfl rfl (by decide) rfl ?_
          refine zz_goto 52 23 X.1 dX7_fingerprint_52 (by decide) ?_
          refine zz_lvs [2, 3, 1, 0] rfl ?_
          exact ih23 jj (h1 ^^^ ((lN (nB (hM hs s0) (64 * jj) 64)) * (lN (jj + 1)))) (nI jj + (-1)) (by omega) (zi_decN (by omega)) (hv) (by omega)
    refine zz_lvs [2, 3, 1, 0] rfl ?_
    exact C23 (16 + 1) 16 (1234 : Int64) (nI 15) (by omega) (by rfl) (by rfl) (Nat.lt_succ_self _)
  · exact absurd h10 (by decide)

abbrev rm_X7_has : Room := { frames := 2, cells := 0, slots := 0, locals := 43 }
theorem yd_X7_has : yX7_has.cls = RX7 ∧ yX7_has.cls ≠ "java/lang/invoke/MethodHandle" ∧ yX7_has.cls ≠ "java/lang/invoke/VarHandle" ∧ (parseMethodDescriptor yX7_has.desc).map (fun d => d.parameters.length) = some 2 := by decide +kernel
set_option maxHeartbeats 4000000 in
set_option maxRecDepth 100000 in
theorem kt_X7_has_no (l : Launch) (D : va_G) (C : Nat → ClassId) (K : Nat → Nat) (hAp : RAp K) (F : Nat → Int32) (hs mv : Nat → Bool) (G : Nat → Nat → Int32) (x0 : Int32) (x1 : Int32) (a : Int) (b : Int) (h_a : x0.toInt = a) (h_b : x1.toInt = b) (hno : ¬ ((0 ≤ a ∧ a < 8) ∧ 0 ≤ b)) : RMi l yX7_has wsX7_has rm_X7_has D C K [.int x0, .int x1] F hs mv G (fun (r : Int32) (u : MSt) => (¬ (0 ≤ a ∧ a < 8) → r = (bI false) ∧ u = (upd F 0 (nI 1), hs, mv, G)) ∧ ((0 ≤ a ∧ a < 8) ∧ b < 0 → r = (bI false) ∧ u = (upd (upd F 0 (nI 2)) 2 (F 2 + 1), hs, mv, G))) := by
  refine RMi_of (lv := [(0, .ref (K 0)), (1, .int x0), (2, .int x1)]) (cc := cX7_has) (maxL := 3) (ret := (some .boolean)) rfl rfl (by decide +kernel) (Nat.le_of_ble_eq_true rfl) rfl ?_
  intro p e s m args below meth c X hml hr hlk
  generalize hQ : MQ below _ args s 0 0 _ = Q
  refine zz_aload_n 0 X.1 0 dX7_has_0 rfl ?_
  refine zz_iconst 1 X.1 (v := nI 0) dX7_has_1 rfl ?_
  refine rr_put 2 hAp X 0 (by decide) (F' := upd F 0 (nI 0)) rfl (by decide +kernel) ⟨rfl, rfl⟩ (by decide +kernel) dX7_has_2 ?_
  refine zz_aload_n 5 X.1 0 dX7_has_5 rfl ?_
  refine zz_iload_n 6 X.1 1 dX7_has_6 rfl ?_
  refine rr_callVi 7 X hml (As := [.int x0]) (kt_X7_noSet l D C K hAp (upd F 0 (nI 0)) hs mv G x0 a (h_a) (by first | rfl | assumption | omega)) gX7_has_X7_noSet rfl ⟨rfl, rfl⟩ yd_X7_noSet ⟨Nat.le_of_ble_eq_true rfl, Nat.le_of_ble_eq_true rfl⟩ rfl rfl (Nat.le_of_ble_eq_true rfl) dX7_has_7 ?_
  rintro r1 ⟨F1, hs1, mv1, G1⟩ hu1
  rcases (show (0 ≤ a ∧ a < 8) ∨ (¬ (0 ≤ a ∧ a < 8)) by omega) with hc1 | hc1
  · skip
    obtain ⟨rfl, hv1⟩ := (hu1.1 hc1)
    cases hv1
    refine zz_world (P' := (RP D C K (upd F 0 (nI 0)) hs mv G)) (fun _ h => h) ?_
    refine zz_ifB_ne 10 35 X.1 dX7_has_10 (by decide) (fun h10 => ?_) (fun h10 => ?_)
    · exact absurd h10 (by decide)
    · skip
      refine zz_aload_n 13 X.1 0 dX7_has_13 rfl ?_
      refine zz_iload_n 14 X.1 2 dX7_has_14 rfl ?_
      refine zz_iconst 15 X.1 (v := nI 0) dX7_has_15 rfl ?_
      refine rr_callVi 16 X hml (As := [.int x1, .int (nI 0)]) (kt_X7_isBelow l D C K hAp (upd F 0 (nI 0)) hs mv G x1 (nI 0) b ((0 : Nat) : Int) (h_b) (nI_toInt (by omega)) (by first | rfl | assumption | omega)) gX7_has_X7_isBelow rfl ⟨rfl, rfl⟩ yd_X7_isBelow ⟨Nat.le_of_ble_eq_true rfl, Nat.le_of_ble_eq_true rfl⟩ rfl rfl (Nat.le_of_ble_eq_true rfl) dX7_has_16 ?_
      rintro r2 ⟨F2, hs2, mv2, G2⟩ hu2
      rcases (show (((0 : Nat) : Int) ≤ b) ∨ (b < ((0 : Nat) : Int)) by omega) with hc2 | hc2
      · exfalso; omega
      · skip
        obtain ⟨rfl, hv2⟩ := (hu2.2 hc2)
        cases hv2
        refine zz_world (P' := (RP D C K (upd (upd F 0 (nI 2)) 2 ((F 2) + 1)) hs mv G)) (fun _ h => h) ?_
        refine zz_ifB_ne 19 35 X.1 dX7_has_19 (by decide) (fun h19 => ?_) (fun h19 => ?_)
        · skip
          refine zz_iconst 35 X.1 (v := nI 0) dX7_has_35 rfl ?_
          refine zz_topi (bI false) rfl ?_
          rw [← hQ]
          refine zz_iret 36 X.1 hr (bI_nar _) hlk (upd (upd F 0 (nI 2)) 2 ((F 2) + 1), hs, mv, G) ?_ (fun _ h _ => h) dX7_has_36
          refine ⟨fun hc => ?_, fun hc => ?_⟩ <;> first | (exact ⟨rfl, rfl⟩) | (exact rfl) | (exfalso; omega)
        · exact absurd h19 (by decide)
  · skip
    obtain ⟨rfl, hv1⟩ := (hu1.2 hc1)
    cases hv1
    refine zz_world (P' := (RP D C K (upd F 0 (nI 1)) hs mv G)) (fun _ h => h) ?_
    refine zz_ifB_ne 10 35 X.1 dX7_has_10 (by decide) (fun h10 => ?_) (fun h10 => ?_)
    · skip
      refine zz_iconst 35 X.1 (v := nI 0) dX7_has_35 rfl ?_
      refine zz_topi (bI false) rfl ?_
      rw [← hQ]
      refine zz_iret 36 X.1 hr (bI_nar _) hlk (upd F 0 (nI 1), hs, mv, G) ?_ (fun _ h _ => h) dX7_has_36
      refine ⟨fun hc => ?_, fun hc => ?_⟩ <;> first | (exact ⟨rfl, rfl⟩) | (exact rfl) | (exfalso; omega)
    · exact absurd h10 (by decide)

set_option maxHeartbeats 4000000 in
set_option maxRecDepth 100000 in
theorem kt_X7_has_ok (l : Launch) (D : va_G) (C : Nat → ClassId) (K : Nat → Nat) (hAp : RAp K) (F : Nat → Int32) (hs mv : Nat → Bool) (G : Nat → Nat → Int32) (s0 : Nat) (i0 : Nat) (hs0 : s0 < 8) (hi0 : i0 < 2 ^ 31) : RMi l yX7_has wsX7_has rm_X7_has D C K [.int (nI s0), .int (nI i0)] F hs mv G (fun (r : Int32) (u : MSt) => r = (bI (decide (i0 < 1024) && hM hs s0 i0)) ∧ u = (upd F 0 (nI 0), hs, mv, G)) := by
  refine RMi_of (lv := [(0, .ref (K 0)), (1, .int (nI s0)), (2, .int (nI i0))]) (cc := cX7_has) (maxL := 3) (ret := (some .boolean)) rfl rfl (by decide +kernel) (Nat.le_of_ble_eq_true rfl) rfl ?_
  intro p e s m args below meth c X hml hr hlk
  generalize hQ : MQ below _ args s 0 0 _ = Q
  refine zz_aload_n 0 X.1 0 dX7_has_0 rfl ?_
  refine zz_iconst 1 X.1 (v := nI 0) dX7_has_1 rfl ?_
  refine rr_put 2 hAp X 0 (by decide) (F' := upd F 0 (nI 0)) rfl (by decide +kernel) ⟨rfl, rfl⟩ (by decide +kernel) dX7_has_2 ?_
  refine zz_aload_n 5 X.1 0 dX7_has_5 rfl ?_
  refine zz_iload_n 6 X.1 1 dX7_has_6 rfl ?_
  refine rr_callVi 7 X hml (As := [.int (nI s0)]) (kt_X7_noSet l D C K hAp (upd F 0 (nI 0)) hs mv G (nI s0) ((s0 : Nat) : Int) (nI_toInt (by omega)) (by first | rfl | assumption | omega)) gX7_has_X7_noSet rfl ⟨rfl, rfl⟩ yd_X7_noSet ⟨Nat.le_of_ble_eq_true rfl, Nat.le_of_ble_eq_true rfl⟩ rfl rfl (Nat.le_of_ble_eq_true rfl) dX7_has_7 ?_
  rintro r1 ⟨F1, hs1, mv1, G1⟩ hu1
  obtain ⟨rfl, hv1⟩ := (hu1.1 (by omega))
  cases hv1
  refine zz_world (P' := (RP D C K (upd F 0 (nI 0)) hs mv G)) (fun _ h => h) ?_
  refine zz_ifB_ne 10 35 X.1 dX7_has_10 (by decide) (fun h10 => ?_) (fun h10 => ?_)
  · exact absurd h10 (by decide)
  · skip
    refine zz_aload_n 13 X.1 0 dX7_has_13 rfl ?_
    refine zz_iload_n 14 X.1 2 dX7_has_14 rfl ?_
    refine zz_iconst 15 X.1 (v := nI 0) dX7_has_15 rfl ?_
    refine rr_callVi 16 X hml (As := [.int (nI i0), .int (nI 0)]) (kt_X7_isBelow l D C K hAp (upd F 0 (nI 0)) hs mv G (nI i0) (nI 0) ((i0 : Nat) : Int) ((0 : Nat) : Int) (nI_toInt (by omega)) (nI_toInt (by omega)) (by first | rfl | assumption | omega)) gX7_has_X7_isBelow rfl ⟨rfl, rfl⟩ yd_X7_isBelow ⟨Nat.le_of_ble_eq_true rfl, Nat.le_of_ble_eq_true rfl⟩ rfl rfl (Nat.le_of_ble_eq_true rfl) dX7_has_16 ?_
    rintro r2 ⟨F2, hs2, mv2, G2⟩ hu2
    obtain ⟨rfl, hv2⟩ := (hu2.1 (by omega))
    cases hv2
    refine zz_world (P' := (RP D C K (upd F 0 (nI 0)) hs mv G)) (fun _ h => h) ?_
    refine zz_ifB_ne 19 35 X.1 dX7_has_19 (by decide) (fun h19 => ?_) (fun h19 => ?_)
    · exact absurd h19 (by decide)
    · skip
      refine zz_aload_n 22 X.1 0 dX7_has_22 rfl ?_
      refine zz_iload_n 23 X.1 1 dX7_has_23 rfl ?_
      refine zz_iload_n 24 X.1 2 dX7_has_24 rfl ?_
      refine rr_callVi 25 X hml (As := [.int (nI s0), .int (nI i0)]) (kt_X7_isIn l D C K hAp (upd F 0 (nI 0)) hs mv G s0 i0 (by first | rfl | assumption | omega) (by first | rfl | assumption | omega)) gX7_has_X7_isIn rfl ⟨rfl, rfl⟩ yd_X7_isIn ⟨Nat.le_of_ble_eq_true rfl, Nat.le_of_ble_eq_true rfl⟩ rfl rfl (Nat.le_of_ble_eq_true rfl) dX7_has_25 ?_
      rintro r3 ⟨F3, hs3, mv3, G3⟩ hu3
      obtain ⟨rfl, hv3⟩ := hu3
      cases hv3
      refine zz_world (P' := (RP D C K (upd F 0 (nI 0)) hs mv G)) (fun _ h => h) ?_
      refine zz_ifB_eq 28 35 X.1 dX7_has_28 (by decide) (fun h28 => ?_) (fun h28 => ?_)
      · skip
        refine zz_iconst 35 X.1 (v := nI 0) dX7_has_35 rfl ?_
        refine zz_topi (bI false) rfl ?_
        rw [← hQ]
        refine zz_iret 36 X.1 hr (bI_nar _) hlk (upd F 0 (nI 0), hs, mv, G) ?_ (fun _ h _ => h) dX7_has_36
        refine ⟨congrArg bI ?_, rfl⟩
        unfold hM
        exact h28.symm
      · skip
        refine zz_iconst 31 X.1 (v := nI 1) dX7_has_31 rfl ?_
        refine zz_goto 32 36 X.1 dX7_has_32 (by decide) ?_
        refine zz_topi (bI true) rfl ?_
        rw [← hQ]
        refine zz_iret 36 X.1 hr (bI_nar _) hlk (upd F 0 (nI 0), hs, mv, G) ?_ (fun _ h _ => h) dX7_has_36
        refine ⟨congrArg bI ?_, rfl⟩
        unfold hM
        exact h28.symm

abbrev rm_X7_count : Room := { frames := 2, cells := 0, slots := 0, locals := 43 }
theorem yd_X7_count : yX7_count.cls = RX7 ∧ yX7_count.cls ≠ "java/lang/invoke/MethodHandle" ∧ yX7_count.cls ≠ "java/lang/invoke/VarHandle" ∧ (parseMethodDescriptor yX7_count.desc).map (fun d => d.parameters.length) = some 1 := by decide +kernel
set_option maxHeartbeats 4000000 in
set_option maxRecDepth 100000 in
theorem kt_X7_count_no (l : Launch) (D : va_G) (C : Nat → ClassId) (K : Nat → Nat) (hAp : RAp K) (F : Nat → Int32) (hs mv : Nat → Bool) (G : Nat → Nat → Int32) (x0 : Int32) (a : Int) (h_a : x0.toInt = a) (hno : ¬ (0 ≤ a ∧ a < 8)) : RMi l yX7_count wsX7_count rm_X7_count D C K [.int x0] F hs mv G (fun (r : Int32) (u : MSt) => r = (nI 0) ∧ u = (upd F 0 (nI 1), hs, mv, G)) := by
  refine RMi_of (lv := [(0, .ref (K 0)), (1, .int x0)]) (cc := cX7_count) (maxL := 2) (ret := (some .int)) rfl rfl (by decide +kernel) (Nat.le_of_ble_eq_true rfl) rfl ?_
  intro p e s m args below meth c X hml hr hlk
  generalize hQ : MQ below _ args s 0 0 _ = Q
  refine zz_aload_n 0 X.1 0 dX7_count_0 rfl ?_
  refine zz_iconst 1 X.1 (v := nI 0) dX7_count_1 rfl ?_
  refine rr_put 2 hAp X 0 (by decide) (F' := upd F 0 (nI 0)) rfl (by decide +kernel) ⟨rfl, rfl⟩ (by decide +kernel) dX7_count_2 ?_
  refine zz_aload_n 5 X.1 0 dX7_count_5 rfl ?_
  refine zz_iload_n 6 X.1 1 dX7_count_6 rfl ?_
  refine rr_callVi 7 X hml (As := [.int x0]) (kt_X7_noSet l D C K hAp (upd F 0 (nI 0)) hs mv G x0 a (h_a) (by first | rfl | assumption | omega)) gX7_count_X7_noSet rfl ⟨rfl, rfl⟩ yd_X7_noSet ⟨Nat.le_of_ble_eq_true rfl, Nat.le_of_ble_eq_true rfl⟩ rfl rfl (Nat.le_of_ble_eq_true rfl) dX7_count_7 ?_
  rintro r1 ⟨F1, hs1, mv1, G1⟩ hu1
  rcases (show (0 ≤ a ∧ a < 8) ∨ (¬ (0 ≤ a ∧ a < 8)) by omega) with hc1 | hc1
  · exfalso; omega
  · skip
    obtain ⟨rfl, hv1⟩ := (hu1.2 hc1)
    cases hv1
    refine zz_world (P' := (RP D C K (upd F 0 (nI 1)) hs mv G)) (fun _ h => h) ?_
    refine zz_ifB_eq 10 17 X.1 dX7_count_10 (by decide) (fun h10 => ?_) (fun h10 => ?_)
    · exact absurd h10 (by decide)
    · skip
      refine zz_iconst 13 X.1 (v := nI 0) dX7_count_13 rfl ?_
      refine zz_goto 14 22 X.1 dX7_count_14 (by decide) ?_
      rw [← hQ]
      refine zz_iret 22 X.1 hr rfl hlk (upd F 0 (nI 1), hs, mv, G) ?_ (fun _ h _ => h) dX7_count_22
      exact ⟨rfl, rfl⟩

abbrev rm_X7_length : Room := { frames := 2, cells := 0, slots := 0, locals := 43 }
theorem yd_X7_length : yX7_length.cls = RX7 ∧ yX7_length.cls ≠ "java/lang/invoke/MethodHandle" ∧ yX7_length.cls ≠ "java/lang/invoke/VarHandle" ∧ (parseMethodDescriptor yX7_length.desc).map (fun d => d.parameters.length) = some 1 := by decide +kernel
set_option maxHeartbeats 4000000 in
set_option maxRecDepth 100000 in
theorem kt_X7_length_no (l : Launch) (D : va_G) (C : Nat → ClassId) (K : Nat → Nat) (hAp : RAp K) (F : Nat → Int32) (hs mv : Nat → Bool) (G : Nat → Nat → Int32) (x0 : Int32) (a : Int) (h_a : x0.toInt = a) (hno : ¬ (0 ≤ a ∧ a < 8)) : RMi l yX7_length wsX7_length rm_X7_length D C K [.int x0] F hs mv G (fun (r : Int32) (u : MSt) => r = (nI 0) ∧ u = (upd F 0 (nI 1), hs, mv, G)) := by
  refine RMi_of (lv := [(0, .ref (K 0)), (1, .int x0)]) (cc := cX7_length) (maxL := 2) (ret := (some .int)) rfl rfl (by decide +kernel) (Nat.le_of_ble_eq_true rfl) rfl ?_
  intro p e s m args below meth c X hml hr hlk
  generalize hQ : MQ below _ args s 0 0 _ = Q
  refine zz_aload_n 0 X.1 0 dX7_length_0 rfl ?_
  refine zz_iconst 1 X.1 (v := nI 0) dX7_length_1 rfl ?_
  refine rr_put 2 hAp X 0 (by decide) (F' := upd F 0 (nI 0)) rfl (by decide +kernel) ⟨rfl, rfl⟩ (by decide +kernel) dX7_length_2 ?_
  refine zz_aload_n 5 X.1 0 dX7_length_5 rfl ?_
  refine zz_iload_n 6 X.1 1 dX7_length_6 rfl ?_
  refine rr_callVi 7 X hml (As := [.int x0]) (kt_X7_noSet l D C K hAp (upd F 0 (nI 0)) hs mv G x0 a (h_a) (by first | rfl | assumption | omega)) gX7_length_X7_noSet rfl ⟨rfl, rfl⟩ yd_X7_noSet ⟨Nat.le_of_ble_eq_true rfl, Nat.le_of_ble_eq_true rfl⟩ rfl rfl (Nat.le_of_ble_eq_true rfl) dX7_length_7 ?_
  rintro r1 ⟨F1, hs1, mv1, G1⟩ hu1
  rcases (show (0 ≤ a ∧ a < 8) ∨ (¬ (0 ≤ a ∧ a < 8)) by omega) with hc1 | hc1
  · exfalso; omega
  · skip
    obtain ⟨rfl, hv1⟩ := (hu1.2 hc1)
    cases hv1
    refine zz_world (P' := (RP D C K (upd F 0 (nI 1)) hs mv G)) (fun _ h => h) ?_
    refine zz_ifB_eq 10 17 X.1 dX7_length_10 (by decide) (fun h10 => ?_) (fun h10 => ?_)
    · exact absurd h10 (by decide)
    · skip
      refine zz_iconst 13 X.1 (v := nI 0) dX7_length_13 rfl ?_
      refine zz_goto 14 22 X.1 dX7_length_14 (by decide) ?_
      rw [← hQ]
      refine zz_iret 22 X.1 hr rfl hlk (upd F 0 (nI 1), hs, mv, G) ?_ (fun _ h _ => h) dX7_length_22
      exact ⟨rfl, rfl⟩

abbrev rm_X7_isEmpty : Room := { frames := 2, cells := 0, slots := 0, locals := 43 }
theorem yd_X7_isEmpty : yX7_isEmpty.cls = RX7 ∧ yX7_isEmpty.cls ≠ "java/lang/invoke/MethodHandle" ∧ yX7_isEmpty.cls ≠ "java/lang/invoke/VarHandle" ∧ (parseMethodDescriptor yX7_isEmpty.desc).map (fun d => d.parameters.length) = some 1 := by decide +kernel
set_option maxHeartbeats 4000000 in
set_option maxRecDepth 100000 in
theorem kt_X7_isEmpty_no (l : Launch) (D : va_G) (C : Nat → ClassId) (K : Nat → Nat) (hAp : RAp K) (F : Nat → Int32) (hs mv : Nat → Bool) (G : Nat → Nat → Int32) (x0 : Int32) (a : Int) (h_a : x0.toInt = a) (hno : ¬ (0 ≤ a ∧ a < 8)) : RMi l yX7_isEmpty wsX7_isEmpty rm_X7_isEmpty D C K [.int x0] F hs mv G (fun (r : Int32) (u : MSt) => r = (bI false) ∧ u = (upd F 0 (nI 1), hs, mv, G)) := by
  refine RMi_of (lv := [(0, .ref (K 0)), (1, .int x0)]) (cc := cX7_isEmpty) (maxL := 2) (ret := (some .boolean)) rfl rfl (by decide +kernel) (Nat.le_of_ble_eq_true rfl) rfl ?_
  intro p e s m args below meth c X hml hr hlk
  generalize hQ : MQ below _ args s 0 0 _ = Q
  refine zz_aload_n 0 X.1 0 dX7_isEmpty_0 rfl ?_
  refine zz_iconst 1 X.1 (v := nI 0) dX7_isEmpty_1 rfl ?_
  refine rr_put 2 hAp X 0 (by decide) (F' := upd F 0 (nI 0)) rfl (by decide +kernel) ⟨rfl, rfl⟩ (by decide +kernel) dX7_isEmpty_2 ?_
  refine zz_aload_n 5 X.1 0 dX7_isEmpty_5 rfl ?_
  refine zz_iload_n 6 X.1 1 dX7_isEmpty_6 rfl ?_
  refine rr_callVi 7 X hml (As := [.int x0]) (kt_X7_noSet l D C K hAp (upd F 0 (nI 0)) hs mv G x0 a (h_a) (by first | rfl | assumption | omega)) gX7_isEmpty_X7_noSet rfl ⟨rfl, rfl⟩ yd_X7_noSet ⟨Nat.le_of_ble_eq_true rfl, Nat.le_of_ble_eq_true rfl⟩ rfl rfl (Nat.le_of_ble_eq_true rfl) dX7_isEmpty_7 ?_
  rintro r1 ⟨F1, hs1, mv1, G1⟩ hu1
  rcases (show (0 ≤ a ∧ a < 8) ∨ (¬ (0 ≤ a ∧ a < 8)) by omega) with hc1 | hc1
  · exfalso; omega
  · skip
    obtain ⟨rfl, hv1⟩ := (hu1.2 hc1)
    cases hv1
    refine zz_world (P' := (RP D C K (upd F 0 (nI 1)) hs mv G)) (fun _ h => h) ?_
    refine zz_ifB_ne 10 25 X.1 dX7_isEmpty_10 (by decide) (fun h10 => ?_) (fun h10 => ?_)
    · skip
      refine zz_iconst 25 X.1 (v := nI 0) dX7_isEmpty_25 rfl ?_
      refine zz_topi (bI false) rfl ?_
      rw [← hQ]
      refine zz_iret 26 X.1 hr (bI_nar _) hlk (upd F 0 (nI 1), hs, mv, G) ?_ (fun _ h _ => h) dX7_isEmpty_26
      exact ⟨rfl, rfl⟩
    · exact absurd h10 (by decide)

abbrev rm_X7_isRoomy : Room := { frames := 2, cells := 0, slots := 0, locals := 43 }
theorem yd_X7_isRoomy : yX7_isRoomy.cls = RX7 ∧ yX7_isRoomy.cls ≠ "java/lang/invoke/MethodHandle" ∧ yX7_isRoomy.cls ≠ "java/lang/invoke/VarHandle" ∧ (parseMethodDescriptor yX7_isRoomy.desc).map (fun d => d.parameters.length) = some 1 := by decide +kernel
set_option maxHeartbeats 4000000 in
set_option maxRecDepth 100000 in
theorem kt_X7_isRoomy_no (l : Launch) (D : va_G) (C : Nat → ClassId) (K : Nat → Nat) (hAp : RAp K) (F : Nat → Int32) (hs mv : Nat → Bool) (G : Nat → Nat → Int32) (x0 : Int32) (a : Int) (h_a : x0.toInt = a) (hno : ¬ (0 ≤ a ∧ a < 8)) : RMi l yX7_isRoomy wsX7_isRoomy rm_X7_isRoomy D C K [.int x0] F hs mv G (fun (r : Int32) (u : MSt) => r = (bI false) ∧ u = (upd F 0 (nI 1), hs, mv, G)) := by
  refine RMi_of (lv := [(0, .ref (K 0)), (1, .int x0)]) (cc := cX7_isRoomy) (maxL := 2) (ret := (some .boolean)) rfl rfl (by decide +kernel) (Nat.le_of_ble_eq_true rfl) rfl ?_
  intro p e s m args below meth c X hml hr hlk
  generalize hQ : MQ below _ args s 0 0 _ = Q
  refine zz_aload_n 0 X.1 0 dX7_isRoomy_0 rfl ?_
  refine zz_iconst 1 X.1 (v := nI 0) dX7_isRoomy_1 rfl ?_
  refine rr_put 2 hAp X 0 (by decide) (F' := upd F 0 (nI 0)) rfl (by decide +kernel) ⟨rfl, rfl⟩ (by decide +kernel) dX7_isRoomy_2 ?_
  refine zz_aload_n 5 X.1 0 dX7_isRoomy_5 rfl ?_
  refine zz_iload_n 6 X.1 1 dX7_isRoomy_6 rfl ?_
  refine rr_callVi 7 X hml (As := [.int x0]) (kt_X7_noSet l D C K hAp (upd F 0 (nI 0)) hs mv G x0 a (h_a) (by first | rfl | assumption | omega)) gX7_isRoomy_X7_noSet rfl ⟨rfl, rfl⟩ yd_X7_noSet ⟨Nat.le_of_ble_eq_true rfl, Nat.le_of_ble_eq_true rfl⟩ rfl rfl (Nat.le_of_ble_eq_true rfl) dX7_isRoomy_7 ?_
  rintro r1 ⟨F1, hs1, mv1, G1⟩ hu1
  rcases (show (0 ≤ a ∧ a < 8) ∨ (¬ (0 ≤ a ∧ a < 8)) by omega) with hc1 | hc1
  · exfalso; omega
  · skip
    obtain ⟨rfl, hv1⟩ := (hu1.2 hc1)
    cases hv1
    refine zz_world (P' := (RP D C K (upd F 0 (nI 1)) hs mv G)) (fun _ h => h) ?_
    refine zz_ifB_ne 10 17 X.1 dX7_isRoomy_10 (by decide) (fun h10 => ?_) (fun h10 => ?_)
    · skip
      refine zz_iconst 17 X.1 (v := nI 0) dX7_isRoomy_17 rfl ?_
      refine zz_topi (bI false) rfl ?_
      rw [← hQ]
      refine zz_iret 18 X.1 hr (bI_nar _) hlk (upd F 0 (nI 1), hs, mv, G) ?_ (fun _ h _ => h) dX7_isRoomy_18
      exact ⟨rfl, rfl⟩
    · exact absurd h10 (by decide)

set_option maxHeartbeats 4000000 in
set_option maxRecDepth 100000 in
theorem kt_X7_count_ok (l : Launch) (D : va_G) (C : Nat → ClassId) (K : Nat → Nat) (hAp : RAp K) (F : Nat → Int32) (hs mv : Nat → Bool) (G : Nat → Nat → Int32) (s0 : Nat) (hs0 : s0 < 8) : RMi l yX7_count wsX7_count rm_X7_count D C K [.int (nI s0)] F hs mv G (fun (r : Int32) (u : MSt) => r = (nI (ct (hM hs s0) 1024)) ∧ u = (upd F 0 (nI 0), hs, mv, G)) := by
  refine RMi_of (lv := [(0, .ref (K 0)), (1, .int (nI s0))]) (cc := cX7_count) (maxL := 2) (ret := (some .int)) rfl rfl (by decide +kernel) (Nat.le_of_ble_eq_true rfl) rfl ?_
  intro p e s m args below meth c X hml hr hlk
  generalize hQ : MQ below _ args s 0 0 _ = Q
  refine zz_aload_n 0 X.1 0 dX7_count_0 rfl ?_
  refine zz_iconst 1 X.1 (v := nI 0) dX7_count_1 rfl ?_
  refine rr_put 2 hAp X 0 (by decide) (F' := upd F 0 (nI 0)) rfl (by decide +kernel) ⟨rfl, rfl⟩ (by decide +kernel) dX7_count_2 ?_
  refine zz_aload_n 5 X.1 0 dX7_count_5 rfl ?_
  refine zz_iload_n 6 X.1 1 dX7_count_6 rfl ?_
  refine rr_callVi 7 X hml (As := [.int (nI s0)]) (kt_X7_noSet l D C K hAp (upd F 0 (nI 0)) hs mv G (nI s0) ((s0 : Nat) : Int) (nI_toInt (by omega)) (by first | rfl | assumption | omega)) gX7_count_X7_noSet rfl ⟨rfl, rfl⟩ yd_X7_noSet ⟨Nat.le_of_ble_eq_true rfl, Nat.le_of_ble_eq_true rfl⟩ rfl rfl (Nat.le_of_ble_eq_true rfl) dX7_count_7 ?_
  rintro r1 ⟨F1, hs1, mv1, G1⟩ hu1
  obtain ⟨rfl, hv1⟩ := (hu1.1 (by omega))
  cases hv1
  refine zz_world (P' := (RP D C K (upd F 0 (nI 0)) hs mv G)) (fun _ h => h) ?_
  refine zz_ifB_eq 10 17 X.1 dX7_count_10 (by decide) (fun h10 => ?_) (fun h10 => ?_)
  · skip
    refine zz_aload_n 17 X.1 0 dX7_count_17 rfl ?_
    refine zz_iload_n 18 X.1 1 dX7_count_18 rfl ?_
    refine rr_callVi 19 X hml (As := [.int (nI s0)]) (kt_X7_many l D C K hAp (upd F 0 (nI 0)) hs mv G s0 (by first | rfl | assumption | omega)) gX7_count_X7_many rfl ⟨rfl, rfl⟩ yd_X7_many ⟨Nat.le_of_ble_eq_true rfl, Nat.le_of_ble_eq_true rfl⟩ rfl rfl (Nat.le_of_ble_eq_true rfl) dX7_count_19 ?_
    rintro r2 ⟨F2, hs2, mv2, G2⟩ hu2
    obtain ⟨rfl, hv2⟩ := hu2
    cases hv2
    refine zz_world (P' := (RP D C K (upd F 0 (nI 0)) hs mv G)) (fun _ h => h) ?_
    rw [← hQ]
    refine zz_iret 22 X.1 hr rfl hlk (upd F 0 (nI 0), hs, mv, G) ?_ (fun _ h _ => h) dX7_count_22
    exact ⟨rfl, rfl⟩
  · exact absurd h10 (by decide)

abbrev rm_X7_manyIn : Room := { frames := 0, cells := 0, slots := 0, locals := 0 }
theorem yd_X7_manyIn : yX7_manyIn.cls = RX7 ∧ yX7_manyIn.cls ≠ "java/lang/invoke/MethodHandle" ∧ yX7_manyIn.cls ≠ "java/lang/invoke/VarHandle" ∧ (parseMethodDescriptor yX7_manyIn.desc).map (fun d => d.parameters.length) = some 3 := by decide +kernel
set_option maxHeartbeats 4000000 in
set_option maxRecDepth 100000 in
theorem kt_X7_manyIn (l : Launch) (D : va_G) (C : Nat → ClassId) (K : Nat → Nat) (hAp : RAp K) (F : Nat → Int32) (hs mv : Nat → Bool) (G : Nat → Nat → Int32) (s0 : Nat) (f : Nat) (t : Nat) (hs0 : s0 < 8) (hft : f < 2 ^ 31 ∧ t < 2 ^ 31) : RMi l yX7_manyIn wsX7_manyIn rm_X7_manyIn D C K [.int (nI s0), .int (nI f), .int (nI t)] F hs mv G (fun (r : Int32) (u : MSt) => r = (nI (ct (pC (hM hs s0) f t) 1024)) ∧ u = (F, hs, mv, G)) := by
  refine RMi_of (lv := [(0, .ref (K 0)), (1, .int (nI s0)), (2, .int (nI f)), (3, .int (nI t))]) (cc := cX7_manyIn) (maxL := 6) (ret := (some .int)) rfl rfl (by decide +kernel) (Nat.le_of_ble_eq_true rfl) rfl ?_
  intro p e s m args below meth c X hml hr hlk
  generalize hQ : MQ below _ args s 0 0 _ = Q
  refine zz_iconst 0 X.1 (v := nI 0) dX7_manyIn_0 rfl ?_
  refine zz_istore 1 X.1 (lv' := [(4, .int (nI 0)), (0, .ref (K 0)), (1, .int (nI s0)), (2, .int (nI f)), (3, .int (nI t))]) dX7_manyIn_1 (by decide) rfl ?_
  refine zz_iload_n 3 X.1 3 dX7_manyIn_3 rfl ?_
  refine zz_istore 4 X.1 (lv' := [(5, .int (nI f)), (4, .int (nI 0)), (0, .ref (K 0)), (1, .int (nI s0)), (2, .int (nI f)), (3, .int (nI t))]) dX7_manyIn_4 (by decide) rfl ?_
  have C6 : ∀ (d : Nat) (i : Nat) (n2 : Nat) (hi : i = f ∨ (f ≤ i ∧ i ≤ t ∧ i ≤ 1024)) (hn : n2 = ct (pC (hM hs s0) f t) i) (hd : 1024 - i < d), ZZ p l e rm_X7_manyIn s m args below meth c 0 0 Q (zz_A (RAd K) s.heap.size) (RP D C K F hs mv G) 6 [(0, .ref (K 0)), (1, .int (nI s0)), (3, .int (nI t)), (4, .int (nI n2)), (5, .int (nI i))] [] 6 := by
    intro d
    induction d with
    | zero => intro i n2 hi hn hd; exact absurd hd (Nat.not_lt_zero _)
    | succ d ih6 =>
      intro i n2 hi hn hd
      refine zz_iload 6 X.1 4 dX7_manyIn_6 rfl ?_
      refine zz_iload_n 8 X.1 2 dX7_manyIn_8 rfl ?_
      refine zz_icmp_ge 9 52 X.1 (nI_toInt (by omega)) (nI_toInt (by omega)) dX7_manyIn_9 (by decide) (fun h9 => ?_) (fun h9 => ?_)
      · skip
        refine zz_iload 52 X.1 3 dX7_manyIn_52 rfl ?_
        rw [← hQ]
        refine zz_iret 54 X.1 hr rfl hlk (F, hs, mv, G) ?_ (fun _ h _ => h) dX7_manyIn_54
        exact ⟨by rw [hn, pC_end hi (by omega)], rfl⟩
      · skip
        refine zz_iload 12 X.1 4 dX7_manyIn_12 rfl ?_
        refine zz_sipush 14 X.1 (v := nI 1024) dX7_manyIn_14 rfl ?_
        refine zz_icmp_ge 17 52 X.1 (nI_toInt (by omega)) (nI_toInt (by omega)) dX7_manyIn_17 (by decide) (fun h17 => ?_) (fun h17 => ?_)
        · skip
          refine zz_iload 52 X.1 3 dX7_manyIn_52 rfl ?_
          rw [← hQ]
          refine zz_iret 54 X.1 hr rfl hlk (F, hs, mv, G) ?_ (fun _ h _ => h) dX7_manyIn_54
          exact ⟨by rw [hn, pC_end hi (by omega)], rfl⟩
        · skip
          have hcl := ct_le (pC (hM hs s0) f t) i
          refine zz_iload 20 X.1 3 dX7_manyIn_20 rfl ?_
          refine zz_aload_n 22 X.1 0 dX7_manyIn_22 rfl ?_
          refine rr_get 23 X 1 (by decide) (v := .ref (K 1)) rfl (by decide +kernel) rfl dX7_manyIn_23 ?_
          refine zz_sipush 26 X.1 (v := nI 1024) dX7_manyIn_26 rfl ?_
          refine zz_iload_n 29 X.1 1 dX7_manyIn_29 rfl ?_
          refine zz_imul 30 X.1 (v := (nI (1024 * s0))) dX7_manyIn_30 (pk_mul _ _) ?_
          refine zz_iload 31 X.1 4 dX7_manyIn_31 rfl ?_
          refine zz_iadd 33 X.1 (v := (nI ((1024 * s0) + i))) dX7_manyIn_33 (nI_add _ _) ?_
          refine rr_hld 34 X (by omega) dX7_manyIn_34 ?_
          refine zz_ifB_eq 35 42 X.1 dX7_manyIn_35 (by decide) (fun h35 => ?_) (fun h35 => ?_)
          · skip
            refine zz_iconst 42 X.1 (v := nI 0) dX7_manyIn_42 rfl ?_
            refine zz_iadd 43 X.1 (v := (nI (n2 + 0))) dX7_manyIn_43 (nI_add _ _) ?_
            refine zz_istore 44 X.1 (lv' := [(4, .int (nI (n2 + 0))), (0, .ref (K 0)), (1, .int (nI s0)), (3, .int (nI t)), (5, .int (nI i))]) dX7_manyIn_44 (by decide) rfl ?_
            refine zz_iinc 46 X.1 4 (v := (nI (i + 1))) (lv' := [(5, .int (nI (i + 1))), (4, .int (nI (n2 + 0))), (0, .ref (K 0)), (1, .int (nI s0)), (3, .int (nI t))]) dX7_manyIn_46 rfl (nI_add i 1) (by decide) rfl ?_
            refine zz_goto 49 6 X.1 dX7_manyIn_49 (by decide) ?_
            refine zz_lvs [2, 3, 4, 1, 0] rfl ?_
            exact ih6 (i + 1) (n2 + 0) (by omega) (by rw [hn]; first | exact pC_t (by omega) (by omega) h35 | exact pC_f h35) (by omega)
          · skip
            refine zz_iconst 38 X.1 (v := nI 1) dX7_manyIn_38 rfl ?_
            refine zz_goto 39 43 X.1 dX7_manyIn_39 (by decide) ?_
            refine zz_iadd 43 X.1 (v := (nI (n2 + 1))) dX7_manyIn_43 (nI_add _ _) ?_
            refine zz_istore 44 X.1 (lv' := [(4, .int (nI (n2 + 1))), (0, .ref (K 0)), (1, .int (nI s0)), (3, .int (nI t)), (5, .int (nI i))]) dX7_manyIn_44 (by decide) rfl ?_
            refine zz_iinc 46 X.1 4 (v := (nI (i + 1))) (lv' := [(5, .int (nI (i + 1))), (4, .int (nI (n2 + 1))), (0, .ref (K 0)), (1, .int (nI s0)), (3, .int (nI t))]) dX7_manyIn_46 rfl (nI_add i 1) (by decide) rfl ?_
            refine zz_goto 49 6 X.1 dX7_manyIn_49 (by decide) ?_
            refine zz_lvs [2, 3, 4, 1, 0] rfl ?_
            exact ih6 (i + 1) (n2 + 1) (by omega) (by rw [hn]; first | exact pC_t (by omega) (by omega) h35 | exact pC_f h35) (by omega)
  refine zz_lvs [2, 3, 5, 1, 0] rfl ?_
  exact C6 (1024 - f + 1) f 0 (by omega) ((pC_zero (Nat.le_refl _)).symm) (Nat.lt_succ_self _)

set_option maxHeartbeats 4000000 in
set_option maxRecDepth 100000 in
theorem kt_X7_countIn_ok (l : Launch) (D : va_G) (C : Nat → ClassId) (K : Nat → Nat) (hAp : RAp K) (F : Nat → Int32) (hs mv : Nat → Bool) (G : Nat → Nat → Int32) (s0 : Nat) (f : Nat) (t : Nat) (hs0 : s0 < 8) (hft : f ≤ t ∧ t < 2 ^ 31) : RMi l yX7_countIn wsX7_countIn rm_X7_countIn D C K [.int (nI s0), .int (nI f), .int (nI t)] F hs mv G (fun (r : Int32) (u : MSt) => r = (nI (ct (pC (hM hs s0) f t) 1024)) ∧ u = (upd F 0 (nI 0), hs, mv, G)) := by
  refine RMi_of (lv := [(0, .ref (K 0)), (1, .int (nI s0)), (2, .int (nI f)), (3, .int (nI t))]) (cc := cX7_countIn) (maxL := 4) (ret := (some .int)) rfl rfl (by decide +kernel) (Nat.le_of_ble_eq_true rfl) rfl ?_
  intro p e s m args below meth c X hml hr hlk
  generalize hQ : MQ below _ args s 0 0 _ = Q
  refine zz_aload_n 0 X.1 0 dX7_countIn_0 rfl ?_
  refine zz_iconst 1 X.1 (v := nI 0) dX7_countIn_1 rfl ?_
  refine rr_put 2 hAp X 0 (by decide) (F' := upd F 0 (nI 0)) rfl (by decide +kernel) ⟨rfl, rfl⟩ (by decide +kernel) dX7_countIn_2 ?_
  refine zz_aload_n 5 X.1 0 dX7_countIn_5 rfl ?_
  refine zz_iload_n 6 X.1 1 dX7_countIn_6 rfl ?_
  refine rr_callVi 7 X hml (As := [.int (nI s0)]) (kt_X7_noSet l D C K hAp (upd F 0 (nI 0)) hs mv G (nI s0) ((s0 : Nat) : Int) (nI_toInt (by omega)) (by first | rfl | assumption | omega)) gX7_countIn_X7_noSet rfl ⟨rfl, rfl⟩ yd_X7_noSet ⟨Nat.le_of_ble_eq_true rfl, Nat.le_of_ble_eq_true rfl⟩ rfl rfl (Nat.le_of_ble_eq_true rfl) dX7_countIn_7 ?_
  rintro r1 ⟨F1, hs1, mv1, G1⟩ hu1
  obtain ⟨rfl, hv1⟩ := (hu1.1 (by omega))
  cases hv1
  refine zz_world (P' := (RP D C K (upd F 0 (nI 0)) hs mv G)) (fun _ h => h) ?_
  refine zz_ifB_ne 10 22 X.1 dX7_countIn_10 (by decide) (fun h10 => ?_) (fun h10 => ?_)
  · exact absurd h10 (by decide)
  · skip
    refine zz_aload_n 13 X.1 0 dX7_countIn_13 rfl ?_
    refine zz_iload_n 14 X.1 2 dX7_countIn_14 rfl ?_
    refine zz_iload_n 15 X.1 3 dX7_countIn_15 rfl ?_
    refine rr_callVi 16 X hml (As := [.int (nI f), .int (nI t)]) (kt_X7_noRange l D C K hAp (upd F 0 (nI 0)) hs mv G (nI f) (nI t) ((f : Nat) : Int) ((t : Nat) : Int) (nI_toInt (by omega)) (nI_toInt (by omega)) (by first | rfl | assumption | omega)) gX7_countIn_X7_noRange rfl ⟨rfl, rfl⟩ yd_X7_noRange ⟨Nat.le_of_ble_eq_true rfl, Nat.le_of_ble_eq_true rfl⟩ rfl rfl (Nat.le_of_ble_eq_true rfl) dX7_countIn_16 ?_
    rintro r2 ⟨F2, hs2, mv2, G2⟩ hu2
    obtain ⟨rfl, hv2⟩ := (hu2.1 (by omega))
    cases hv2
    refine zz_world (P' := (RP D C K (upd F 0 (nI 0)) hs mv G)) (fun _ h => h) ?_
    refine zz_ifB_eq 19 26 X.1 dX7_countIn_19 (by decide) (fun h19 => ?_) (fun h19 => ?_)
    · skip
      refine zz_aload_n 26 X.1 0 dX7_countIn_26 rfl ?_
      refine zz_iload_n 27 X.1 1 dX7_countIn_27 rfl ?_
      refine zz_iload_n 28 X.1 2 dX7_countIn_28 rfl ?_
      refine zz_iload_n 29 X.1 3 dX7_countIn_29 rfl ?_
      refine rr_callVi 30 X hml (As := [.int (nI s0), .int (nI f), .int (nI t)]) (kt_X7_manyIn l D C K hAp (upd F 0 (nI 0)) hs mv G s0 f t (by first | rfl | assumption | omega) (by first | rfl | assumption | omega)) gX7_countIn_X7_manyIn rfl ⟨rfl, rfl⟩ yd_X7_manyIn ⟨Nat.le_of_ble_eq_true rfl, Nat.le_of_ble_eq_true rfl⟩ rfl rfl (Nat.le_of_ble_eq_true rfl) dX7_countIn_30 ?_
      rintro r3 ⟨F3, hs3, mv3, G3⟩ hu3
      obtain ⟨rfl, hv3⟩ := hu3
      cases hv3
      refine zz_world (P' := (RP D C K (upd F 0 (nI 0)) hs mv G)) (fun _ h => h) ?_
      rw [← hQ]
      refine zz_iret 33 X.1 hr rfl hlk (upd F 0 (nI 0), hs, mv, G) ?_ (fun _ h _ => h) dX7_countIn_33
      exact ⟨rfl, rfl⟩
    · exact absurd h19 (by decide)

set_option maxHeartbeats 4000000 in
set_option maxRecDepth 100000 in
theorem kt_X7_length_ok (l : Launch) (D : va_G) (C : Nat → ClassId) (K : Nat → Nat) (hAp : RAp K) (F : Nat → Int32) (hs mv : Nat → Bool) (G : Nat → Nat → Int32) (s0 : Nat) (hs0 : s0 < 8) : RMi l yX7_length wsX7_length rm_X7_length D C K [.int (nI s0)] F hs mv G (fun (r : Int32) (u : MSt) => r = (nI (ln (hM hs s0) 1024)) ∧ u = (upd F 0 (nI 0), hs, mv, G)) := by
  refine RMi_of (lv := [(0, .ref (K 0)), (1, .int (nI s0))]) (cc := cX7_length) (maxL := 2) (ret := (some .int)) rfl rfl (by decide +kernel) (Nat.le_of_ble_eq_true rfl) rfl ?_
  intro p e s m args below meth c X hml hr hlk
  generalize hQ : MQ below _ args s 0 0 _ = Q
  refine zz_aload_n 0 X.1 0 dX7_length_0 rfl ?_
  refine zz_iconst 1 X.1 (v := nI 0) dX7_length_1 rfl ?_
  refine rr_put 2 hAp X 0 (by decide) (F' := upd F 0 (nI 0)) rfl (by decide +kernel) ⟨rfl, rfl⟩ (by decide +kernel) dX7_length_2 ?_
  refine zz_aload_n 5 X.1 0 dX7_length_5 rfl ?_
  refine zz_iload_n 6 X.1 1 dX7_length_6 rfl ?_
  refine rr_callVi 7 X hml (As := [.int (nI s0)]) (kt_X7_noSet l D C K hAp (upd F 0 (nI 0)) hs mv G (nI s0) ((s0 : Nat) : Int) (nI_toInt (by omega)) (by first | rfl | assumption | omega)) gX7_length_X7_noSet rfl ⟨rfl, rfl⟩ yd_X7_noSet ⟨Nat.le_of_ble_eq_true rfl, Nat.le_of_ble_eq_true rfl⟩ rfl rfl (Nat.le_of_ble_eq_true rfl) dX7_length_7 ?_
  rintro r1 ⟨F1, hs1, mv1, G1⟩ hu1
  obtain ⟨rfl, hv1⟩ := (hu1.1 (by omega))
  cases hv1
  refine zz_world (P' := (RP D C K (upd F 0 (nI 0)) hs mv G)) (fun _ h => h) ?_
  refine zz_ifB_eq 10 17 X.1 dX7_length_10 (by decide) (fun h10 => ?_) (fun h10 => ?_)
  · skip
    refine zz_aload_n 17 X.1 0 dX7_length_17 rfl ?_
    refine zz_iload_n 18 X.1 1 dX7_length_18 rfl ?_
    refine rr_callVi 19 X hml (As := [.int (nI s0)]) (kt_X7_lengthOf l D C K hAp (upd F 0 (nI 0)) hs mv G s0 (by first | rfl | assumption | omega)) gX7_length_X7_lengthOf rfl ⟨rfl, rfl⟩ yd_X7_lengthOf ⟨Nat.le_of_ble_eq_true rfl, Nat.le_of_ble_eq_true rfl⟩ rfl rfl (Nat.le_of_ble_eq_true rfl) dX7_length_19 ?_
    rintro r2 ⟨F2, hs2, mv2, G2⟩ hu2
    obtain ⟨rfl, hv2⟩ := hu2
    cases hv2
    refine zz_world (P' := (RP D C K (upd F 0 (nI 0)) hs mv G)) (fun _ h => h) ?_
    rw [← hQ]
    refine zz_iret 22 X.1 hr rfl hlk (upd F 0 (nI 0), hs, mv, G) ?_ (fun _ h _ => h) dX7_length_22
    exact ⟨rfl, rfl⟩
  · exact absurd h10 (by decide)

set_option maxHeartbeats 4000000 in
set_option maxRecDepth 100000 in
theorem kt_X7_isEmpty_ok (l : Launch) (D : va_G) (C : Nat → ClassId) (K : Nat → Nat) (hAp : RAp K) (F : Nat → Int32) (hs mv : Nat → Bool) (G : Nat → Nat → Int32) (s0 : Nat) (hs0 : s0 < 8) : RMi l yX7_isEmpty wsX7_isEmpty rm_X7_isEmpty D C K [.int (nI s0)] F hs mv G (fun (r : Int32) (u : MSt) => r = (bI (decide (ln (hM hs s0) 1024 = 0))) ∧ u = (upd F 0 (nI 0), hs, mv, G)) := by
  refine RMi_of (lv := [(0, .ref (K 0)), (1, .int (nI s0))]) (cc := cX7_isEmpty) (maxL := 2) (ret := (some .boolean)) rfl rfl (by decide +kernel) (Nat.le_of_ble_eq_true rfl) rfl ?_
  intro p e s m args below meth c X hml hr hlk
  generalize hQ : MQ below _ args s 0 0 _ = Q
  refine zz_aload_n 0 X.1 0 dX7_isEmpty_0 rfl ?_
  refine zz_iconst 1 X.1 (v := nI 0) dX7_isEmpty_1 rfl ?_
  refine rr_put 2 hAp X 0 (by decide) (F' := upd F 0 (nI 0)) rfl (by decide +kernel) ⟨rfl, rfl⟩ (by decide +kernel) dX7_isEmpty_2 ?_
  refine zz_aload_n 5 X.1 0 dX7_isEmpty_5 rfl ?_
  refine zz_iload_n 6 X.1 1 dX7_isEmpty_6 rfl ?_
  refine rr_callVi 7 X hml (As := [.int (nI s0)]) (kt_X7_noSet l D C K hAp (upd F 0 (nI 0)) hs mv G (nI s0) ((s0 : Nat) : Int) (nI_toInt (by omega)) (by first | rfl | assumption | omega)) gX7_isEmpty_X7_noSet rfl ⟨rfl, rfl⟩ yd_X7_noSet ⟨Nat.le_of_ble_eq_true rfl, Nat.le_of_ble_eq_true rfl⟩ rfl rfl (Nat.le_of_ble_eq_true rfl) dX7_isEmpty_7 ?_
  rintro r1 ⟨F1, hs1, mv1, G1⟩ hu1
  obtain ⟨rfl, hv1⟩ := (hu1.1 (by omega))
  cases hv1
  refine zz_world (P' := (RP D C K (upd F 0 (nI 0)) hs mv G)) (fun _ h => h) ?_
  refine zz_ifB_ne 10 25 X.1 dX7_isEmpty_10 (by decide) (fun h10 => ?_) (fun h10 => ?_)
  · exact absurd h10 (by decide)
  · skip
    have hl := ln_le (hM hs s0) 1024
    refine zz_aload_n 13 X.1 0 dX7_isEmpty_13 rfl ?_
    refine zz_iload_n 14 X.1 1 dX7_isEmpty_14 rfl ?_
    refine rr_callVi 15 X hml (As := [.int (nI s0)]) (kt_X7_lengthOf l D C K hAp (upd F 0 (nI 0)) hs mv G s0 (by first | rfl | assumption | omega)) gX7_isEmpty_X7_lengthOf rfl ⟨rfl, rfl⟩ yd_X7_lengthOf ⟨Nat.le_of_ble_eq_true rfl, Nat.le_of_ble_eq_true rfl⟩ rfl rfl (Nat.le_of_ble_eq_true rfl) dX7_isEmpty_15 ?_
    rintro r2 ⟨F2, hs2, mv2, G2⟩ hu2
    obtain ⟨rfl, hv2⟩ := hu2
    cases hv2
    refine zz_world (P' := (RP D C K (upd F 0 (nI 0)) hs mv G)) (fun _ h => h) ?_
    refine zz_if_ne 18 25 X.1 (nI_toInt (by omega)) dX7_isEmpty_18 (by decide) (fun h18 => ?_) (fun h18 => ?_)
    · skip
      refine zz_iconst 25 X.1 (v := nI 0) dX7_isEmpty_25 rfl ?_
      refine zz_topi (bI false) rfl ?_
      rw [← hQ]
      refine zz_iret 26 X.1 hr (bI_nar _) hlk (upd F 0 (nI 0), hs, mv, G) ?_ (fun _ h _ => h) dX7_isEmpty_26
      refine ⟨congrArg bI ?_, rfl⟩
      first | (exact (decide_eq_true (by omega)).symm) | (exact (decide_eq_false (by omega)).symm)
    · skip
      refine zz_iconst 21 X.1 (v := nI 1) dX7_isEmpty_21 rfl ?_
      refine zz_goto 22 26 X.1 dX7_isEmpty_22 (by decide) ?_
      refine zz_topi (bI true) rfl ?_
      rw [← hQ]
      refine zz_iret 26 X.1 hr (bI_nar _) hlk (upd F 0 (nI 0), hs, mv, G) ?_ (fun _ h _ => h) dX7_isEmpty_26
      refine ⟨congrArg bI ?_, rfl⟩
      first | (exact (decide_eq_true (by omega)).symm) | (exact (decide_eq_false (by omega)).symm)

set_option maxHeartbeats 4000000 in
set_option maxRecDepth 100000 in
theorem kt_X7_isRoomy_ok (l : Launch) (D : va_G) (C : Nat → ClassId) (K : Nat → Nat) (hAp : RAp K) (F : Nat → Int32) (hs mv : Nat → Bool) (G : Nat → Nat → Int32) (s0 : Nat) (hs0 : s0 < 8) : RMi l yX7_isRoomy wsX7_isRoomy rm_X7_isRoomy D C K [.int (nI s0)] F hs mv G (fun (r : Int32) (u : MSt) => r = (bI true) ∧ u = (upd F 0 (nI 0), hs, mv, G)) := by
  refine RMi_of (lv := [(0, .ref (K 0)), (1, .int (nI s0))]) (cc := cX7_isRoomy) (maxL := 2) (ret := (some .boolean)) rfl rfl (by decide +kernel) (Nat.le_of_ble_eq_true rfl) rfl ?_
  intro p e s m args below meth c X hml hr hlk
  generalize hQ : MQ below _ args s 0 0 _ = Q
  refine zz_aload_n 0 X.1 0 dX7_isRoomy_0 rfl ?_
  refine zz_iconst 1 X.1 (v := nI 0) dX7_isRoomy_1 rfl ?_
  refine rr_put 2 hAp X 0 (by decide) (F' := upd F 0 (nI 0)) rfl (by decide +kernel) ⟨rfl, rfl⟩ (by decide +kernel) dX7_isRoomy_2 ?_
  refine zz_aload_n 5 X.1 0 dX7_isRoomy_5 rfl ?_
  refine zz_iload_n 6 X.1 1 dX7_isRoomy_6 rfl ?_
  refine rr_callVi 7 X hml (As := [.int (nI s0)]) (kt_X7_noSet l D C K hAp (upd F 0 (nI 0)) hs mv G (nI s0) ((s0 : Nat) : Int) (nI_toInt (by omega)) (by first | rfl | assumption | omega)) gX7_isRoomy_X7_noSet rfl ⟨rfl, rfl⟩ yd_X7_noSet ⟨Nat.le_of_ble_eq_true rfl, Nat.le_of_ble_eq_true rfl⟩ rfl rfl (Nat.le_of_ble_eq_true rfl) dX7_isRoomy_7 ?_
  rintro r1 ⟨F1, hs1, mv1, G1⟩ hu1
  obtain ⟨rfl, hv1⟩ := (hu1.1 (by omega))
  cases hv1
  refine zz_world (P' := (RP D C K (upd F 0 (nI 0)) hs mv G)) (fun _ h => h) ?_
  refine zz_ifB_ne 10 17 X.1 dX7_isRoomy_10 (by decide) (fun h10 => ?_) (fun h10 => ?_)
  · exact absurd h10 (by decide)
  · skip
    refine zz_iconst 13 X.1 (v := nI 1) dX7_isRoomy_13 rfl ?_
    refine zz_goto 14 18 X.1 dX7_isRoomy_14 (by decide) ?_
    refine zz_topi (bI true) rfl ?_
    rw [← hQ]
    refine zz_iret 18 X.1 hr (bI_nar _) hlk (upd F 0 (nI 0), hs, mv, G) ?_ (fun _ h _ => h) dX7_isRoomy_18
    exact ⟨rfl, rfl⟩
