/-! The reference's floats. -/

abbrev rm_X7_meanCount : Room := { frames := 1, cells := 0, slots := 0, locals := 23 }
theorem yd_X7_meanCount : yX7_meanCount.cls = RX7 ∧ yX7_meanCount.cls ≠ "java/lang/invoke/MethodHandle" ∧ yX7_meanCount.cls ≠ "java/lang/invoke/VarHandle" ∧ (parseMethodDescriptor yX7_meanCount.desc).map (fun d => d.parameters.length) = some 0 := by decide +kernel
set_option maxHeartbeats 4000000 in
set_option maxRecDepth 100000 in
theorem kt_X7_meanCount_ok (l : Launch) (D : va_G) (C : Nat → ClassId) (K : Nat → Nat) (hAp : RAp K) (F : Nat → Int32) (hs mv : Nat → Bool) (G : Nat → Nat → Int32)   : RMd l yX7_meanCount wsX7_meanCount rm_X7_meanCount D C K [] F hs mv G (fun (r : UInt64) (u : MSt) => r = (FP.ddiv (FP.i2d (nI (sumc hs 8))) 4620693217682128896) ∧ u = (upd F 0 (nI 0), hs, mv, G)) := by
  refine RMd_of (lv := [(0, .ref (K 0))]) (cc := cX7_meanCount) (maxL := 3) (ret := (some .double)) rfl rfl (by decide +kernel) (Nat.le_of_ble_eq_true rfl) rfl ?_
  intro p e s m args below meth c X hml hr hlk
  generalize hQ : MQ below _ args s 0 0 _ = Q
  refine zz_aload_n 0 X.1 0 dX7_meanCount_0 rfl ?_
  refine zz_iconst 1 X.1 (v := nI 0) dX7_meanCount_1 rfl ?_
  refine rr_put 2 hAp X 0 (by decide) (F' := upd F 0 (nI 0)) rfl (by decide +kernel) ⟨rfl, rfl⟩ (by decide +kernel) dX7_meanCount_2 ?_
  refine zz_iconst 5 X.1 (v := nI 0) dX7_meanCount_5 rfl ?_
  refine zz_istore_n 6 X.1 (lv' := [(1, .int (nI 0)), (0, .ref (K 0))]) dX7_meanCount_6 (by decide) rfl ?_
  refine zz_iconst 7 X.1 (v := nI 0) dX7_meanCount_7 rfl ?_
  refine zz_istore_n 8 X.1 (lv' := [(2, .int (nI 0)), (1, .int (nI 0)), (0, .ref (K 0))]) dX7_meanCount_8 (by decide) rfl ?_
  have C9 : ∀ (d : Nat) (kq : Nat) (hk : kq ≤ 8) (hd : 8 - kq < d), ZZ p l e rm_X7_meanCount s m args below meth c 0 0 Q (zz_A (RAd K) s.heap.size) (RP D C K (upd F 0 (nI 0)) hs mv G) 3 [(0, .ref (K 0)), (1, .int (nI (sumc hs kq))), (2, .int (nI kq))] [] 9 := by
    intro d
    induction d with
    | zero => intro kq hk hd; exact absurd hd (Nat.not_lt_zero _)
    | succ d ih9 =>
      intro kq hk hd
      refine zz_iload_n 9 X.1 2 dX7_meanCount_9 rfl ?_
      refine zz_bipush 10 X.1 (v := nI 8) dX7_meanCount_10 rfl ?_
      refine zz_icmp_ge 12 29 X.1 (nI_toInt (by omega)) (nI_toInt (by omega)) dX7_meanCount_12 (by decide) (fun h12 => ?_) (fun h12 => ?_)
      · skip
        refine zz_iload_n 29 X.1 1 dX7_meanCount_29 rfl ?_
        refine zf_i2d 30 X.1 dX7_meanCount_30 ?_
        refine zf_ldc2d 31 X.1 (v := 4620693217682128896) X.2.2.2.1 (by exact (X.2.1 _ (by decide +kernel))) dX7_meanCount_31 ?_
        refine zf_ddiv 34 X.1 (fl_mean) dX7_meanCount_34 ?_
        rw [← hQ]
        refine zz_dret 35 X.1 hr hlk (upd F 0 (nI 0), hs, mv, G) ?_ (fun _ h _ => h) dX7_meanCount_35
        exact ⟨by rw [show kq = 8 by omega], rfl⟩
      · skip
        refine zz_iload_n 15 X.1 1 dX7_meanCount_15 rfl ?_
        refine zz_aload_n 16 X.1 0 dX7_meanCount_16 rfl ?_
        refine zz_iload_n 17 X.1 2 dX7_meanCount_17 rfl ?_
        refine rr_callVi 18 X hml (As := [.int (nI kq)]) (kt_X7_many l D C K hAp (upd F 0 (nI 0)) hs mv G kq (by first | rfl | assumption | omega)) gX7_meanCount_X7_many rfl ⟨rfl, rfl⟩ yd_X7_many ⟨Nat.le_of_ble_eq_true rfl, Nat.le_of_ble_eq_true rfl⟩ rfl rfl (Nat.le_of_ble_eq_true rfl) dX7_meanCount_18 ?_
        rintro r1 ⟨F1, hs1, mv1, G1⟩ hu1
        obtain ⟨rfl, hv1⟩ := hu1
        cases hv1
        refine zz_world (P' := (RP D C K (upd F 0 (nI 0)) hs mv G)) (fun _ h => h) ?_
        refine zz_iadd 21 X.1 (v := (nI ((sumc hs kq) + (ct (hM hs kq) 1024)))) dX7_meanCount_21 (nI_add _ _) ?_
        refine zz_istore_n 22 X.1 (lv' := [(1, .int (nI ((sumc hs kq) + (ct (hM hs kq) 1024)))), (0, .ref (K 0)), (2, .int (nI kq))]) dX7_meanCount_22 (by decide) rfl ?_
        refine zz_iinc 23 X.1 2 (v := (nI (kq + 1))) (lv' := [(2, .int (nI (kq + 1))), (1, .int (nI ((sumc hs kq) + (ct (hM hs kq) 1024)))), (0, .ref (K 0))]) dX7_meanCount_23 rfl (nI_add kq 1) (by decide) rfl ?_
        refine zz_goto 26 9 X.1 dX7_meanCount_26 (by decide) ?_
        refine zz_lvs [2, 1, 0] rfl ?_
        exact ih9 (kq + 1) (by omega) (by omega)
  refine zz_lvs [2, 1, 0] rfl ?_
  exact C9 (8 - 0 + 1) 0 (by omega) (Nat.lt_succ_self _)

abbrev rm_X7_share : Room := { frames := 2, cells := 0, slots := 0, locals := 43 }
theorem yd_X7_share : yX7_share.cls = RX7 ∧ yX7_share.cls ≠ "java/lang/invoke/MethodHandle" ∧ yX7_share.cls ≠ "java/lang/invoke/VarHandle" ∧ (parseMethodDescriptor yX7_share.desc).map (fun d => d.parameters.length) = some 2 := by decide +kernel
set_option maxHeartbeats 4000000 in
set_option maxRecDepth 100000 in
theorem kt_X7_share_no (l : Launch) (D : va_G) (C : Nat → ClassId) (K : Nat → Nat) (hAp : RAp K) (F : Nat → Int32) (hs mv : Nat → Bool) (G : Nat → Nat → Int32) (x0 : Int32) (x1 : Int32) (a : Int) (b : Int) (h_a : x0.toInt = a) (h_b : x1.toInt = b) (hno : ¬ (0 ≤ a ∧ a < 8) ∨ ¬ (1 ≤ b ∧ b ≤ 1024)) : RMf l yX7_share wsX7_share rm_X7_share D C K [.int x0, .int x1] F hs mv G (fun (r : UInt32) (u : MSt) => r = FP.fconst0 ∧ u = (upd F 0 (nI 1), hs, mv, G)) := by
  refine RMf_of (lv := [(0, .ref (K 0)), (1, .int x0), (2, .int x1)]) (cc := cX7_share) (maxL := 3) (ret := (some .float)) rfl rfl (by decide +kernel) (Nat.le_of_ble_eq_true rfl) rfl ?_
  intro p e s m args below meth c X hml hr hlk
  generalize hQ : MQ below _ args s 0 0 _ = Q
  refine zz_aload_n 0 X.1 0 dX7_share_0 rfl ?_
  refine zz_iconst 1 X.1 (v := nI 0) dX7_share_1 rfl ?_
  refine rr_put 2 hAp X 0 (by decide) (F' := upd F 0 (nI 0)) rfl (by decide +kernel) ⟨rfl, rfl⟩ (by decide +kernel) dX7_share_2 ?_
  refine zz_aload_n 5 X.1 0 dX7_share_5 rfl ?_
  refine zz_iload_n 6 X.1 1 dX7_share_6 rfl ?_
  refine rr_callVi 7 X hml (As := [.int x0]) (kt_X7_noSet l D C K hAp (upd F 0 (nI 0)) hs mv G x0 a (h_a) (by first | rfl | assumption | omega)) gX7_share_X7_noSet rfl ⟨rfl, rfl⟩ yd_X7_noSet ⟨Nat.le_of_ble_eq_true rfl, Nat.le_of_ble_eq_true rfl⟩ rfl rfl (Nat.le_of_ble_eq_true rfl) dX7_share_7 ?_
  rintro r1 ⟨F1, hs1, mv1, G1⟩ hu1
  rcases (show (0 ≤ a ∧ a < 8) ∨ (¬ (0 ≤ a ∧ a < 8)) by omega) with hc1 | hc1
  · skip
    obtain ⟨rfl, hv1⟩ := (hu1.1 hc1)
    cases hv1
    refine zz_world (P' := (RP D C K (upd F 0 (nI 0)) hs mv G)) (fun _ h => h) ?_
    refine zz_ifB_ne 10 29 X.1 dX7_share_10 (by decide) (fun h10 => ?_) (fun h10 => ?_)
    · exact absurd h10 (by decide)
    · skip
      refine zz_aload_n 13 X.1 0 dX7_share_13 rfl ?_
      refine zz_iload_n 14 X.1 2 dX7_share_14 rfl ?_
      refine zz_iconst 15 X.1 (v := nI 1) dX7_share_15 rfl ?_
      refine zz_sipush 16 X.1 (v := nI 1024) dX7_share_16 rfl ?_
      refine zz_callS0i 19 ⟨X.1.1, X.1.2, hml, X.2.2.2.1, X.2.1⟩ (fun q h => Or.inr h) RP_keep (As := [.int x1, .int (nI 1), .int (nI 1024)]) (kt_X7_in l x1 (nI 1) (nI 1024) b ((1 : Nat) : Int) ((1024 : Nat) : Int) (h_b) (nI_toInt (by omega)) (nI_toInt (by omega))) gX7_share_X7_in rfl ⟨rfl, rfl⟩ yd_X7_in.2 ⟨Nat.le_of_ble_eq_true rfl, Nat.le_of_ble_eq_true rfl⟩ rfl rfl (Nat.le_of_ble_eq_true rfl) ⟨Nat.zero_le _, Nat.zero_le _⟩ dX7_share_19 ?_
      intro r2 hu2
      rcases (show (((1 : Nat) : Int) ≤ b ∧ b ≤ ((1024 : Nat) : Int)) ∨ (¬ (((1 : Nat) : Int) ≤ b ∧ b ≤ ((1024 : Nat) : Int))) by omega) with hc2 | hc2
      · exfalso; omega
      · skip
        obtain rfl := (hu2.2 hc2)
        refine zz_iconst 22 X.1 (v := nI 1) dX7_share_22 rfl ?_
        refine rr_callVi 23 X hml (As := [.int (bI false), .int (nI 1)]) (kt_X7_fails l D C K hAp (upd F 0 (nI 0)) hs mv G false 1 (by first | rfl | assumption | omega) (by first | rfl | assumption | omega)) gX7_share_X7_fails rfl ⟨rfl, rfl⟩ yd_X7_fails ⟨Nat.le_of_ble_eq_true rfl, Nat.le_of_ble_eq_true rfl⟩ rfl rfl (Nat.le_of_ble_eq_true rfl) dX7_share_23 ?_
        rintro r3 ⟨F3, hs3, mv3, G3⟩ hu3
        obtain ⟨rfl, hv3⟩ := (hu3.2 (show false = false from rfl))
        cases hv3
        refine zz_world (P' := (RP D C K (upd F 0 (nI 1)) hs mv G)) (fun _ h => h) ?_
        refine zz_ifB_eq 26 31 X.1 dX7_share_26 (by decide) (fun h26 => ?_) (fun h26 => ?_)
        · exact absurd h26 (by decide)
        · skip
          refine zf_fconst0 29 X.1 dX7_share_29 ?_
          rw [← hQ]
          refine zz_fret 30 X.1 hr hlk (upd F 0 (nI 1), hs, mv, G) ?_ (fun _ h _ => h) dX7_share_30
          exact ⟨rfl, rfl⟩
  · skip
    obtain ⟨rfl, hv1⟩ := (hu1.2 hc1)
    cases hv1
    refine zz_world (P' := (RP D C K (upd F 0 (nI 1)) hs mv G)) (fun _ h => h) ?_
    refine zz_ifB_ne 10 29 X.1 dX7_share_10 (by decide) (fun h10 => ?_) (fun h10 => ?_)
    · skip
      refine zf_fconst0 29 X.1 dX7_share_29 ?_
      rw [← hQ]
      refine zz_fret 30 X.1 hr hlk (upd F 0 (nI 1), hs, mv, G) ?_ (fun _ h _ => h) dX7_share_30
      exact ⟨rfl, rfl⟩
    · exact absurd h10 (by decide)

set_option maxHeartbeats 4000000 in
set_option maxRecDepth 100000 in
theorem kt_X7_share_ok (l : Launch) (D : va_G) (C : Nat → ClassId) (K : Nat → Nat) (hAp : RAp K) (F : Nat → Int32) (hs mv : Nat → Bool) (G : Nat → Nat → Int32) (s0 : Nat) (t : Nat) (hs0 : s0 < 8) (ht : 1 ≤ t ∧ t ≤ 1024) : RMf l yX7_share wsX7_share rm_X7_share D C K [.int (nI s0), .int (nI t)] F hs mv G (fun (r : UInt32) (u : MSt) => r = (FP.fdiv (FP.i2f (nI (ct (pC (hM hs s0) 0 t) 1024))) (FP.i2f (nI t))) ∧ u = (upd F 0 (nI 0), hs, mv, G)) := by
  refine RMf_of (lv := [(0, .ref (K 0)), (1, .int (nI s0)), (2, .int (nI t))]) (cc := cX7_share) (maxL := 3) (ret := (some .float)) rfl rfl (by decide +kernel) (Nat.le_of_ble_eq_true rfl) rfl ?_
  intro p e s m args below meth c X hml hr hlk
  generalize hQ : MQ below _ args s 0 0 _ = Q
  refine zz_aload_n 0 X.1 0 dX7_share_0 rfl ?_
  refine zz_iconst 1 X.1 (v := nI 0) dX7_share_1 rfl ?_
  refine rr_put 2 hAp X 0 (by decide) (F' := upd F 0 (nI 0)) rfl (by decide +kernel) ⟨rfl, rfl⟩ (by decide +kernel) dX7_share_2 ?_
  refine zz_aload_n 5 X.1 0 dX7_share_5 rfl ?_
  refine zz_iload_n 6 X.1 1 dX7_share_6 rfl ?_
  refine rr_callVi 7 X hml (As := [.int (nI s0)]) (kt_X7_noSet l D C K hAp (upd F 0 (nI 0)) hs mv G (nI s0) ((s0 : Nat) : Int) (nI_toInt (by omega)) (by first | rfl | assumption | omega)) gX7_share_X7_noSet rfl ⟨rfl, rfl⟩ yd_X7_noSet ⟨Nat.le_of_ble_eq_true rfl, Nat.le_of_ble_eq_true rfl⟩ rfl rfl (Nat.le_of_ble_eq_true rfl) dX7_share_7 ?_
  rintro r1 ⟨F1, hs1, mv1, G1⟩ hu1
  obtain ⟨rfl, hv1⟩ := (hu1.1 (show 0 ≤ ((s0 : Nat) : Int) ∧ ((s0 : Nat) : Int) < 8 from by omega))
  cases hv1
  refine zz_world (P' := (RP D C K (upd F 0 (nI 0)) hs mv G)) (fun _ h => h) ?_
  refine zz_ifB_ne 10 29 X.1 dX7_share_10 (by decide) (fun h10 => ?_) (fun h10 => ?_)
  · exact absurd h10 (by decide)
  · skip
    refine zz_aload_n 13 X.1 0 dX7_share_13 rfl ?_
    refine zz_iload_n 14 X.1 2 dX7_share_14 rfl ?_
    refine zz_iconst 15 X.1 (v := nI 1) dX7_share_15 rfl ?_
    refine zz_sipush 16 X.1 (v := nI 1024) dX7_share_16 rfl ?_
    refine zz_callS0i 19 ⟨X.1.1, X.1.2, hml, X.2.2.2.1, X.2.1⟩ (fun q h => Or.inr h) RP_keep (As := [.int (nI t), .int (nI 1), .int (nI 1024)]) (kt_X7_in l (nI t) (nI 1) (nI 1024) ((t : Nat) : Int) ((1 : Nat) : Int) ((1024 : Nat) : Int) (nI_toInt (by omega)) (nI_toInt (by omega)) (nI_toInt (by omega))) gX7_share_X7_in rfl ⟨rfl, rfl⟩ yd_X7_in.2 ⟨Nat.le_of_ble_eq_true rfl, Nat.le_of_ble_eq_true rfl⟩ rfl rfl (Nat.le_of_ble_eq_true rfl) ⟨Nat.zero_le _, Nat.zero_le _⟩ dX7_share_19 ?_
    intro r2 hu2
    rcases (show (((1 : Nat) : Int) ≤ ((t : Nat) : Int) ∧ ((t : Nat) : Int) ≤ ((1024 : Nat) : Int)) ∨ (¬ (((1 : Nat) : Int) ≤ ((t : Nat) : Int) ∧ ((t : Nat) : Int) ≤ ((1024 : Nat) : Int))) by omega) with hc2 | hc2
    · skip
      obtain rfl := (hu2.1 hc2)
      refine zz_iconst 22 X.1 (v := nI 1) dX7_share_22 rfl ?_
      refine rr_callVi 23 X hml (As := [.int (bI true), .int (nI 1)]) (kt_X7_fails l D C K hAp (upd F 0 (nI 0)) hs mv G true 1 (by first | rfl | assumption | omega) (by first | rfl | assumption | omega)) gX7_share_X7_fails rfl ⟨rfl, rfl⟩ yd_X7_fails ⟨Nat.le_of_ble_eq_true rfl, Nat.le_of_ble_eq_true rfl⟩ rfl rfl (Nat.le_of_ble_eq_true rfl) dX7_share_23 ?_
      rintro r3 ⟨F3, hs3, mv3, G3⟩ hu3
      obtain ⟨rfl, hv3⟩ := (hu3.1 (show true = true from rfl))
      cases hv3
      refine zz_world (P' := (RP D C K (upd F 0 (nI 0)) hs mv G)) (fun _ h => h) ?_
      refine zz_ifB_eq 26 31 X.1 dX7_share_26 (by decide) (fun h26 => ?_) (fun h26 => ?_)
      · skip
        refine zz_aload_n 31 X.1 0 dX7_share_31 rfl ?_
        refine zz_iload_n 32 X.1 1 dX7_share_32 rfl ?_
        refine zz_iconst 33 X.1 (v := nI 0) dX7_share_33 rfl ?_
        refine zz_iload_n 34 X.1 2 dX7_share_34 rfl ?_
        refine rr_callVi 35 X hml (As := [.int (nI s0), .int (nI 0), .int (nI t)]) (kt_X7_manyIn l D C K hAp (upd F 0 (nI 0)) hs mv G s0 0 t (by first | rfl | assumption | omega) (by first | rfl | assumption | omega)) gX7_share_X7_manyIn rfl ⟨rfl, rfl⟩ yd_X7_manyIn ⟨Nat.le_of_ble_eq_true rfl, Nat.le_of_ble_eq_true rfl⟩ rfl rfl (Nat.le_of_ble_eq_true rfl) dX7_share_35 ?_
        rintro r4 ⟨F4, hs4, mv4, G4⟩ hu4
        obtain ⟨rfl, hv4⟩ := hu4
        cases hv4
        refine zz_world (P' := (RP D C K (upd F 0 (nI 0)) hs mv G)) (fun _ h => h) ?_
        refine zf_i2f 38 X.1 dX7_share_38 ?_
        refine zz_iload_n 39 X.1 2 dX7_share_39 rfl ?_
        refine zf_i2f 40 X.1 dX7_share_40 ?_
        refine zf_fdiv 41 X.1 (fl_share (by omega) (by omega)) dX7_share_41 ?_
        rw [← hQ]
        refine zz_fret 42 X.1 hr hlk (upd F 0 (nI 0), hs, mv, G) ?_ (fun _ h _ => h) dX7_share_42
        exact ⟨rfl, rfl⟩
      · exact absurd h26 (by decide)
    · exfalso; omega
