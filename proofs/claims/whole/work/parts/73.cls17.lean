/-! The class's floats. -/

abbrev rm_X6_meanCount : Room := { frames := 4, cells := 0, slots := 0, locals := 89 }
theorem yd_X6_meanCount : yX6_meanCount.cls = RX6 ∧ yX6_meanCount.cls ≠ "java/lang/invoke/MethodHandle" ∧ yX6_meanCount.cls ≠ "java/lang/invoke/VarHandle" ∧ (parseMethodDescriptor yX6_meanCount.desc).map (fun d => d.parameters.length) = some 0 := by decide +kernel
set_option maxHeartbeats 4000000 in
set_option maxRecDepth 100000 in
theorem kt_X6_meanCount_ok (l : Launch) (D : va_G) (C : Nat → ClassId) (K : Nat → Nat) (hAp : DAp K) (F : Nat → Int32) (hs : Nat → Bool) (G T : Nat → Nat → Int32)   : CMd l yX6_meanCount wsX6_meanCount rm_X6_meanCount D C K (0)  [] F hs G T (fun (r : UInt64) (u : CSt) => r = (FP.ddiv (FP.i2d (nI (sumc hs 8))) 4620693217682128896) ∧ u = (F, hs, G, T)) := by
  refine CMd_of (lv := [(0, .ref (K 0))]) (cc := cX6_meanCount) (maxL := 6) (ret := (some .double)) rfl (by decide +kernel) (Nat.le_of_ble_eq_true rfl) rfl ?_
  intro p e s m args below meth c X hml hr hlk
  generalize hQ : MQ below _ args s 0 0 _ = Q
  refine zz_iconst 0 X.1 (v := nI 0) dX6_meanCount_0 rfl ?_
  refine zz_istore_n 1 X.1 (lv' := [(1, .int (nI 0)), (0, .ref (K 0))]) dX6_meanCount_1 (by decide) rfl ?_
  refine zz_aload_n 2 X.1 1 dX6_meanCount_2 rfl ?_
  refine dd_get0 3 X (by decide +kernel) 0 (by decide) (v := .ref (K 1)) rfl (by decide +kernel) rfl dX6_meanCount_3 ?_
  refine zz_astore_n 6 X.1 (lv' := [(2, .ref (K 1)), (1, .int (nI 0)), (0, .ref (K 0))]) dX6_meanCount_6 (by decide) rfl ?_
  refine zz_aload_n 7 X.1 0 dX6_meanCount_7 rfl ?_
  refine dd_alen1 8 X dX6_meanCount_8 ?_
  refine zz_istore_n 9 X.1 (lv' := [(3, .int (nI 8)), (2, .ref (K 1)), (1, .int (nI 0)), (0, .ref (K 0))]) dX6_meanCount_9 (by decide) rfl ?_
  refine zz_iconst 10 X.1 (v := nI 0) dX6_meanCount_10 rfl ?_
  refine zz_istore 11 X.1 (lv' := [(4, .int (nI 0)), (3, .int (nI 8)), (2, .ref (K 1)), (1, .int (nI 0)), (0, .ref (K 0))]) dX6_meanCount_11 (by decide) rfl ?_
  have C13 : ∀ (d : Nat) (kq : Nat) (hk : kq ≤ 8) (hd : 8 - kq < d), ZZ p l e rm_X6_meanCount s m args below meth c 0 0 Q (zz_A (DAd K) s.heap.size) (DP D C K F (WH hs) G T) 6 [(0, .ref (K 0)), (1, .int (nI (sumc hs kq))), (2, .ref (K 1)), (3, .int (nI 8)), (4, .int (nI kq))] [] 13 := by
    intro d
    induction d with
    | zero => intro kq hk hd; exact absurd hd (Nat.not_lt_zero _)
    | succ d ih13 =>
      intro kq hk hd
      refine zz_iload 13 X.1 4 dX6_meanCount_13 rfl ?_
      refine zz_iload_n 15 X.1 3 dX6_meanCount_15 rfl ?_
      refine zz_icmp_ge 16 39 X.1 (nI_toInt (by omega)) (nI_toInt (by omega)) dX6_meanCount_16 (by decide) (fun h16 => ?_) (fun h16 => ?_)
      · skip
        refine zz_iload_n 39 X.1 1 dX6_meanCount_39 rfl ?_
        refine zf_i2d 40 X.1 dX6_meanCount_40 ?_
        refine zf_ldc2d 41 X.1 (v := 4620693217682128896) X.2.2.1 (by exact (X.2.1 _ (by decide +kernel))) dX6_meanCount_41 ?_
        refine zf_ddiv 44 X.1 (fl_mean) dX6_meanCount_44 ?_
        rw [← hQ]
        refine zz_dret 45 X.1 hr hlk (F, hs, G, T) ?_ (fun _ h _ => h) dX6_meanCount_45
        exact ⟨by rw [show kq = 8 by omega], rfl⟩
      · skip
        refine zz_aload_n 19 X.1 2 dX6_meanCount_19 rfl ?_
        refine zz_iload 20 X.1 4 dX6_meanCount_20 rfl ?_
        refine dd_ald1 22 X (i := kq) (by omega) dX6_meanCount_22 ?_
        refine zz_astore 23 X.1 (lv' := [(5, .ref (K (20 + kq))), (0, .ref (K 0)), (1, .int (nI (sumc hs kq))), (2, .ref (K 1)), (3, .int (nI 8)), (4, .int (nI kq))]) dX6_meanCount_23 (by decide) rfl ?_
        refine zz_iload_n 25 X.1 2 dX6_meanCount_25 rfl ?_
        refine zz_aload 26 X.1 0 dX6_meanCount_26 rfl ?_
        refine dd_callVi 28 X hml (th := 20 + kq) (As := []) (kt_X0_size l D C K hAp F hs G T kq (by first | rfl | assumption | omega)) gX6_meanCount_X0_size rfl ⟨rfl, rfl⟩ (dr_M X (i := kq) (by omega)) yd_X0_size ⟨Nat.le_of_ble_eq_true rfl, Nat.le_of_ble_eq_true rfl⟩ rfl rfl (Nat.le_of_ble_eq_true rfl) ⟨Nat.zero_le _, Nat.zero_le _⟩ dX6_meanCount_28 ?_
        rintro r1 ⟨F1, hs1, G1, T1⟩ hu1
        obtain ⟨rfl, hv1⟩ := hu1
        cases hv1
        refine zz_world (P' := (DP D C K F (WH hs) G T)) (fun _ h => h) ?_
        refine zz_iadd 31 X.1 (v := (nI ((sumc hs kq) + (ct (hM hs kq) 1024)))) dX6_meanCount_31 (nI_add _ _) ?_
        refine zz_istore_n 32 X.1 (lv' := [(1, .int (nI ((sumc hs kq) + (ct (hM hs kq) 1024)))), (5, .ref (K (20 + kq))), (0, .ref (K 0)), (2, .ref (K 1)), (3, .int (nI 8)), (4, .int (nI kq))]) dX6_meanCount_32 (by decide) rfl ?_
        refine zz_iinc 33 X.1 5 (v := (nI (kq + 1))) (lv' := [(4, .int (nI (kq + 1))), (1, .int (nI ((sumc hs kq) + (ct (hM hs kq) 1024)))), (5, .ref (K (20 + kq))), (0, .ref (K 0)), (2, .ref (K 1)), (3, .int (nI 8))]) dX6_meanCount_33 rfl (nI_add kq 1) (by decide) rfl ?_
        refine zz_goto 36 13 X.1 dX6_meanCount_36 (by decide) ?_
        refine zz_lvs [3, 1, 4, 5, 0] rfl ?_
        exact ih13 (kq + 1) (by omega) (by omega)
  refine zz_lvs [4, 3, 2, 1, 0] rfl ?_
  exact C13 (8 - 0 + 1) 0 (by omega) (Nat.lt_succ_self _)

abbrev rm_X6_share : Room := { frames := 3, cells := 0, slots := 0, locals := 69 }
theorem yd_X6_share : yX6_share.cls = RX6 ∧ yX6_share.cls ≠ "java/lang/invoke/MethodHandle" ∧ yX6_share.cls ≠ "java/lang/invoke/VarHandle" ∧ (parseMethodDescriptor yX6_share.desc).map (fun d => d.parameters.length) = some 2 := by decide +kernel
set_option maxHeartbeats 4000000 in
set_option maxRecDepth 100000 in
theorem kt_X6_share_ok (l : Launch) (D : va_G) (C : Nat → ClassId) (K : Nat → Nat) (hAp : DAp K) (F : Nat → Int32) (hs : Nat → Bool) (G T : Nat → Nat → Int32) (s0 : Nat) (t : Nat) (hs0 : s0 < 8) (ht : 1 ≤ t ∧ t ≤ 1024) : CMf l yX6_share wsX6_share rm_X6_share D C K (0)  [.int (nI s0), .int (nI t)] F hs G T (fun (r : UInt32) (u : CSt) => r = (FP.fdiv (FP.i2f (nI (ct (pC (hM hs s0) 0 t) 1024))) (FP.i2f (nI t))) ∧ u = (F, hs, G, T)) := by
  refine CMf_of (lv := [(0, .ref (K 0)), (1, .int (nI s0)), (2, .int (nI t))]) (cc := cX6_share) (maxL := 4) (ret := (some .float)) rfl (by decide +kernel) (Nat.le_of_ble_eq_true rfl) rfl ?_
  intro p e s m args below meth c X hml hr hlk
  generalize hQ : MQ below _ args s 0 0 _ = Q
  refine zz_aload_n 0 X.1 0 dX6_share_0 rfl ?_
  refine zz_iload_n 1 X.1 1 dX6_share_1 rfl ?_
  refine dd_callVr 2 X hml (th := 0) (As := [.int (nI s0)]) (kt_X6_setOf l D C K hAp F hs G T s0 (by first | rfl | assumption | omega)) gX6_share_X6_setOf rfl ⟨rfl, rfl⟩ (dr_0 X) yd_X6_setOf ⟨Nat.le_of_ble_eq_true rfl, Nat.le_of_ble_eq_true rfl⟩ rfl rfl (Nat.le_of_ble_eq_true rfl) ⟨Nat.zero_le _, Nat.zero_le _⟩ dX6_share_2 ?_
  rintro ⟨F1, hs1, G1, T1⟩ hu1
  have hv1 := hu1
  cases hv1
  refine zz_world (P' := (DP D C K F (WH hs) G T)) (fun _ h => h) ?_
  refine zz_astore_n 5 X.1 (lv' := [(3, .ref (K (20 + s0))), (0, .ref (K 0)), (1, .int (nI s0)), (2, .int (nI t))]) dX6_share_5 (by decide) rfl ?_
  refine zz_iload_n 6 X.1 3 dX6_share_6 rfl ?_
  refine zz_iconst 7 X.1 (v := nI 1) dX6_share_7 rfl ?_
  refine zz_sipush 8 X.1 (v := nI 1024) dX6_share_8 rfl ?_
  refine zz_callS0v 11 ⟨X.1.1, X.1.2, hml, X.2.2.1, X.2.1⟩ (fun q h => Or.inr h) DP_keep (As := [.int (nI t), .int (nI 1), .int (nI 1024)]) (kt_X6_checkNumber l (nI t) (nI 1) (nI 1024) ((t : Nat) : Int) ((1 : Nat) : Int) ((1024 : Nat) : Int) (nI_toInt (by omega)) (nI_toInt (by omega)) (nI_toInt (by omega)) (by first | rfl | assumption | omega)) gX6_share_X6_checkNumber rfl ⟨rfl, rfl⟩ yd_X6_checkNumber.2 ⟨Nat.le_of_ble_eq_true rfl, Nat.le_of_ble_eq_true rfl⟩ rfl rfl (Nat.le_of_ble_eq_true rfl) ⟨Nat.zero_le _, Nat.zero_le _⟩ dX6_share_11 ?_
  intro hu2
  refine zz_aload_n 14 X.1 0 dX6_share_14 rfl ?_
  refine zz_iconst 15 X.1 (v := nI 0) dX6_share_15 rfl ?_
  refine zz_iload_n 16 X.1 3 dX6_share_16 rfl ?_
  refine dd_callVi 17 X hml (th := 20 + s0) (As := [.int (nI 0), .int (nI t)]) (kt_X0_sizeIn l D C K hAp F hs G T s0 0 t (by first | rfl | assumption | omega) (by first | rfl | assumption | omega)) gX6_share_X0_sizeIn rfl ⟨rfl, rfl⟩ (dr_M X (i := s0) (by omega)) yd_X0_sizeIn ⟨Nat.le_of_ble_eq_true rfl, Nat.le_of_ble_eq_true rfl⟩ rfl rfl (Nat.le_of_ble_eq_true rfl) ⟨Nat.zero_le _, Nat.zero_le _⟩ dX6_share_17 ?_
  rintro r3 ⟨F3, hs3, G3, T3⟩ hu3
  obtain ⟨rfl, hv3⟩ := hu3
  cases hv3
  refine zz_world (P' := (DP D C K F (WH hs) G T)) (fun _ h => h) ?_
  refine zf_i2f 20 X.1 dX6_share_20 ?_
  refine zz_iload_n 21 X.1 3 dX6_share_21 rfl ?_
  refine zf_i2f 22 X.1 dX6_share_22 ?_
  refine zf_fdiv 23 X.1 (fl_share (by omega) (by omega)) dX6_share_23 ?_
  rw [← hQ]
  refine zz_fret 24 X.1 hr hlk (F, hs, G, T) ?_ (fun _ h _ => h) dX6_share_24
  exact ⟨rfl, rfl⟩

abbrev rx_X6_share : Room := { frames := 7, cells := 1, slots := 6, locals := 112 }
set_option maxHeartbeats 4000000 in
set_option maxRecDepth 100000 in
theorem kt_X6_share_x1 (l : Launch) (hl : l.stackTraces = false) (D : va_G) (C : Nat → ClassId) (K : Nat → Nat) (hAp : DAp K) (F : Nat → Int32) (hs : Nat → Bool) (G T : Nat → Nat → Int32) (x0 : Int32) (x1 : Int32) (a : Int) (h_a : x0.toInt = a) (hno : ¬ (0 ≤ a ∧ a < 8)) : CX l yX6_share wsX6_share rx_X6_share D C K (0) [.int x0, .int x1] F hs G T "java/lang/IllegalArgumentException" (F, hs, G, T) := by
  refine CX_of (lv := [(0, .ref (K 0)), (1, .int x0), (2, .int x1)]) (cc := cX6_share) (maxL := 4) (ret := (some .float)) rfl (by decide +kernel) (Nat.le_of_ble_eq_true rfl) rfl ?_
  intro p e s m args below meth c X hA ht hml hr hlk
  generalize hQ : vx_MQ below _ _ args s 1 6 _ = Q
  refine zz_aload_n 0 X.1 0 dX6_share_0 rfl ?_
  refine zz_iload_n 1 X.1 1 dX6_share_1 rfl ?_
  rw [← hQ]
  exact dd_callX 2 X hA ht hml hlk (th := 0) (As := [.int x0]) (kt_X6_setOf_x l hl D C K hAp F hs G T x0 a (h_a) (by first | rfl | assumption | omega)) gX6_share_X6_setOf rfl ⟨rfl, rfl⟩ (dr_0 X) yd_X6_setOf ⟨Nat.le_of_ble_eq_true rfl, Nat.le_of_ble_eq_true rfl⟩ rfl rfl (Nat.le_of_ble_eq_true rfl) ⟨Nat.le_of_ble_eq_true rfl, Nat.le_of_ble_eq_true rfl⟩ dX6_share_2

set_option maxHeartbeats 4000000 in
set_option maxRecDepth 100000 in
theorem kt_X6_share_x2 (l : Launch) (hl : l.stackTraces = false) (D : va_G) (C : Nat → ClassId) (K : Nat → Nat) (hAp : DAp K) (F : Nat → Int32) (hs : Nat → Bool) (G T : Nat → Nat → Int32) (s0 : Nat) (x1 : Int32) (b : Int) (h_b : x1.toInt = b) (hs0 : s0 < 8) (hno : ¬ (1 ≤ b ∧ b ≤ 1024)) : CX l yX6_share wsX6_share rx_X6_share D C K (0) [.int (nI s0), .int x1] F hs G T "java/lang/IllegalArgumentException" (F, hs, G, T) := by
  refine CX_of (lv := [(0, .ref (K 0)), (1, .int (nI s0)), (2, .int x1)]) (cc := cX6_share) (maxL := 4) (ret := (some .float)) rfl (by decide +kernel) (Nat.le_of_ble_eq_true rfl) rfl ?_
  intro p e s m args below meth c X hA ht hml hr hlk
  generalize hQ : vx_MQ below _ _ args s 1 6 _ = Q
  refine zz_aload_n 0 X.1 0 dX6_share_0 rfl ?_
  refine zz_iload_n 1 X.1 1 dX6_share_1 rfl ?_
  refine dd_callVr 2 X hml (th := 0) (As := [.int (nI s0)]) (kt_X6_setOf l D C K hAp F hs G T s0 (by first | rfl | assumption | omega)) gX6_share_X6_setOf rfl ⟨rfl, rfl⟩ (dr_0 X) yd_X6_setOf ⟨Nat.le_of_ble_eq_true rfl, Nat.le_of_ble_eq_true rfl⟩ rfl rfl (Nat.le_of_ble_eq_true rfl) ⟨Nat.zero_le _, Nat.zero_le _⟩ dX6_share_2 ?_
  rintro ⟨F1, hs1, G1, T1⟩ hu1
  have hv1 := hu1
  cases hv1
  refine zz_world (P' := (DP D C K F (WH hs) G T)) (fun _ h => h) ?_
  refine zz_astore_n 5 X.1 (lv' := [(3, .ref (K (20 + s0))), (0, .ref (K 0)), (1, .int (nI s0)), (2, .int x1)]) dX6_share_5 (by decide) rfl ?_
  refine zz_iload_n 6 X.1 3 dX6_share_6 rfl ?_
  refine zz_iconst 7 X.1 (v := nI 1) dX6_share_7 rfl ?_
  refine zz_sipush 8 X.1 (v := nI 1024) dX6_share_8 rfl ?_
  rw [← hQ]
  exact dd_callXS 11 X hA ht hml hlk (As := [.int x1, .int (nI 1), .int (nI 1024)]) (kt_X6_checkNumber_x l hl x1 (nI 1) (nI 1024) b ((1 : Nat) : Int) ((1024 : Nat) : Int) (h_b) (nI_toInt (by omega)) (nI_toInt (by omega)) (by first | rfl | assumption | omega)) gX6_share_X6_checkNumber rfl ⟨rfl, rfl⟩ yd_X6_checkNumber.2 ⟨Nat.le_of_ble_eq_true rfl, Nat.le_of_ble_eq_true rfl⟩ rfl rfl (Nat.le_of_ble_eq_true rfl) ⟨Nat.le_of_ble_eq_true rfl, Nat.le_of_ble_eq_true rfl⟩ dX6_share_11 rfl
