/-! The desk's calls. -/
theorem zi_neg {x : Int32} {b : Int} (h : x.toInt = b) (h1 : -2147483648 < b) : (-x).toInt = -b := by
  have := Int32.toInt_lt x
  rw [Int32.toInt_neg, h, Int.bmod_eq_of_le (by omega) (by omega)]
theorem pT_H {hs : Nat → Bool} {s : Nat} {b : Int} (hb : b ≤ 0) : sS hs s (pT (hM hs s) (-b).toNat 1024) = sS hs s (pH (hM hs s) b) := sS_cong (fun i _ => by
  unfold pT pH
  have e : (i : Int) - b = (((-b).toNat + i : Nat) : Int) := by omega
  rw [e, Int.toNat_natCast]
  by_cases h : (-b).toNat + i < 1024
  · rw [decide_eq_true h, decide_eq_true (show 0 ≤ (((-b).toNat + i : Nat) : Int) ∧ (((-b).toNat + i : Nat) : Int) < 1024 by omega)]
    simp
  · rw [decide_eq_false h, decide_eq_false (show ¬ (0 ≤ (((-b).toNat + i : Nat) : Int) ∧ (((-b).toNat + i : Nat) : Int) < 1024) by omega)]
    simp)
theorem byte_eq {q : Nat → Bool} {k0 : Nat} (hk : k0 < 128) : wd (qz q (((8 * k0 : Nat) : Int))) 0 &&& (255 : Int64) = lN (nB q (8 * k0) 8) := by
  rw [← Int64.toBitVec_inj]
  refine BitVec.eq_of_getLsbD_eq (fun i hi => ?_)
  rw [Int64.toBitVec_and, BitVec.getLsbD_and, wd_bit, lN_bit hi, nB_bit]
  have h255 : (255 : Int64).toBitVec.getLsbD i = decide (i < 8) := by
    have : ∀ i, i < 64 → (255 : Int64).toBitVec.getLsbD i = decide (i < 8) := by decide +kernel
    exact this i hi
  rw [h255]
  unfold qz
  rw [show ((8 * k0 : Nat) : Int) + ((64 * 0 + i : Nat) : Int) = ((8 * k0 + i : Nat) : Int) by omega, Int.toNat_natCast]
  by_cases h8 : i < 8
  · simp [hi, h8]
    intro _
    omega
  · simp [h8]
theorem ct0_ln {q : Nat → Bool} : ∀ n, ct q n = 0 ↔ ln q n = 0
  | 0 => by simp [ct, ln]
  | n + 1 => by
    have ih := ct0_ln (q := q) n
    simp only [ct, ln]
    rcases zb_tf (q n) with h | h <;> simp [h, ih]
theorem ct_pA (q r : Nat → Bool) : ∀ n, ct (fun i => q i && r i) n = ct (pA q r true true) n ∧ ct (fun i => q i || r i) n + ct (pA q r false false) n = n ∧ ct (fun i => q i || r i) n = ct (fun i => q i && r i) n + ct (pA q r true false) n + ct (pA q r false true) n ∧ ct q n = ct (fun i => q i && r i) n + ct (pA q r true false) n
  | 0 => by simp [ct]
  | n + 1 => by
    have ih := ct_pA q r n
    have e1 : pA q r true true n = (q n && r n) := by cases hq : q n <;> cases hr : r n <;> simp [pA, hq, hr]
    have e2 : pA q r false false n = (!q n && !r n) := by cases hq : q n <;> cases hr : r n <;> simp [pA, hq, hr]
    have e3 : pA q r true false n = (q n && !r n) := by cases hq : q n <;> cases hr : r n <;> simp [pA, hq, hr]
    have e4 : pA q r false true n = (!q n && r n) := by cases hq : q n <;> cases hr : r n <;> simp [pA, hq, hr]
    simp only [ct]
    rw [e1, e2, e3, e4]
    generalize ct (pA q r true true) n = A1 at ih ⊢
    generalize ct (pA q r false false) n = A2 at ih ⊢
    generalize ct (pA q r true false) n = A3 at ih ⊢
    generalize ct (pA q r false true) n = A4 at ih ⊢
    generalize ct (fun i => q i && r i) n = A5 at ih ⊢
    generalize ct (fun i => q i || r i) n = A6 at ih ⊢
    generalize ct q n = A7 at ih ⊢
    rcases zb_tf (q n) with h | h <;> rcases zb_tf (r n) with h2 | h2 <;> simp [h, h2] <;> omega
abbrev rm_X6_clearTape : Room := { frames := 1, cells := 0, slots := 0, locals := 20 }
abbrev rm_X6_errorPosition : Room := { frames := 0, cells := 0, slots := 0, locals := 0 }
theorem yd_X6_errorPosition : yX6_errorPosition.cls = RX6 ∧ yX6_errorPosition.cls ≠ "java/lang/invoke/MethodHandle" ∧ yX6_errorPosition.cls ≠ "java/lang/invoke/VarHandle" ∧ (parseMethodDescriptor yX6_errorPosition.desc).map (fun d => d.parameters.length) = some 0 := by decide +kernel
set_option maxHeartbeats 4000000 in
set_option maxRecDepth 100000 in
theorem kt_X6_errorPosition_ok (l : Launch) (D : va_G) (C : Nat → ClassId) (K : Nat → Nat) (hAp : DAp K) (F : Nat → Int32) (hs : Nat → Bool) (G T : Nat → Nat → Int32)   : CMi l yX6_errorPosition wsX6_errorPosition rm_X6_errorPosition D C K (0)  [] F hs G T (fun (r : Int32) (u : CSt) => r = (F 16) ∧ u = (F, hs, G, T)) := by
  refine CMi_of (lv := [(0, .ref (K 0))]) (cc := cX6_errorPosition) (maxL := 1) (ret := (some .int)) rfl (by decide +kernel) (Nat.le_of_ble_eq_true rfl) rfl ?_
  intro p e s m args below meth c X hml hr hlk
  generalize hQ : MQ below _ args s 0 0 _ = Q
  refine zz_aload_n 0 X.1 0 dX6_errorPosition_0 rfl ?_
  refine dd_get0 1 X (by decide +kernel) 4 (by decide) (v := .int (F 16)) rfl (by decide +kernel) rfl dX6_errorPosition_1 ?_
  rw [← hQ]
  refine zz_iret 4 X.1 hr rfl hlk (F, hs, G, T) ?_ (fun _ h _ => h) dX6_errorPosition_4
  exact ⟨rfl, rfl⟩
abbrev rm_X6_stoppedAt : Room := { frames := 0, cells := 0, slots := 0, locals := 0 }
theorem yd_X6_stoppedAt : yX6_stoppedAt.cls = RX6 ∧ yX6_stoppedAt.cls ≠ "java/lang/invoke/MethodHandle" ∧ yX6_stoppedAt.cls ≠ "java/lang/invoke/VarHandle" ∧ (parseMethodDescriptor yX6_stoppedAt.desc).map (fun d => d.parameters.length) = some 0 := by decide +kernel
set_option maxHeartbeats 4000000 in
set_option maxRecDepth 100000 in
theorem kt_X6_stoppedAt_ok (l : Launch) (D : va_G) (C : Nat → ClassId) (K : Nat → Nat) (hAp : DAp K) (F : Nat → Int32) (hs : Nat → Bool) (G T : Nat → Nat → Int32)   : CMi l yX6_stoppedAt wsX6_stoppedAt rm_X6_stoppedAt D C K (0)  [] F hs G T (fun (r : Int32) (u : CSt) => r = (F 17) ∧ u = (F, hs, G, T)) := by
  refine CMi_of (lv := [(0, .ref (K 0))]) (cc := cX6_stoppedAt) (maxL := 1) (ret := (some .int)) rfl (by decide +kernel) (Nat.le_of_ble_eq_true rfl) rfl ?_
  intro p e s m args below meth c X hml hr hlk
  generalize hQ : MQ below _ args s 0 0 _ = Q
  refine zz_aload_n 0 X.1 0 dX6_stoppedAt_0 rfl ?_
  refine dd_get0 1 X (by decide +kernel) 5 (by decide) (v := .int (F 17)) rfl (by decide +kernel) rfl dX6_stoppedAt_1 ?_
  rw [← hQ]
  refine zz_iret 4 X.1 hr rfl hlk (F, hs, G, T) ?_ (fun _ h _ => h) dX6_stoppedAt_4
  exact ⟨rfl, rfl⟩
abbrev rm_X6_refusals : Room := { frames := 0, cells := 0, slots := 0, locals := 0 }
theorem yd_X6_refusals : yX6_refusals.cls = RX6 ∧ yX6_refusals.cls ≠ "java/lang/invoke/MethodHandle" ∧ yX6_refusals.cls ≠ "java/lang/invoke/VarHandle" ∧ (parseMethodDescriptor yX6_refusals.desc).map (fun d => d.parameters.length) = some 0 := by decide +kernel
set_option maxHeartbeats 4000000 in
set_option maxRecDepth 100000 in
theorem kt_X6_refusals_ok (l : Launch) (D : va_G) (C : Nat → ClassId) (K : Nat → Nat) (hAp : DAp K) (F : Nat → Int32) (hs : Nat → Bool) (G T : Nat → Nat → Int32)   : CMi l yX6_refusals wsX6_refusals rm_X6_refusals D C K (0)  [] F hs G T (fun (r : Int32) (u : CSt) => r = (F 2) ∧ u = (F, hs, G, T)) := by
  refine CMi_of (lv := [(0, .ref (K 0))]) (cc := cX6_refusals) (maxL := 1) (ret := (some .int)) rfl (by decide +kernel) (Nat.le_of_ble_eq_true rfl) rfl ?_
  intro p e s m args below meth c X hml hr hlk
  generalize hQ : MQ below _ args s 0 0 _ = Q
  refine zz_aload_n 0 X.1 0 dX6_refusals_0 rfl ?_
  refine dd_get0 1 X (by decide +kernel) 6 (by decide) (v := .int (F 2)) rfl (by decide +kernel) rfl dX6_refusals_1 ?_
  rw [← hQ]
  refine zz_iret 4 X.1 hr rfl hlk (F, hs, G, T) ?_ (fun _ h _ => h) dX6_refusals_4
  exact ⟨rfl, rfl⟩
abbrev rm_X6_append : Room := { frames := 1, cells := 0, slots := 0, locals := 23 }
theorem yd_X6_append : yX6_append.cls = RX6 ∧ yX6_append.cls ≠ "java/lang/invoke/MethodHandle" ∧ yX6_append.cls ≠ "java/lang/invoke/VarHandle" ∧ (parseMethodDescriptor yX6_append.desc).map (fun d => d.parameters.length) = some 5 := by decide +kernel
set_option maxHeartbeats 4000000 in
set_option maxRecDepth 100000 in
theorem kt_X6_append_ok (l : Launch) (D : va_G) (C : Nat → ClassId) (K : Nat → Nat) (hAp : DAp K) (F : Nat → Int32) (hs : Nat → Bool) (G T : Nat → Nat → Int32) (a0 : Int32) (a1 : Int32) (a2 : Int32) (a3 : Int32) (a4 : Int32) (tn : Nat) (hT : F 4 = nI tn) (htn : tn ≤ 400) (hok : tn + (nb a0 + nb a1 + nb a2 + nb a3 + nb a4) ≤ 400) : CMi l yX6_append wsX6_append rm_X6_append D C K (0)  [.int a0, .int a1, .int a2, .int a3, .int a4] F hs G T (fun (r : Int32) (u : CSt) => r = (nI (((((tn + nb a0) + nb a1) + nb a2) + nb a3) + nb a4)) ∧ u = (upd F 4 (nI (((((tn + nb a0) + nb a1) + nb a2) + nb a3) + nb a4)), hs, va_up G 3 ((t4 a4 ((t4 a3 ((t4 a2 ((t4 a1 ((t4 a0 (G 3, tn)).1, tn + nb a0)).1, (tn + nb a0) + nb a1)).1, ((tn + nb a0) + nb a1) + nb a2)).1, (((tn + nb a0) + nb a1) + nb a2) + nb a3)).1), T)) := by
  refine CMi_of (lv := [(0, .ref (K 0)), (1, .int a0), (2, .int a1), (3, .int a2), (4, .int a3), (5, .int a4)]) (cc := cX6_append) (maxL := 7) (ret := (some .int)) rfl (by decide +kernel) (Nat.le_of_ble_eq_true rfl) rfl ?_
  intro p e s m args below meth c X hml hr hlk
  generalize hQ : MQ below _ args s 0 0 _ = Q
  refine zz_iload_n 0 X.1 1 dX6_append_0 rfl ?_
  refine zz_callS0i 1 ⟨X.1.1, X.1.2, hml, X.2.2.1, X.2.1⟩ (fun q h => Or.inr h) DP_keep (As := [.int a0]) (kt_X3_bytesOf l a0 ) gX6_append_X3_bytesOf rfl ⟨rfl, rfl⟩ yd_X3_bytesOf.2 ⟨Nat.le_of_ble_eq_true rfl, Nat.le_of_ble_eq_true rfl⟩ rfl rfl (Nat.le_of_ble_eq_true rfl) ⟨Nat.zero_le _, Nat.zero_le _⟩ dX6_append_1 ?_
  intro r1 hu1
  obtain rfl := hu1
  refine zz_iload_n 4 X.1 2 dX6_append_4 rfl ?_
  refine zz_callS0i 5 ⟨X.1.1, X.1.2, hml, X.2.2.1, X.2.1⟩ (fun q h => Or.inr h) DP_keep (As := [.int a1]) (kt_X3_bytesOf l a1 ) gX6_append_X3_bytesOf rfl ⟨rfl, rfl⟩ yd_X3_bytesOf.2 ⟨Nat.le_of_ble_eq_true rfl, Nat.le_of_ble_eq_true rfl⟩ rfl rfl (Nat.le_of_ble_eq_true rfl) ⟨Nat.zero_le _, Nat.zero_le _⟩ dX6_append_5 ?_
  intro r2 hu2
  obtain rfl := hu2
  have hnb0 := ct_le (fun k => by8 a0 k != 0) 4
  have hnb1 := ct_le (fun k => by8 a1 k != 0) 4
  have hnb2 := ct_le (fun k => by8 a2 k != 0) 4
  have hnb3 := ct_le (fun k => by8 a3 k != 0) 4
  have hnb4 := ct_le (fun k => by8 a4 k != 0) 4
  replace hnb0 : nb a0 ≤ 4 := hnb0
  replace hnb1 : nb a1 ≤ 4 := hnb1
  replace hnb2 : nb a2 ≤ 4 := hnb2
  replace hnb3 : nb a3 ≤ 4 := hnb3
  replace hnb4 : nb a4 ≤ 4 := hnb4
  refine zz_iadd 8 X.1 (v := (nI ((nb a0) + (nb a1)))) dX6_append_8 (nI_add _ _) ?_
  refine zz_iload_n 9 X.1 3 dX6_append_9 rfl ?_
  refine zz_callS0i 10 ⟨X.1.1, X.1.2, hml, X.2.2.1, X.2.1⟩ (fun q h => Or.inr h) DP_keep (As := [.int a2]) (kt_X3_bytesOf l a2 ) gX6_append_X3_bytesOf rfl ⟨rfl, rfl⟩ yd_X3_bytesOf.2 ⟨Nat.le_of_ble_eq_true rfl, Nat.le_of_ble_eq_true rfl⟩ rfl rfl (Nat.le_of_ble_eq_true rfl) ⟨Nat.zero_le _, Nat.zero_le _⟩ dX6_append_10 ?_
  intro r3 hu3
  obtain rfl := hu3
  refine zz_iadd 13 X.1 (v := (nI (((nb a0) + (nb a1)) + (nb a2)))) dX6_append_13 (nI_add _ _) ?_
  refine zz_iload 14 X.1 4 dX6_append_14 rfl ?_
  refine zz_callS0i 16 ⟨X.1.1, X.1.2, hml, X.2.2.1, X.2.1⟩ (fun q h => Or.inr h) DP_keep (As := [.int a3]) (kt_X3_bytesOf l a3 ) gX6_append_X3_bytesOf rfl ⟨rfl, rfl⟩ yd_X3_bytesOf.2 ⟨Nat.le_of_ble_eq_true rfl, Nat.le_of_ble_eq_true rfl⟩ rfl rfl (Nat.le_of_ble_eq_true rfl) ⟨Nat.zero_le _, Nat.zero_le _⟩ dX6_append_16 ?_
  intro r4 hu4
  obtain rfl := hu4
  refine zz_iadd 19 X.1 (v := (nI ((((nb a0) + (nb a1)) + (nb a2)) + (nb a3)))) dX6_append_19 (nI_add _ _) ?_
  refine zz_iload 20 X.1 5 dX6_append_20 rfl ?_
  refine zz_callS0i 22 ⟨X.1.1, X.1.2, hml, X.2.2.1, X.2.1⟩ (fun q h => Or.inr h) DP_keep (As := [.int a4]) (kt_X3_bytesOf l a4 ) gX6_append_X3_bytesOf rfl ⟨rfl, rfl⟩ yd_X3_bytesOf.2 ⟨Nat.le_of_ble_eq_true rfl, Nat.le_of_ble_eq_true rfl⟩ rfl rfl (Nat.le_of_ble_eq_true rfl) ⟨Nat.zero_le _, Nat.zero_le _⟩ dX6_append_22 ?_
  intro r5 hu5
  obtain rfl := hu5
  refine zz_iadd 25 X.1 (v := (nI (((((nb a0) + (nb a1)) + (nb a2)) + (nb a3)) + (nb a4)))) dX6_append_25 (nI_add _ _) ?_
  refine zz_istore 26 X.1 (lv' := [(6, .int (nI (((((nb a0) + (nb a1)) + (nb a2)) + (nb a3)) + (nb a4)))), (0, .ref (K 0)), (1, .int a0), (2, .int a1), (3, .int a2), (4, .int a3), (5, .int a4)]) dX6_append_26 (by decide) rfl ?_
  refine zz_aload_n 28 X.1 1 dX6_append_28 rfl ?_
  refine dd_get0 29 X (by decide +kernel) 1 (by decide) (v := .ref (K 2)) rfl (by decide +kernel) rfl dX6_append_29 ?_
  refine dd_callVi 32 X hml (th := 2) (As := []) (kt_X3_size l D C K hAp F hs G T tn (hT)) gX6_append_X3_size rfl ⟨rfl, rfl⟩ (dr_2 X) yd_X3_size ⟨Nat.le_of_ble_eq_true rfl, Nat.le_of_ble_eq_true rfl⟩ rfl rfl (Nat.le_of_ble_eq_true rfl) ⟨Nat.zero_le _, Nat.zero_le _⟩ dX6_append_32 ?_
  rintro r6 ⟨F6, hs6, G6, T6⟩ hu6
  obtain ⟨rfl, hv6⟩ := hu6
  cases hv6
  refine zz_world (P' := (DP D C K F (WH hs) G T)) (fun _ h => h) ?_
  refine zz_iload 35 X.1 0 dX6_append_35 rfl ?_
  refine zz_iadd 37 X.1 (v := (nI (tn + (((((nb a0) + (nb a1)) + (nb a2)) + (nb a3)) + (nb a4))))) dX6_append_37 (nI_add _ _) ?_
  refine zz_sipush 38 X.1 (v := nI 400) dX6_append_38 rfl ?_
  refine zz_icmp_le 41 54 X.1 (nI_toInt (by omega)) (nI_toInt (by omega)) dX6_append_41 (by decide) (fun h41 => ?_) (fun h41 => ?_)
  · skip
    refine zz_aload_n 54 X.1 1 dX6_append_54 rfl ?_
    refine dd_get0 55 X (by decide +kernel) 1 (by decide) (v := .ref (K 2)) rfl (by decide +kernel) rfl dX6_append_55 ?_
    refine zz_iload_n 58 X.1 2 dX6_append_58 rfl ?_
    refine dd_callVv 59 X hml (th := 2) (As := [.int a0]) (kt_X3_take l D C K hAp F hs G T a0 tn (hT) (by first | rfl | assumption | omega)) gX6_append_X3_take rfl ⟨rfl, rfl⟩ (dr_2 X) yd_X3_take ⟨Nat.le_of_ble_eq_true rfl, Nat.le_of_ble_eq_true rfl⟩ rfl rfl (Nat.le_of_ble_eq_true rfl) ⟨Nat.zero_le _, Nat.zero_le _⟩ dX6_append_59 ?_
    rintro ⟨F7, hs7, G7, T7⟩ hu7
    have hv7 := hu7
    cases hv7
    refine zz_world (P' := (DP D C K (upd F 4 (nI (tn + nb a0))) (WH hs) (va_up G 3 ((t4 a0 ((G 3), tn)).1)) T)) (fun _ h => h) ?_
    refine zz_aload_n 62 X.1 1 dX6_append_62 rfl ?_
    refine dd_get0 63 X (by decide +kernel) 1 (by decide) (v := .ref (K 2)) rfl (by decide +kernel) rfl dX6_append_63 ?_
    refine zz_iload_n 66 X.1 3 dX6_append_66 rfl ?_
    refine dd_callVv 67 X hml (th := 2) (As := [.int a1]) (kt_X3_take l D C K hAp (upd F 4 (nI (tn + nb a0))) hs (va_up G 3 ((t4 a0 ((G 3), tn)).1)) T a1 (tn + nb a0) (rfl) (by first | rfl | assumption | omega)) gX6_append_X3_take rfl ⟨rfl, rfl⟩ (dr_2 X) yd_X3_take ⟨Nat.le_of_ble_eq_true rfl, Nat.le_of_ble_eq_true rfl⟩ rfl rfl (Nat.le_of_ble_eq_true rfl) ⟨Nat.zero_le _, Nat.zero_le _⟩ dX6_append_67 ?_
    rintro ⟨F8, hs8, G8, T8⟩ hu8
    have hv8 := hu8
    cases hv8
    refine zz_world (P' := (DP D C K (upd F 4 (nI ((tn + nb a0) + nb a1))) (WH hs) (va_up G 3 ((t4 a1 (((t4 a0 ((G 3), tn)).1), (tn + nb a0))).1)) T)) (fun _ h => h) ?_
    refine zz_aload_n 70 X.1 1 dX6_append_70 rfl ?_
    refine dd_get0 71 X (by decide +kernel) 1 (by decide) (v := .ref (K 2)) rfl (by decide +kernel) rfl dX6_append_71 ?_
    refine zz_iload_n 74 X.1 4 dX6_append_74 rfl ?_
    refine dd_callVv 75 X hml (th := 2) (As := [.int a2]) (kt_X3_take l D C K hAp (upd F 4 (nI ((tn + nb a0) + nb a1))) hs (va_up G 3 ((t4 a1 (((t4 a0 ((G 3), tn)).1), (tn + nb a0))).1)) T a2 ((tn + nb a0) + nb a1) (rfl) (by first | rfl | assumption | omega)) gX6_append_X3_take rfl ⟨rfl, rfl⟩ (dr_2 X) yd_X3_take ⟨Nat.le_of_ble_eq_true rfl, Nat.le_of_ble_eq_true rfl⟩ rfl rfl (Nat.le_of_ble_eq_true rfl) ⟨Nat.zero_le _, Nat.zero_le _⟩ dX6_append_75 ?_
    rintro ⟨F9, hs9, G9, T9⟩ hu9
    have hv9 := hu9
    cases hv9
    refine zz_world (P' := (DP D C K (upd F 4 (nI (((tn + nb a0) + nb a1) + nb a2))) (WH hs) (va_up G 3 ((t4 a2 (((t4 a1 (((t4 a0 ((G 3), tn)).1), (tn + nb a0))).1), ((tn + nb a0) + nb a1))).1)) T)) (fun _ h => h) ?_
    refine zz_aload_n 78 X.1 1 dX6_append_78 rfl ?_
    refine dd_get0 79 X (by decide +kernel) 1 (by decide) (v := .ref (K 2)) rfl (by decide +kernel) rfl dX6_append_79 ?_
    refine zz_iload 82 X.1 5 dX6_append_82 rfl ?_
    refine dd_callVv 84 X hml (th := 2) (As := [.int a3]) (kt_X3_take l D C K hAp (upd F 4 (nI (((tn + nb a0) + nb a1) + nb a2))) hs (va_up G 3 ((t4 a2 (((t4 a1 (((t4 a0 ((G 3), tn)).1), (tn + nb a0))).1), ((tn + nb a0) + nb a1))).1)) T a3 (((tn + nb a0) + nb a1) + nb a2) (rfl) (by first | rfl | assumption | omega)) gX6_append_X3_take rfl ⟨rfl, rfl⟩ (dr_2 X) yd_X3_take ⟨Nat.le_of_ble_eq_true rfl, Nat.le_of_ble_eq_true rfl⟩ rfl rfl (Nat.le_of_ble_eq_true rfl) ⟨Nat.zero_le _, Nat.zero_le _⟩ dX6_append_84 ?_
    rintro ⟨F10, hs10, G10, T10⟩ hu10
    have hv10 := hu10
    cases hv10
    refine zz_world (P' := (DP D C K (upd F 4 (nI ((((tn + nb a0) + nb a1) + nb a2) + nb a3))) (WH hs) (va_up G 3 ((t4 a3 (((t4 a2 (((t4 a1 (((t4 a0 ((G 3), tn)).1), (tn + nb a0))).1), ((tn + nb a0) + nb a1))).1), (((tn + nb a0) + nb a1) + nb a2))).1)) T)) (fun _ h => h) ?_
    refine zz_aload_n 87 X.1 1 dX6_append_87 rfl ?_
    refine dd_get0 88 X (by decide +kernel) 1 (by decide) (v := .ref (K 2)) rfl (by decide +kernel) rfl dX6_append_88 ?_
    refine zz_iload 91 X.1 6 dX6_append_91 rfl ?_
    refine dd_callVv 93 X hml (th := 2) (As := [.int a4]) (kt_X3_take l D C K hAp (upd F 4 (nI ((((tn + nb a0) + nb a1) + nb a2) + nb a3))) hs (va_up G 3 ((t4 a3 (((t4 a2 (((t4 a1 (((t4 a0 ((G 3), tn)).1), (tn + nb a0))).1), ((tn + nb a0) + nb a1))).1), (((tn + nb a0) + nb a1) + nb a2))).1)) T a4 ((((tn + nb a0) + nb a1) + nb a2) + nb a3) (rfl) (by first | rfl | assumption | omega)) gX6_append_X3_take rfl ⟨rfl, rfl⟩ (dr_2 X) yd_X3_take ⟨Nat.le_of_ble_eq_true rfl, Nat.le_of_ble_eq_true rfl⟩ rfl rfl (Nat.le_of_ble_eq_true rfl) ⟨Nat.zero_le _, Nat.zero_le _⟩ dX6_append_93 ?_
    rintro ⟨F11, hs11, G11, T11⟩ hu11
    have hv11 := hu11
    cases hv11
    refine zz_world (P' := (DP D C K (upd F 4 (nI (((((tn + nb a0) + nb a1) + nb a2) + nb a3) + nb a4))) (WH hs) (va_up G 3 ((t4 a4 (((t4 a3 (((t4 a2 (((t4 a1 (((t4 a0 ((G 3), tn)).1), (tn + nb a0))).1), ((tn + nb a0) + nb a1))).1), (((tn + nb a0) + nb a1) + nb a2))).1), ((((tn + nb a0) + nb a1) + nb a2) + nb a3))).1)) T)) (fun _ h => h) ?_
    refine zz_aload_n 96 X.1 1 dX6_append_96 rfl ?_
    refine dd_get0 97 X (by decide +kernel) 1 (by decide) (v := .ref (K 2)) rfl (by decide +kernel) rfl dX6_append_97 ?_
    refine dd_callVi 100 X hml (th := 2) (As := []) (kt_X3_size l D C K hAp (upd F 4 (nI (((((tn + nb a0) + nb a1) + nb a2) + nb a3) + nb a4))) hs (va_up G 3 ((t4 a4 (((t4 a3 (((t4 a2 (((t4 a1 (((t4 a0 ((G 3), tn)).1), (tn + nb a0))).1), ((tn + nb a0) + nb a1))).1), (((tn + nb a0) + nb a1) + nb a2))).1), ((((tn + nb a0) + nb a1) + nb a2) + nb a3))).1)) T (((((tn + nb a0) + nb a1) + nb a2) + nb a3) + nb a4) (rfl)) gX6_append_X3_size rfl ⟨rfl, rfl⟩ (dr_2 X) yd_X3_size ⟨Nat.le_of_ble_eq_true rfl, Nat.le_of_ble_eq_true rfl⟩ rfl rfl (Nat.le_of_ble_eq_true rfl) ⟨Nat.zero_le _, Nat.zero_le _⟩ dX6_append_100 ?_
    rintro r12 ⟨F12, hs12, G12, T12⟩ hu12
    obtain ⟨rfl, hv12⟩ := hu12
    cases hv12
    refine zz_world (P' := (DP D C K (upd F 4 (nI (((((tn + nb a0) + nb a1) + nb a2) + nb a3) + nb a4))) (WH hs) (va_up G 3 ((t4 a4 (((t4 a3 (((t4 a2 (((t4 a1 (((t4 a0 ((G 3), tn)).1), (tn + nb a0))).1), ((tn + nb a0) + nb a1))).1), (((tn + nb a0) + nb a1) + nb a2))).1), ((((tn + nb a0) + nb a1) + nb a2) + nb a3))).1)) T)) (fun _ h => h) ?_
    rw [← hQ]
    refine zz_iret 103 X.1 hr rfl hlk (upd F 4 (nI (((((tn + nb a0) + nb a1) + nb a2) + nb a3) + nb a4)), hs, va_up G 3 ((t4 a4 ((t4 a3 ((t4 a2 ((t4 a1 ((t4 a0 (G 3, tn)).1, tn + nb a0)).1, (tn + nb a0) + nb a1)).1, ((tn + nb a0) + nb a1) + nb a2)).1, (((tn + nb a0) + nb a1) + nb a2) + nb a3)).1), T) ?_ (fun _ h _ => h) dX6_append_103
    exact ⟨rfl, rfl⟩
  · exfalso; omega
abbrev rx_X6_append : Room := { frames := 6, cells := 1, slots := 6, locals := 90 }
abbrev rm_X6_add : Room := { frames := 3, cells := 0, slots := 0, locals := 67 }
theorem yd_X6_add : yX6_add.cls = RX6 ∧ yX6_add.cls ≠ "java/lang/invoke/MethodHandle" ∧ yX6_add.cls ≠ "java/lang/invoke/VarHandle" ∧ (parseMethodDescriptor yX6_add.desc).map (fun d => d.parameters.length) = some 2 := by decide +kernel
set_option maxHeartbeats 4000000 in
set_option maxRecDepth 100000 in
theorem kt_X6_add_ok (l : Launch) (D : va_G) (C : Nat → ClassId) (K : Nat → Nat) (hAp : DAp K) (F : Nat → Int32) (hs : Nat → Bool) (G T : Nat → Nat → Int32) (s0 : Nat) (i0 : Nat) (hs0 : s0 < 8) (hi0 : i0 < 1024) : CMi l yX6_add wsX6_add rm_X6_add D C K (0)  [.int (nI s0), .int (nI i0)] F hs G T (fun (r : Int32) (u : CSt) => r = (bI (!hM hs s0 i0)) ∧ u = (F, sS hs s0 (p1 (hM hs s0) i0 true), G, T)) := by
  refine CMi_of (lv := [(0, .ref (K 0)), (1, .int (nI s0)), (2, .int (nI i0))]) (cc := cX6_add) (maxL := 5) (ret := (some .boolean)) rfl (by decide +kernel) (Nat.le_of_ble_eq_true rfl) rfl ?_
  intro p e s m args below meth c X hml hr hlk
  generalize hQ : MQ below _ args s 0 0 _ = Q
  refine zz_aload_n 0 X.1 0 dX6_add_0 rfl ?_
  refine zz_iload_n 1 X.1 1 dX6_add_1 rfl ?_
  refine zz_iload_n 2 X.1 2 dX6_add_2 rfl ?_
  refine dd_callVr 3 X hml (th := 0) (As := [.int (nI s0), .int (nI i0)]) (kt_X6_setToFillAt l D C K hAp F hs G T s0 i0 (by first | rfl | assumption | omega) (by first | rfl | assumption | omega)) gX6_add_X6_setToFillAt rfl ⟨rfl, rfl⟩ (dr_0 X) yd_X6_setToFillAt ⟨Nat.le_of_ble_eq_true rfl, Nat.le_of_ble_eq_true rfl⟩ rfl rfl (Nat.le_of_ble_eq_true rfl) ⟨Nat.zero_le _, Nat.zero_le _⟩ dX6_add_3 ?_
  rintro ⟨F1, hs1, G1, T1⟩ hu1
  have hv1 := hu1
  cases hv1
  refine zz_world (P' := (DP D C K F (WH hs) G T)) (fun _ h => h) ?_
  refine zz_astore_n 6 X.1 (lv' := [(3, .ref (K (20 + s0))), (0, .ref (K 0)), (1, .int (nI s0)), (2, .int (nI i0))]) dX6_add_6 (by decide) rfl ?_
  refine zz_aload_n 7 X.1 0 dX6_add_7 rfl ?_
  refine zz_iload_n 8 X.1 3 dX6_add_8 rfl ?_
  refine dd_callVi 9 X hml (th := 20 + s0) (As := [.int (nI i0)]) (kt_X0_holds l D C K hAp F hs G T s0 (nI i0) ((i0 : Nat) : Int) (nI_toInt (by omega)) (by first | rfl | assumption | omega)) gX6_add_X0_holds rfl ⟨rfl, rfl⟩ (dr_M X (i := s0) (by omega)) yd_X0_holds ⟨Nat.le_of_ble_eq_true rfl, Nat.le_of_ble_eq_true rfl⟩ rfl rfl (Nat.le_of_ble_eq_true rfl) ⟨Nat.zero_le _, Nat.zero_le _⟩ dX6_add_9 ?_
  rintro r2 ⟨F2, hs2, G2, T2⟩ hu2
  obtain ⟨rfl, hv2⟩ := hu2
  cases hv2
  refine zz_world (P' := (DP D C K F (WH hs) G T)) (fun _ h => h) ?_
  refine zz_istore 12 X.1 (lv' := [(4, .int (bI (hz (hM hs s0) ((i0 : Nat) : Int)))), (3, .ref (K (20 + s0))), (0, .ref (K 0)), (1, .int (nI s0)), (2, .int (nI i0))]) dX6_add_12 (by decide) rfl ?_
  refine zz_aload_n 14 X.1 1 dX6_add_14 rfl ?_
  refine zz_iload_n 15 X.1 4 dX6_add_15 rfl ?_
  refine dd_callVv 16 X hml (th := 20 + s0) (As := [.int (nI i0)]) (kt_X0_includeOne l D C K hAp F hs G T s0 i0 (by first | rfl | assumption | omega) (by first | rfl | assumption | omega)) gX6_add_X0_includeOne rfl ⟨rfl, rfl⟩ (dr_M X (i := s0) (by omega)) yd_X0_includeOne ⟨Nat.le_of_ble_eq_true rfl, Nat.le_of_ble_eq_true rfl⟩ rfl rfl (Nat.le_of_ble_eq_true rfl) ⟨Nat.zero_le _, Nat.zero_le _⟩ dX6_add_16 ?_
  rintro ⟨F3, hs3, G3, T3⟩ hu3
  have hv3 := hu3
  cases hv3
  refine zz_world (P' := (DP D C K F (WH (sS hs s0 (p1 (hM hs s0) i0 true))) G T)) (fun _ h => h) ?_
  refine zz_iload 19 X.1 0 dX6_add_19 rfl ?_
  refine zz_ifB_ne 21 28 X.1 dX6_add_21 (by decide) (fun h21 => ?_) (fun h21 => ?_)
  · skip
    refine zz_iconst 28 X.1 (v := nI 0) dX6_add_28 rfl ?_
    refine zz_topi (bI false) rfl ?_
    rw [← hQ]
    refine zz_iret 29 X.1 hr (bI_nar _) hlk (F, sS hs s0 (p1 (hM hs s0) i0 true), G, T) ?_ (fun _ h _ => h) dX6_add_29
    refine ⟨congrArg bI ?_, rfl⟩
    rw [(hz_lt (by omega)).symm.trans h21]
    rfl
  · skip
    refine zz_iconst 24 X.1 (v := nI 1) dX6_add_24 rfl ?_
    refine zz_goto 25 29 X.1 dX6_add_25 (by decide) ?_
    refine zz_topi (bI true) rfl ?_
    rw [← hQ]
    refine zz_iret 29 X.1 hr (bI_nar _) hlk (F, sS hs s0 (p1 (hM hs s0) i0 true), G, T) ?_ (fun _ h _ => h) dX6_add_29
    refine ⟨congrArg bI ?_, rfl⟩
    rw [(hz_lt (by omega)).symm.trans h21]
    rfl
abbrev rx_X6_add : Room := { frames := 9, cells := 1, slots := 6, locals := 157 }
set_option maxHeartbeats 4000000 in
set_option maxRecDepth 100000 in
theorem kt_X6_add_x2 (l : Launch) (hl : l.stackTraces = false) (D : va_G) (C : Nat → ClassId) (K : Nat → Nat) (hAp : DAp K) (F : Nat → Int32) (hs : Nat → Bool) (G T : Nat → Nat → Int32) (s0 : Nat) (x1 : Int32) (b : Int) (h_b : x1.toInt = b) (hs0 : s0 < 8) (hlt : b < 0) : CX l yX6_add wsX6_add rx_X6_add D C K (0) [.int (nI s0), .int x1] F hs G T "java/lang/IndexOutOfBoundsException" (upd F 2 (F 2 + 1), hs, G, T) := by
  refine CX_of (lv := [(0, .ref (K 0)), (1, .int (nI s0)), (2, .int x1)]) (cc := cX6_add) (maxL := 5) (ret := (some .boolean)) rfl (by decide +kernel) (Nat.le_of_ble_eq_true rfl) rfl ?_
  intro p e s m args below meth c X hA ht hml hr hlk
  generalize hQ : vx_MQ below _ _ args s 1 6 _ = Q
  refine zz_aload_n 0 X.1 0 dX6_add_0 rfl ?_
  refine zz_iload_n 1 X.1 1 dX6_add_1 rfl ?_
  refine zz_iload_n 2 X.1 2 dX6_add_2 rfl ?_
  rw [← hQ]
  exact dd_callX 3 X hA ht hml hlk (th := 0) (As := [.int (nI s0), .int x1]) (kt_X6_setToFillAt_x2 l hl D C K hAp F hs G T s0 x1 b (h_b) (by first | rfl | assumption | omega) (by first | rfl | assumption | omega)) gX6_add_X6_setToFillAt rfl ⟨rfl, rfl⟩ (dr_0 X) yd_X6_setToFillAt ⟨Nat.le_of_ble_eq_true rfl, Nat.le_of_ble_eq_true rfl⟩ rfl rfl (Nat.le_of_ble_eq_true rfl) ⟨Nat.le_of_ble_eq_true rfl, Nat.le_of_ble_eq_true rfl⟩ dX6_add_3
abbrev rm_X6_remove : Room := { frames := 2, cells := 0, slots := 0, locals := 45 }
abbrev rx_X6_remove : Room := { frames := 8, cells := 1, slots := 6, locals := 135 }
abbrev rm_X6_put : Room := { frames := 3, cells := 0, slots := 0, locals := 67 }
abbrev rx_X6_put : Room := { frames := 9, cells := 1, slots := 6, locals := 157 }
abbrev rm_X6_flip : Room := { frames := 3, cells := 0, slots := 0, locals := 67 }
theorem yd_X6_flip : yX6_flip.cls = RX6 ∧ yX6_flip.cls ≠ "java/lang/invoke/MethodHandle" ∧ yX6_flip.cls ≠ "java/lang/invoke/VarHandle" ∧ (parseMethodDescriptor yX6_flip.desc).map (fun d => d.parameters.length) = some 2 := by decide +kernel
set_option maxHeartbeats 4000000 in
set_option maxRecDepth 100000 in
theorem kt_X6_flip_ok (l : Launch) (D : va_G) (C : Nat → ClassId) (K : Nat → Nat) (hAp : DAp K) (F : Nat → Int32) (hs : Nat → Bool) (G T : Nat → Nat → Int32) (s0 : Nat) (i0 : Nat) (hs0 : s0 < 8) (hi0 : i0 < 1024) : CMi l yX6_flip wsX6_flip rm_X6_flip D C K (0)  [.int (nI s0), .int (nI i0)] F hs G T (fun (r : Int32) (u : CSt) => r = (bI (!hM hs s0 i0)) ∧ u = (F, sS hs s0 (p1 (hM hs s0) i0 (!hM hs s0 i0)), G, T)) := by
  refine CMi_of (lv := [(0, .ref (K 0)), (1, .int (nI s0)), (2, .int (nI i0))]) (cc := cX6_flip) (maxL := 5) (ret := (some .boolean)) rfl (by decide +kernel) (Nat.le_of_ble_eq_true rfl) rfl ?_
  intro p e s m args below meth c X hml hr hlk
  generalize hQ : MQ below _ args s 0 0 _ = Q
  refine zz_aload_n 0 X.1 0 dX6_flip_0 rfl ?_
  refine zz_iload_n 1 X.1 1 dX6_flip_1 rfl ?_
  refine zz_iload_n 2 X.1 2 dX6_flip_2 rfl ?_
  refine dd_callVr 3 X hml (th := 0) (As := [.int (nI s0), .int (nI i0)]) (kt_X6_setToFillAt l D C K hAp F hs G T s0 i0 (by first | rfl | assumption | omega) (by first | rfl | assumption | omega)) gX6_flip_X6_setToFillAt rfl ⟨rfl, rfl⟩ (dr_0 X) yd_X6_setToFillAt ⟨Nat.le_of_ble_eq_true rfl, Nat.le_of_ble_eq_true rfl⟩ rfl rfl (Nat.le_of_ble_eq_true rfl) ⟨Nat.zero_le _, Nat.zero_le _⟩ dX6_flip_3 ?_
  rintro ⟨F1, hs1, G1, T1⟩ hu1
  have hv1 := hu1
  cases hv1
  refine zz_world (P' := (DP D C K F (WH hs) G T)) (fun _ h => h) ?_
  refine zz_astore_n 6 X.1 (lv' := [(3, .ref (K (20 + s0))), (0, .ref (K 0)), (1, .int (nI s0)), (2, .int (nI i0))]) dX6_flip_6 (by decide) rfl ?_
  refine zz_aload_n 7 X.1 0 dX6_flip_7 rfl ?_
  refine zz_iload_n 8 X.1 3 dX6_flip_8 rfl ?_
  refine dd_callVi 9 X hml (th := 20 + s0) (As := [.int (nI i0)]) (kt_X0_holds l D C K hAp F hs G T s0 (nI i0) ((i0 : Nat) : Int) (nI_toInt (by omega)) (by first | rfl | assumption | omega)) gX6_flip_X0_holds rfl ⟨rfl, rfl⟩ (dr_M X (i := s0) (by omega)) yd_X0_holds ⟨Nat.le_of_ble_eq_true rfl, Nat.le_of_ble_eq_true rfl⟩ rfl rfl (Nat.le_of_ble_eq_true rfl) ⟨Nat.zero_le _, Nat.zero_le _⟩ dX6_flip_9 ?_
  rintro r2 ⟨F2, hs2, G2, T2⟩ hu2
  obtain ⟨rfl, hv2⟩ := hu2
  cases hv2
  refine zz_world (P' := (DP D C K F (WH hs) G T)) (fun _ h => h) ?_
  refine zz_ifB_ne 12 19 X.1 dX6_flip_12 (by decide) (fun h12 => ?_) (fun h12 => ?_)
  · skip
    refine zz_iconst 19 X.1 (v := nI 0) dX6_flip_19 rfl ?_
    refine zz_istore 20 X.1 (lv' := [(4, .int (nI 0)), (3, .ref (K (20 + s0))), (0, .ref (K 0)), (1, .int (nI s0)), (2, .int (nI i0))]) dX6_flip_20 (by decide) rfl ?_
    refine zz_aload_n 22 X.1 1 dX6_flip_22 rfl ?_
    refine zz_iload_n 23 X.1 4 dX6_flip_23 rfl ?_
    refine zz_iload 24 X.1 0 dX6_flip_24 rfl ?_
    refine dd_callVv 26 X hml (th := 20 + s0) (As := [.int (nI i0), .int (bI false)]) (kt_X0_decideOne l D C K hAp F hs G T s0 i0 false (by first | rfl | assumption | omega) (by first | rfl | assumption | omega)) gX6_flip_X0_decideOne rfl ⟨rfl, rfl⟩ (dr_M X (i := s0) (by omega)) yd_X0_decideOne ⟨Nat.le_of_ble_eq_true rfl, Nat.le_of_ble_eq_true rfl⟩ rfl rfl (Nat.le_of_ble_eq_true rfl) ⟨Nat.zero_le _, Nat.zero_le _⟩ dX6_flip_26 ?_
    rintro ⟨F3, hs3, G3, T3⟩ hu3
    have hv3 := hu3
    cases hv3
    refine zz_world (P' := (DP D C K F (WH (sS hs s0 (p1 (hM hs s0) i0 false))) G T)) (fun _ h => h) ?_
    refine zz_world (P' := (DP D C K F (WH (sS hs s0 (p1 (hM hs s0) i0 (!hM hs s0 i0)))) G T)) (dp_hs (by rw [(hz_lt (by omega)).symm.trans h12]; rfl)) ?_
    refine zz_iload 29 X.1 0 dX6_flip_29 rfl ?_
    refine zz_topi (bI false) rfl ?_
    rw [← hQ]
    refine zz_iret 31 X.1 hr (bI_nar _) hlk (F, sS hs s0 (p1 (hM hs s0) i0 (!hM hs s0 i0)), G, T) ?_ (fun _ h _ => h) dX6_flip_31
    refine ⟨congrArg bI ?_, rfl⟩
    rw [(hz_lt (by omega)).symm.trans h12]
    rfl
  · skip
    refine zz_iconst 15 X.1 (v := nI 1) dX6_flip_15 rfl ?_
    refine zz_goto 16 20 X.1 dX6_flip_16 (by decide) ?_
    refine zz_istore 20 X.1 (lv' := [(4, .int (nI 1)), (3, .ref (K (20 + s0))), (0, .ref (K 0)), (1, .int (nI s0)), (2, .int (nI i0))]) dX6_flip_20 (by decide) rfl ?_
    refine zz_aload_n 22 X.1 1 dX6_flip_22 rfl ?_
    refine zz_iload_n 23 X.1 4 dX6_flip_23 rfl ?_
    refine zz_iload 24 X.1 0 dX6_flip_24 rfl ?_
    refine dd_callVv 26 X hml (th := 20 + s0) (As := [.int (nI i0), .int (bI true)]) (kt_X0_decideOne l D C K hAp F hs G T s0 i0 true (by first | rfl | assumption | omega) (by first | rfl | assumption | omega)) gX6_flip_X0_decideOne rfl ⟨rfl, rfl⟩ (dr_M X (i := s0) (by omega)) yd_X0_decideOne ⟨Nat.le_of_ble_eq_true rfl, Nat.le_of_ble_eq_true rfl⟩ rfl rfl (Nat.le_of_ble_eq_true rfl) ⟨Nat.zero_le _, Nat.zero_le _⟩ dX6_flip_26 ?_
    rintro ⟨F4, hs4, G4, T4⟩ hu4
    have hv4 := hu4
    cases hv4
    refine zz_world (P' := (DP D C K F (WH (sS hs s0 (p1 (hM hs s0) i0 true))) G T)) (fun _ h => h) ?_
    refine zz_world (P' := (DP D C K F (WH (sS hs s0 (p1 (hM hs s0) i0 (!hM hs s0 i0)))) G T)) (dp_hs (by rw [(hz_lt (by omega)).symm.trans h12]; rfl)) ?_
    refine zz_iload 29 X.1 0 dX6_flip_29 rfl ?_
    refine zz_topi (bI true) rfl ?_
    rw [← hQ]
    refine zz_iret 31 X.1 hr (bI_nar _) hlk (F, sS hs s0 (p1 (hM hs s0) i0 (!hM hs s0 i0)), G, T) ?_ (fun _ h _ => h) dX6_flip_31
    refine ⟨congrArg bI ?_, rfl⟩
    rw [(hz_lt (by omega)).symm.trans h12]
    rfl
abbrev rx_X6_flip : Room := { frames := 9, cells := 1, slots := 6, locals := 157 }
abbrev rm_X6_addRange : Room := { frames := 4, cells := 0, slots := 0, locals := 89 }
theorem yd_X6_addRange : yX6_addRange.cls = RX6 ∧ yX6_addRange.cls ≠ "java/lang/invoke/MethodHandle" ∧ yX6_addRange.cls ≠ "java/lang/invoke/VarHandle" ∧ (parseMethodDescriptor yX6_addRange.desc).map (fun d => d.parameters.length) = some 3 := by decide +kernel
set_option maxHeartbeats 4000000 in
set_option maxRecDepth 100000 in
theorem kt_X6_addRange_ok (l : Launch) (D : va_G) (C : Nat → ClassId) (K : Nat → Nat) (hAp : DAp K) (F : Nat → Int32) (hs : Nat → Bool) (G T : Nat → Nat → Int32) (s0 : Nat) (f : Nat) (t : Nat) (hs0 : s0 < 8) (hft : f ≤ t ∧ t ≤ 1024) : CMi l yX6_addRange wsX6_addRange rm_X6_addRange D C K (0)  [.int (nI s0), .int (nI f), .int (nI t)] F hs G T (fun (r : Int32) (u : CSt) => r = (nI (ct (pR (hM hs s0) f t true) 1024)) ∧ u = (F, sS hs s0 (pR (hM hs s0) f t true), G, T)) := by
  refine CMi_of (lv := [(0, .ref (K 0)), (1, .int (nI s0)), (2, .int (nI f)), (3, .int (nI t))]) (cc := cX6_addRange) (maxL := 5) (ret := (some .int)) rfl (by decide +kernel) (Nat.le_of_ble_eq_true rfl) rfl ?_
  intro p e s m args below meth c X hml hr hlk
  generalize hQ : MQ below _ args s 0 0 _ = Q
  refine zz_aload_n 0 X.1 0 dX6_addRange_0 rfl ?_
  refine zz_iload_n 1 X.1 1 dX6_addRange_1 rfl ?_
  refine zz_iload_n 2 X.1 2 dX6_addRange_2 rfl ?_
  refine zz_iload_n 3 X.1 3 dX6_addRange_3 rfl ?_
  refine dd_callVr 4 X hml (th := 0) (As := [.int (nI s0), .int (nI f), .int (nI t)]) (kt_X6_setToFillIn l D C K hAp F hs G T s0 f t (by first | rfl | assumption | omega) (by first | rfl | assumption | omega)) gX6_addRange_X6_setToFillIn rfl ⟨rfl, rfl⟩ (dr_0 X) yd_X6_setToFillIn ⟨Nat.le_of_ble_eq_true rfl, Nat.le_of_ble_eq_true rfl⟩ rfl rfl (Nat.le_of_ble_eq_true rfl) ⟨Nat.zero_le _, Nat.zero_le _⟩ dX6_addRange_4 ?_
  rintro ⟨F1, hs1, G1, T1⟩ hu1
  have hv1 := hu1
  cases hv1
  refine zz_world (P' := (DP D C K F (WH hs) G T)) (fun _ h => h) ?_
  refine zz_astore 7 X.1 (lv' := [(4, .ref (K (20 + s0))), (0, .ref (K 0)), (1, .int (nI s0)), (2, .int (nI f)), (3, .int (nI t))]) dX6_addRange_7 (by decide) rfl ?_
  refine zz_aload 9 X.1 0 dX6_addRange_9 rfl ?_
  refine zz_iload_n 11 X.1 3 dX6_addRange_11 rfl ?_
  refine zz_iload_n 12 X.1 4 dX6_addRange_12 rfl ?_
  refine dd_callVv 13 X hml (th := 20 + s0) (As := [.int (nI f), .int (nI t)]) (kt_X0_include l D C K hAp F hs G T s0 f t (by first | rfl | assumption | omega) (by first | rfl | assumption | omega)) gX6_addRange_X0_include rfl ⟨rfl, rfl⟩ (dr_M X (i := s0) (by omega)) yd_X0_include ⟨Nat.le_of_ble_eq_true rfl, Nat.le_of_ble_eq_true rfl⟩ rfl rfl (Nat.le_of_ble_eq_true rfl) ⟨Nat.zero_le _, Nat.zero_le _⟩ dX6_addRange_13 ?_
  rintro ⟨F2, hs2, G2, T2⟩ hu2
  have hv2 := hu2
  cases hv2
  refine zz_world (P' := (DP D C K F (WH (sS hs s0 (pR (hM hs s0) f t true))) G T)) (fun _ h => h) ?_
  refine zz_aload 16 X.1 0 dX6_addRange_16 rfl ?_
  refine dd_callVi 18 X hml (th := 20 + s0) (As := []) (kt_X0_size l D C K hAp F (sS hs s0 (pR (hM hs s0) f t true)) G T s0 (by first | rfl | assumption | omega)) gX6_addRange_X0_size rfl ⟨rfl, rfl⟩ (dr_M X (i := s0) (by omega)) yd_X0_size ⟨Nat.le_of_ble_eq_true rfl, Nat.le_of_ble_eq_true rfl⟩ rfl rfl (Nat.le_of_ble_eq_true rfl) ⟨Nat.zero_le _, Nat.zero_le _⟩ dX6_addRange_18 ?_
  rintro r3 ⟨F3, hs3, G3, T3⟩ hu3
  obtain ⟨rfl, hv3⟩ := hu3
  cases hv3
  refine zz_world (P' := (DP D C K F (WH (sS hs s0 (pR (hM hs s0) f t true))) G T)) (fun _ h => h) ?_
  rw [← hQ]
  refine zz_iret 21 X.1 hr rfl hlk (F, sS hs s0 (pR (hM hs s0) f t true), G, T) ?_ (fun _ h _ => h) dX6_addRange_21
  exact ⟨by rw [ct_sS], rfl⟩
abbrev rx_X6_addRange : Room := { frames := 9, cells := 1, slots := 6, locals := 158 }
abbrev rm_X6_putRange : Room := { frames := 4, cells := 0, slots := 0, locals := 91 }
theorem yd_X6_putRange : yX6_putRange.cls = RX6 ∧ yX6_putRange.cls ≠ "java/lang/invoke/MethodHandle" ∧ yX6_putRange.cls ≠ "java/lang/invoke/VarHandle" ∧ (parseMethodDescriptor yX6_putRange.desc).map (fun d => d.parameters.length) = some 4 := by decide +kernel
set_option maxHeartbeats 4000000 in
set_option maxRecDepth 100000 in
theorem kt_X6_putRange_ok (l : Launch) (D : va_G) (C : Nat → ClassId) (K : Nat → Nat) (hAp : DAp K) (F : Nat → Int32) (hs : Nat → Bool) (G T : Nat → Nat → Int32) (s0 : Nat) (f : Nat) (t : Nat) (bb : Bool) (hs0 : s0 < 8) (hft : f ≤ t ∧ t ≤ 1024) : CMi l yX6_putRange wsX6_putRange rm_X6_putRange D C K (0)  [.int (nI s0), .int (nI f), .int (nI t), .int (bI bb)] F hs G T (fun (r : Int32) (u : CSt) => r = (nI (ct (pR (hM hs s0) f t bb) 1024)) ∧ u = (F, sS hs s0 (pR (hM hs s0) f t bb), G, T)) := by
  refine CMi_of (lv := [(0, .ref (K 0)), (1, .int (nI s0)), (2, .int (nI f)), (3, .int (nI t)), (4, .int (bI bb))]) (cc := cX6_putRange) (maxL := 6) (ret := (some .int)) rfl (by decide +kernel) (Nat.le_of_ble_eq_true rfl) rfl ?_
  intro p e s m args below meth c X hml hr hlk
  generalize hQ : MQ below _ args s 0 0 _ = Q
  refine zz_aload_n 0 X.1 0 dX6_putRange_0 rfl ?_
  refine zz_iload_n 1 X.1 1 dX6_putRange_1 rfl ?_
  refine zz_iload_n 2 X.1 2 dX6_putRange_2 rfl ?_
  refine zz_iload_n 3 X.1 3 dX6_putRange_3 rfl ?_
  refine dd_callVr 4 X hml (th := 0) (As := [.int (nI s0), .int (nI f), .int (nI t)]) (kt_X6_setToFillIn l D C K hAp F hs G T s0 f t (by first | rfl | assumption | omega) (by first | rfl | assumption | omega)) gX6_putRange_X6_setToFillIn rfl ⟨rfl, rfl⟩ (dr_0 X) yd_X6_setToFillIn ⟨Nat.le_of_ble_eq_true rfl, Nat.le_of_ble_eq_true rfl⟩ rfl rfl (Nat.le_of_ble_eq_true rfl) ⟨Nat.zero_le _, Nat.zero_le _⟩ dX6_putRange_4 ?_
  rintro ⟨F1, hs1, G1, T1⟩ hu1
  have hv1 := hu1
  cases hv1
  refine zz_world (P' := (DP D C K F (WH hs) G T)) (fun _ h => h) ?_
  refine zz_astore 7 X.1 (lv' := [(5, .ref (K (20 + s0))), (0, .ref (K 0)), (1, .int (nI s0)), (2, .int (nI f)), (3, .int (nI t)), (4, .int (bI bb))]) dX6_putRange_7 (by decide) rfl ?_
  refine zz_aload 9 X.1 0 dX6_putRange_9 rfl ?_
  refine zz_iload_n 11 X.1 3 dX6_putRange_11 rfl ?_
  refine zz_iload_n 12 X.1 4 dX6_putRange_12 rfl ?_
  refine zz_iload 13 X.1 5 dX6_putRange_13 rfl ?_
  refine dd_callVv 15 X hml (th := 20 + s0) (As := [.int (nI f), .int (nI t), .int (bI bb)]) (kt_X0_decide l D C K hAp F hs G T s0 f t bb (by first | rfl | assumption | omega) (by first | rfl | assumption | omega)) gX6_putRange_X0_decide rfl ⟨rfl, rfl⟩ (dr_M X (i := s0) (by omega)) yd_X0_decide ⟨Nat.le_of_ble_eq_true rfl, Nat.le_of_ble_eq_true rfl⟩ rfl rfl (Nat.le_of_ble_eq_true rfl) ⟨Nat.zero_le _, Nat.zero_le _⟩ dX6_putRange_15 ?_
  rintro ⟨F2, hs2, G2, T2⟩ hu2
  have hv2 := hu2
  cases hv2
  refine zz_world (P' := (DP D C K F (WH (sS hs s0 (pR (hM hs s0) f t bb))) G T)) (fun _ h => h) ?_
  refine zz_aload 18 X.1 0 dX6_putRange_18 rfl ?_
  refine dd_callVi 20 X hml (th := 20 + s0) (As := []) (kt_X0_size l D C K hAp F (sS hs s0 (pR (hM hs s0) f t bb)) G T s0 (by first | rfl | assumption | omega)) gX6_putRange_X0_size rfl ⟨rfl, rfl⟩ (dr_M X (i := s0) (by omega)) yd_X0_size ⟨Nat.le_of_ble_eq_true rfl, Nat.le_of_ble_eq_true rfl⟩ rfl rfl (Nat.le_of_ble_eq_true rfl) ⟨Nat.zero_le _, Nat.zero_le _⟩ dX6_putRange_20 ?_
  rintro r3 ⟨F3, hs3, G3, T3⟩ hu3
  obtain ⟨rfl, hv3⟩ := hu3
  cases hv3
  refine zz_world (P' := (DP D C K F (WH (sS hs s0 (pR (hM hs s0) f t bb))) G T)) (fun _ h => h) ?_
  rw [← hQ]
  refine zz_iret 23 X.1 hr rfl hlk (F, sS hs s0 (pR (hM hs s0) f t bb), G, T) ?_ (fun _ h _ => h) dX6_putRange_23
  exact ⟨by rw [ct_sS], rfl⟩
abbrev rx_X6_putRange : Room := { frames := 9, cells := 1, slots := 6, locals := 158 }
abbrev rm_X6_flipRange : Room := { frames := 4, cells := 0, slots := 0, locals := 89 }
theorem yd_X6_flipRange : yX6_flipRange.cls = RX6 ∧ yX6_flipRange.cls ≠ "java/lang/invoke/MethodHandle" ∧ yX6_flipRange.cls ≠ "java/lang/invoke/VarHandle" ∧ (parseMethodDescriptor yX6_flipRange.desc).map (fun d => d.parameters.length) = some 3 := by decide +kernel
set_option maxHeartbeats 4000000 in
set_option maxRecDepth 100000 in
theorem kt_X6_flipRange_ok (l : Launch) (D : va_G) (C : Nat → ClassId) (K : Nat → Nat) (hAp : DAp K) (F : Nat → Int32) (hs : Nat → Bool) (G T : Nat → Nat → Int32) (s0 : Nat) (f : Nat) (t : Nat) (hs0 : s0 < 8) (hft : f ≤ t ∧ t ≤ 1024) : CMi l yX6_flipRange wsX6_flipRange rm_X6_flipRange D C K (0)  [.int (nI s0), .int (nI f), .int (nI t)] F hs G T (fun (r : Int32) (u : CSt) => r = (nI (ct (pX (hM hs s0) f t) 1024)) ∧ u = (F, sS hs s0 (pX (hM hs s0) f t), G, T)) := by
  refine CMi_of (lv := [(0, .ref (K 0)), (1, .int (nI s0)), (2, .int (nI f)), (3, .int (nI t))]) (cc := cX6_flipRange) (maxL := 5) (ret := (some .int)) rfl (by decide +kernel) (Nat.le_of_ble_eq_true rfl) rfl ?_
  intro p e s m args below meth c X hml hr hlk
  generalize hQ : MQ below _ args s 0 0 _ = Q
  refine zz_aload_n 0 X.1 0 dX6_flipRange_0 rfl ?_
  refine zz_iload_n 1 X.1 1 dX6_flipRange_1 rfl ?_
  refine zz_iload_n 2 X.1 2 dX6_flipRange_2 rfl ?_
  refine zz_iload_n 3 X.1 3 dX6_flipRange_3 rfl ?_
  refine dd_callVr 4 X hml (th := 0) (As := [.int (nI s0), .int (nI f), .int (nI t)]) (kt_X6_setToFillIn l D C K hAp F hs G T s0 f t (by first | rfl | assumption | omega) (by first | rfl | assumption | omega)) gX6_flipRange_X6_setToFillIn rfl ⟨rfl, rfl⟩ (dr_0 X) yd_X6_setToFillIn ⟨Nat.le_of_ble_eq_true rfl, Nat.le_of_ble_eq_true rfl⟩ rfl rfl (Nat.le_of_ble_eq_true rfl) ⟨Nat.zero_le _, Nat.zero_le _⟩ dX6_flipRange_4 ?_
  rintro ⟨F1, hs1, G1, T1⟩ hu1
  have hv1 := hu1
  cases hv1
  refine zz_world (P' := (DP D C K F (WH hs) G T)) (fun _ h => h) ?_
  refine zz_astore 7 X.1 (lv' := [(4, .ref (K (20 + s0))), (0, .ref (K 0)), (1, .int (nI s0)), (2, .int (nI f)), (3, .int (nI t))]) dX6_flipRange_7 (by decide) rfl ?_
  refine zz_aload 9 X.1 0 dX6_flipRange_9 rfl ?_
  refine zz_iload_n 11 X.1 3 dX6_flipRange_11 rfl ?_
  refine zz_iload_n 12 X.1 4 dX6_flipRange_12 rfl ?_
  refine dd_callVv 13 X hml (th := 20 + s0) (As := [.int (nI f), .int (nI t)]) (kt_X0_toggle l D C K hAp F hs G T s0 f t (by first | rfl | assumption | omega) (by first | rfl | assumption | omega)) gX6_flipRange_X0_toggle rfl ⟨rfl, rfl⟩ (dr_M X (i := s0) (by omega)) yd_X0_toggle ⟨Nat.le_of_ble_eq_true rfl, Nat.le_of_ble_eq_true rfl⟩ rfl rfl (Nat.le_of_ble_eq_true rfl) ⟨Nat.zero_le _, Nat.zero_le _⟩ dX6_flipRange_13 ?_
  rintro ⟨F2, hs2, G2, T2⟩ hu2
  have hv2 := hu2
  cases hv2
  refine zz_world (P' := (DP D C K F (WH (sS hs s0 (pX (hM hs s0) f t))) G T)) (fun _ h => h) ?_
  refine zz_aload 16 X.1 0 dX6_flipRange_16 rfl ?_
  refine dd_callVi 18 X hml (th := 20 + s0) (As := []) (kt_X0_size l D C K hAp F (sS hs s0 (pX (hM hs s0) f t)) G T s0 (by first | rfl | assumption | omega)) gX6_flipRange_X0_size rfl ⟨rfl, rfl⟩ (dr_M X (i := s0) (by omega)) yd_X0_size ⟨Nat.le_of_ble_eq_true rfl, Nat.le_of_ble_eq_true rfl⟩ rfl rfl (Nat.le_of_ble_eq_true rfl) ⟨Nat.zero_le _, Nat.zero_le _⟩ dX6_flipRange_18 ?_
  rintro r3 ⟨F3, hs3, G3, T3⟩ hu3
  obtain ⟨rfl, hv3⟩ := hu3
  cases hv3
  refine zz_world (P' := (DP D C K F (WH (sS hs s0 (pX (hM hs s0) f t))) G T)) (fun _ h => h) ?_
  rw [← hQ]
  refine zz_iret 21 X.1 hr rfl hlk (F, sS hs s0 (pX (hM hs s0) f t), G, T) ?_ (fun _ h _ => h) dX6_flipRange_21
  exact ⟨by rw [ct_sS], rfl⟩
abbrev rx_X6_flipRange : Room := { frames := 9, cells := 1, slots := 6, locals := 158 }
set_option maxHeartbeats 4000000 in
set_option maxRecDepth 100000 in
theorem kt_X6_flipRange_x2 (l : Launch) (hl : l.stackTraces = false) (D : va_G) (C : Nat → ClassId) (K : Nat → Nat) (hAp : DAp K) (F : Nat → Int32) (hs : Nat → Bool) (G T : Nat → Nat → Int32) (s0 : Nat) (x1 : Int32) (x2 : Int32) (b : Int) (d : Int) (h_b : x1.toInt = b) (h_d : x2.toInt = d) (hs0 : s0 < 8) (hno : ¬ (0 ≤ b ∧ b ≤ d)) (hd4 : d ≤ 1024) : CX l yX6_flipRange wsX6_flipRange rx_X6_flipRange D C K (0) [.int (nI s0), .int x1, .int x2] F hs G T "java/lang/IndexOutOfBoundsException" (upd F 2 (F 2 + 1), hs, G, T) := by
  refine CX_of (lv := [(0, .ref (K 0)), (1, .int (nI s0)), (2, .int x1), (3, .int x2)]) (cc := cX6_flipRange) (maxL := 5) (ret := (some .int)) rfl (by decide +kernel) (Nat.le_of_ble_eq_true rfl) rfl ?_
  intro p e s m args below meth c X hA ht hml hr hlk
  generalize hQ : vx_MQ below _ _ args s 1 6 _ = Q
  refine zz_aload_n 0 X.1 0 dX6_flipRange_0 rfl ?_
  refine zz_iload_n 1 X.1 1 dX6_flipRange_1 rfl ?_
  refine zz_iload_n 2 X.1 2 dX6_flipRange_2 rfl ?_
  refine zz_iload_n 3 X.1 3 dX6_flipRange_3 rfl ?_
  rw [← hQ]
  exact dd_callX 4 X hA ht hml hlk (th := 0) (As := [.int (nI s0), .int x1, .int x2]) (kt_X6_setToFillIn_x2 l hl D C K hAp F hs G T s0 x1 x2 b d (h_b) (h_d) (by first | rfl | assumption | omega) (by first | rfl | assumption | omega) (by first | rfl | assumption | omega)) gX6_flipRange_X6_setToFillIn rfl ⟨rfl, rfl⟩ (dr_0 X) yd_X6_setToFillIn ⟨Nat.le_of_ble_eq_true rfl, Nat.le_of_ble_eq_true rfl⟩ rfl rfl (Nat.le_of_ble_eq_true rfl) ⟨Nat.le_of_ble_eq_true rfl, Nat.le_of_ble_eq_true rfl⟩ dX6_flipRange_4
abbrev rm_X6_removeRange : Room := { frames := 4, cells := 0, slots := 0, locals := 89 }
theorem yd_X6_removeRange : yX6_removeRange.cls = RX6 ∧ yX6_removeRange.cls ≠ "java/lang/invoke/MethodHandle" ∧ yX6_removeRange.cls ≠ "java/lang/invoke/VarHandle" ∧ (parseMethodDescriptor yX6_removeRange.desc).map (fun d => d.parameters.length) = some 3 := by decide +kernel
set_option maxHeartbeats 4000000 in
set_option maxRecDepth 100000 in
theorem kt_X6_removeRange_ok (l : Launch) (D : va_G) (C : Nat → ClassId) (K : Nat → Nat) (hAp : DAp K) (F : Nat → Int32) (hs : Nat → Bool) (G T : Nat → Nat → Int32) (s0 : Nat) (f : Nat) (t : Nat) (hs0 : s0 < 8) (hft : f ≤ t ∧ t < 2 ^ 31) : CMi l yX6_removeRange wsX6_removeRange rm_X6_removeRange D C K (0)  [.int (nI s0), .int (nI f), .int (nI t)] F hs G T (fun (r : Int32) (u : CSt) => r = (nI (ct (pR (hM hs s0) f t false) 1024)) ∧ u = (F, sS hs s0 (pR (hM hs s0) f t false), G, T)) := by
  refine CMi_of (lv := [(0, .ref (K 0)), (1, .int (nI s0)), (2, .int (nI f)), (3, .int (nI t))]) (cc := cX6_removeRange) (maxL := 5) (ret := (some .int)) rfl (by decide +kernel) (Nat.le_of_ble_eq_true rfl) rfl ?_
  intro p e s m args below meth c X hml hr hlk
  generalize hQ : MQ below _ args s 0 0 _ = Q
  refine zz_aload_n 0 X.1 0 dX6_removeRange_0 rfl ?_
  refine zz_iload_n 1 X.1 1 dX6_removeRange_1 rfl ?_
  refine zz_iload_n 2 X.1 2 dX6_removeRange_2 rfl ?_
  refine zz_iload_n 3 X.1 3 dX6_removeRange_3 rfl ?_
  refine dd_callVr 4 X hml (th := 0) (As := [.int (nI s0), .int (nI f), .int (nI t)]) (kt_X6_setAskedIn l D C K hAp F hs G T s0 f t (by first | rfl | assumption | omega) (by first | rfl | assumption | omega)) gX6_removeRange_X6_setAskedIn rfl ⟨rfl, rfl⟩ (dr_0 X) yd_X6_setAskedIn ⟨Nat.le_of_ble_eq_true rfl, Nat.le_of_ble_eq_true rfl⟩ rfl rfl (Nat.le_of_ble_eq_true rfl) ⟨Nat.zero_le _, Nat.zero_le _⟩ dX6_removeRange_4 ?_
  rintro ⟨F1, hs1, G1, T1⟩ hu1
  have hv1 := hu1
  cases hv1
  refine zz_world (P' := (DP D C K F (WH hs) G T)) (fun _ h => h) ?_
  refine zz_astore 7 X.1 (lv' := [(4, .ref (K (20 + s0))), (0, .ref (K 0)), (1, .int (nI s0)), (2, .int (nI f)), (3, .int (nI t))]) dX6_removeRange_7 (by decide) rfl ?_
  refine zz_aload 9 X.1 0 dX6_removeRange_9 rfl ?_
  refine zz_iload_n 11 X.1 3 dX6_removeRange_11 rfl ?_
  refine zz_iload_n 12 X.1 4 dX6_removeRange_12 rfl ?_
  refine dd_callVv 13 X hml (th := 20 + s0) (As := [.int (nI f), .int (nI t)]) (kt_X0_exclude l D C K hAp F hs G T s0 f t (by first | rfl | assumption | omega) (by first | rfl | assumption | omega)) gX6_removeRange_X0_exclude rfl ⟨rfl, rfl⟩ (dr_M X (i := s0) (by omega)) yd_X0_exclude ⟨Nat.le_of_ble_eq_true rfl, Nat.le_of_ble_eq_true rfl⟩ rfl rfl (Nat.le_of_ble_eq_true rfl) ⟨Nat.zero_le _, Nat.zero_le _⟩ dX6_removeRange_13 ?_
  rintro ⟨F2, hs2, G2, T2⟩ hu2
  have hv2 := hu2
  cases hv2
  refine zz_world (P' := (DP D C K F (WH (sS hs s0 (pR (hM hs s0) f t false))) G T)) (fun _ h => h) ?_
  refine zz_aload 16 X.1 0 dX6_removeRange_16 rfl ?_
  refine dd_callVi 18 X hml (th := 20 + s0) (As := []) (kt_X0_size l D C K hAp F (sS hs s0 (pR (hM hs s0) f t false)) G T s0 (by first | rfl | assumption | omega)) gX6_removeRange_X0_size rfl ⟨rfl, rfl⟩ (dr_M X (i := s0) (by omega)) yd_X0_size ⟨Nat.le_of_ble_eq_true rfl, Nat.le_of_ble_eq_true rfl⟩ rfl rfl (Nat.le_of_ble_eq_true rfl) ⟨Nat.zero_le _, Nat.zero_le _⟩ dX6_removeRange_18 ?_
  rintro r3 ⟨F3, hs3, G3, T3⟩ hu3
  obtain ⟨rfl, hv3⟩ := hu3
  cases hv3
  refine zz_world (P' := (DP D C K F (WH (sS hs s0 (pR (hM hs s0) f t false))) G T)) (fun _ h => h) ?_
  rw [← hQ]
  refine zz_iret 21 X.1 hr rfl hlk (F, sS hs s0 (pR (hM hs s0) f t false), G, T) ?_ (fun _ h _ => h) dX6_removeRange_21
  exact ⟨by rw [ct_sS], rfl⟩
abbrev rm_X6_countIn : Room := { frames := 3, cells := 0, slots := 0, locals := 69 }
theorem yd_X6_countIn : yX6_countIn.cls = RX6 ∧ yX6_countIn.cls ≠ "java/lang/invoke/MethodHandle" ∧ yX6_countIn.cls ≠ "java/lang/invoke/VarHandle" ∧ (parseMethodDescriptor yX6_countIn.desc).map (fun d => d.parameters.length) = some 3 := by decide +kernel
set_option maxHeartbeats 4000000 in
set_option maxRecDepth 100000 in
theorem kt_X6_countIn_ok (l : Launch) (D : va_G) (C : Nat → ClassId) (K : Nat → Nat) (hAp : DAp K) (F : Nat → Int32) (hs : Nat → Bool) (G T : Nat → Nat → Int32) (s0 : Nat) (f : Nat) (t : Nat) (hs0 : s0 < 8) (hft : f ≤ t ∧ t < 2 ^ 31) : CMi l yX6_countIn wsX6_countIn rm_X6_countIn D C K (0)  [.int (nI s0), .int (nI f), .int (nI t)] F hs G T (fun (r : Int32) (u : CSt) => r = (nI (ct (pC (hM hs s0) f t) 1024)) ∧ u = (F, hs, G, T)) := by
  refine CMi_of (lv := [(0, .ref (K 0)), (1, .int (nI s0)), (2, .int (nI f)), (3, .int (nI t))]) (cc := cX6_countIn) (maxL := 4) (ret := (some .int)) rfl (by decide +kernel) (Nat.le_of_ble_eq_true rfl) rfl ?_
  intro p e s m args below meth c X hml hr hlk
  generalize hQ : MQ below _ args s 0 0 _ = Q
  refine zz_aload_n 0 X.1 0 dX6_countIn_0 rfl ?_
  refine zz_iload_n 1 X.1 1 dX6_countIn_1 rfl ?_
  refine zz_iload_n 2 X.1 2 dX6_countIn_2 rfl ?_
  refine zz_iload_n 3 X.1 3 dX6_countIn_3 rfl ?_
  refine dd_callVr 4 X hml (th := 0) (As := [.int (nI s0), .int (nI f), .int (nI t)]) (kt_X6_setAskedIn l D C K hAp F hs G T s0 f t (by first | rfl | assumption | omega) (by first | rfl | assumption | omega)) gX6_countIn_X6_setAskedIn rfl ⟨rfl, rfl⟩ (dr_0 X) yd_X6_setAskedIn ⟨Nat.le_of_ble_eq_true rfl, Nat.le_of_ble_eq_true rfl⟩ rfl rfl (Nat.le_of_ble_eq_true rfl) ⟨Nat.zero_le _, Nat.zero_le _⟩ dX6_countIn_4 ?_
  rintro ⟨F1, hs1, G1, T1⟩ hu1
  have hv1 := hu1
  cases hv1
  refine zz_world (P' := (DP D C K F (WH hs) G T)) (fun _ h => h) ?_
  refine zz_iload_n 7 X.1 2 dX6_countIn_7 rfl ?_
  refine zz_iload_n 8 X.1 3 dX6_countIn_8 rfl ?_
  refine dd_callVi 9 X hml (th := 20 + s0) (As := [.int (nI f), .int (nI t)]) (kt_X0_sizeIn l D C K hAp F hs G T s0 f t (by first | rfl | assumption | omega) (by first | rfl | assumption | omega)) gX6_countIn_X0_sizeIn rfl ⟨rfl, rfl⟩ (dr_M X (i := s0) (by omega)) yd_X0_sizeIn ⟨Nat.le_of_ble_eq_true rfl, Nat.le_of_ble_eq_true rfl⟩ rfl rfl (Nat.le_of_ble_eq_true rfl) ⟨Nat.zero_le _, Nat.zero_le _⟩ dX6_countIn_9 ?_
  rintro r2 ⟨F2, hs2, G2, T2⟩ hu2
  obtain ⟨rfl, hv2⟩ := hu2
  cases hv2
  refine zz_world (P' := (DP D C K F (WH hs) G T)) (fun _ h => h) ?_
  rw [← hQ]
  refine zz_iret 12 X.1 hr rfl hlk (F, hs, G, T) ?_ (fun _ h _ => h) dX6_countIn_12
  exact ⟨rfl, rfl⟩
abbrev rx_X6_removeRange : Room := { frames := 8, cells := 1, slots := 6, locals := 135 }
abbrev rx_X6_countIn : Room := { frames := 8, cells := 1, slots := 6, locals := 135 }
abbrev rm_X6_removeAll : Room := { frames := 4, cells := 0, slots := 0, locals := 89 }
theorem yd_X6_removeAll : yX6_removeAll.cls = RX6 ∧ yX6_removeAll.cls ≠ "java/lang/invoke/MethodHandle" ∧ yX6_removeAll.cls ≠ "java/lang/invoke/VarHandle" ∧ (parseMethodDescriptor yX6_removeAll.desc).map (fun d => d.parameters.length) = some 1 := by decide +kernel
set_option maxHeartbeats 4000000 in
set_option maxRecDepth 100000 in
theorem kt_X6_removeAll_ok (l : Launch) (D : va_G) (C : Nat → ClassId) (K : Nat → Nat) (hAp : DAp K) (F : Nat → Int32) (hs : Nat → Bool) (G T : Nat → Nat → Int32) (s0 : Nat) (hs0 : s0 < 8) : CMi l yX6_removeAll wsX6_removeAll rm_X6_removeAll D C K (0)  [.int (nI s0)] F hs G T (fun (r : Int32) (u : CSt) => r = (nI (ct (hM hs s0) 1024)) ∧ u = (F, sS hs s0 (fun _ => false), G, T)) := by
  refine CMi_of (lv := [(0, .ref (K 0)), (1, .int (nI s0))]) (cc := cX6_removeAll) (maxL := 4) (ret := (some .int)) rfl (by decide +kernel) (Nat.le_of_ble_eq_true rfl) rfl ?_
  intro p e s m args below meth c X hml hr hlk
  generalize hQ : MQ below _ args s 0 0 _ = Q
  refine zz_aload_n 0 X.1 0 dX6_removeAll_0 rfl ?_
  refine zz_iload_n 1 X.1 1 dX6_removeAll_1 rfl ?_
  refine dd_callVr 2 X hml (th := 0) (As := [.int (nI s0)]) (kt_X6_setOf l D C K hAp F hs G T s0 (by first | rfl | assumption | omega)) gX6_removeAll_X6_setOf rfl ⟨rfl, rfl⟩ (dr_0 X) yd_X6_setOf ⟨Nat.le_of_ble_eq_true rfl, Nat.le_of_ble_eq_true rfl⟩ rfl rfl (Nat.le_of_ble_eq_true rfl) ⟨Nat.zero_le _, Nat.zero_le _⟩ dX6_removeAll_2 ?_
  rintro ⟨F1, hs1, G1, T1⟩ hu1
  have hv1 := hu1
  cases hv1
  refine zz_world (P' := (DP D C K F (WH hs) G T)) (fun _ h => h) ?_
  refine zz_astore_n 5 X.1 (lv' := [(2, .ref (K (20 + s0))), (0, .ref (K 0)), (1, .int (nI s0))]) dX6_removeAll_5 (by decide) rfl ?_
  refine zz_aload_n 6 X.1 0 dX6_removeAll_6 rfl ?_
  refine dd_callVi 7 X hml (th := 20 + s0) (As := []) (kt_X0_size l D C K hAp F hs G T s0 (by first | rfl | assumption | omega)) gX6_removeAll_X0_size rfl ⟨rfl, rfl⟩ (dr_M X (i := s0) (by omega)) yd_X0_size ⟨Nat.le_of_ble_eq_true rfl, Nat.le_of_ble_eq_true rfl⟩ rfl rfl (Nat.le_of_ble_eq_true rfl) ⟨Nat.zero_le _, Nat.zero_le _⟩ dX6_removeAll_7 ?_
  rintro r2 ⟨F2, hs2, G2, T2⟩ hu2
  obtain ⟨rfl, hv2⟩ := hu2
  cases hv2
  refine zz_world (P' := (DP D C K F (WH hs) G T)) (fun _ h => h) ?_
  refine zz_istore_n 10 X.1 (lv' := [(3, .int (nI (ct (hM hs s0) 1024))), (2, .ref (K (20 + s0))), (0, .ref (K 0)), (1, .int (nI s0))]) dX6_removeAll_10 (by decide) rfl ?_
  refine zz_aload_n 11 X.1 1 dX6_removeAll_11 rfl ?_
  refine dd_callVv 12 X hml (th := 20 + s0) (As := []) (kt_X0_clear l D C K hAp F hs G T s0 (by first | rfl | assumption | omega)) gX6_removeAll_X0_clear rfl ⟨rfl, rfl⟩ (dr_M X (i := s0) (by omega)) yd_X0_clear ⟨Nat.le_of_ble_eq_true rfl, Nat.le_of_ble_eq_true rfl⟩ rfl rfl (Nat.le_of_ble_eq_true rfl) ⟨Nat.zero_le _, Nat.zero_le _⟩ dX6_removeAll_12 ?_
  rintro ⟨F3, hs3, G3, T3⟩ hu3
  have hv3 := hu3
  cases hv3
  refine zz_world (P' := (DP D C K F (WH (sS hs s0 (fun _ => false))) G T)) (fun _ h => h) ?_
  refine zz_iload_n 15 X.1 0 dX6_removeAll_15 rfl ?_
  rw [← hQ]
  refine zz_iret 16 X.1 hr rfl hlk (F, sS hs s0 (fun _ => false), G, T) ?_ (fun _ h _ => h) dX6_removeAll_16
  exact ⟨rfl, rfl⟩
abbrev rx_X6_removeAll : Room := { frames := 7, cells := 1, slots := 6, locals := 111 }
abbrev rm_X6_renew : Room := { frames := 4, cells := 0, slots := 0, locals := 89 }
theorem yd_X6_renew : yX6_renew.cls = RX6 ∧ yX6_renew.cls ≠ "java/lang/invoke/MethodHandle" ∧ yX6_renew.cls ≠ "java/lang/invoke/VarHandle" ∧ (parseMethodDescriptor yX6_renew.desc).map (fun d => d.parameters.length) = some 2 := by decide +kernel
set_option maxHeartbeats 4000000 in
set_option maxRecDepth 100000 in
theorem kt_X6_renew_ok (l : Launch) (D : va_G) (C : Nat → ClassId) (K : Nat → Nat) (hAp : DAp K) (F : Nat → Int32) (hs : Nat → Bool) (G T : Nat → Nat → Int32) (s0 : Nat) (x1 : Int32) (b : Int) (h_b : x1.toInt = b) (hs0 : s0 < 8) (hb : 0 ≤ b ∧ b ≤ 1024) : CMi l yX6_renew wsX6_renew rm_X6_renew D C K (0)  [.int (nI s0), .int x1] F hs G T (fun (r : Int32) (u : CSt) => r = (nI (ct (hM hs s0) 1024)) ∧ u = (F, sS hs s0 (fun _ => false), G, T)) := by
  refine CMi_of (lv := [(0, .ref (K 0)), (1, .int (nI s0)), (2, .int x1)]) (cc := cX6_renew) (maxL := 5) (ret := (some .int)) rfl (by decide +kernel) (Nat.le_of_ble_eq_true rfl) rfl ?_
  intro p e s m args below meth c X hml hr hlk
  generalize hQ : MQ below _ args s 0 0 _ = Q
  refine zz_aload_n 0 X.1 0 dX6_renew_0 rfl ?_
  refine zz_iload_n 1 X.1 1 dX6_renew_1 rfl ?_
  refine dd_callVr 2 X hml (th := 0) (As := [.int (nI s0)]) (kt_X6_setOf l D C K hAp F hs G T s0 (by first | rfl | assumption | omega)) gX6_renew_X6_setOf rfl ⟨rfl, rfl⟩ (dr_0 X) yd_X6_setOf ⟨Nat.le_of_ble_eq_true rfl, Nat.le_of_ble_eq_true rfl⟩ rfl rfl (Nat.le_of_ble_eq_true rfl) ⟨Nat.zero_le _, Nat.zero_le _⟩ dX6_renew_2 ?_
  rintro ⟨F1, hs1, G1, T1⟩ hu1
  have hv1 := hu1
  cases hv1
  refine zz_world (P' := (DP D C K F (WH hs) G T)) (fun _ h => h) ?_
  refine zz_astore_n 5 X.1 (lv' := [(3, .ref (K (20 + s0))), (0, .ref (K 0)), (1, .int (nI s0)), (2, .int x1)]) dX6_renew_5 (by decide) rfl ?_
  refine zz_iload_n 6 X.1 3 dX6_renew_6 rfl ?_
  refine zz_if_ge 7 20 X.1 h_b dX6_renew_7 (by decide) (fun h7 => ?_) (fun h7 => ?_)
  · skip
    refine zz_iload_n 20 X.1 3 dX6_renew_20 rfl ?_
    refine zz_iconst 21 X.1 (v := nI 0) dX6_renew_21 rfl ?_
    refine zz_sipush 22 X.1 (v := nI 1024) dX6_renew_22 rfl ?_
    refine zz_callS0v 25 ⟨X.1.1, X.1.2, hml, X.2.2.1, X.2.1⟩ (fun q h => Or.inr h) DP_keep (As := [.int x1, .int (nI 0), .int (nI 1024)]) (kt_X6_checkNumber l x1 (nI 0) (nI 1024) b ((0 : Nat) : Int) ((1024 : Nat) : Int) (h_b) (nI_toInt (by omega)) (nI_toInt (by omega)) (by first | rfl | assumption | omega)) gX6_renew_X6_checkNumber rfl ⟨rfl, rfl⟩ yd_X6_checkNumber.2 ⟨Nat.le_of_ble_eq_true rfl, Nat.le_of_ble_eq_true rfl⟩ rfl rfl (Nat.le_of_ble_eq_true rfl) ⟨Nat.zero_le _, Nat.zero_le _⟩ dX6_renew_25 ?_
    intro hu2
    refine zz_aload_n 28 X.1 0 dX6_renew_28 rfl ?_
    refine dd_callVi 29 X hml (th := 20 + s0) (As := []) (kt_X0_size l D C K hAp F hs G T s0 (by first | rfl | assumption | omega)) gX6_renew_X0_size rfl ⟨rfl, rfl⟩ (dr_M X (i := s0) (by omega)) yd_X0_size ⟨Nat.le_of_ble_eq_true rfl, Nat.le_of_ble_eq_true rfl⟩ rfl rfl (Nat.le_of_ble_eq_true rfl) ⟨Nat.zero_le _, Nat.zero_le _⟩ dX6_renew_29 ?_
    rintro r3 ⟨F3, hs3, G3, T3⟩ hu3
    obtain ⟨rfl, hv3⟩ := hu3
    cases hv3
    refine zz_world (P' := (DP D C K F (WH hs) G T)) (fun _ h => h) ?_
    refine zz_istore 32 X.1 (lv' := [(4, .int (nI (ct (hM hs s0) 1024))), (3, .ref (K (20 + s0))), (0, .ref (K 0)), (1, .int (nI s0)), (2, .int x1)]) dX6_renew_32 (by decide) rfl ?_
    refine zz_aload_n 34 X.1 1 dX6_renew_34 rfl ?_
    refine dd_callVv 35 X hml (th := 20 + s0) (As := []) (kt_X0_clear l D C K hAp F hs G T s0 (by first | rfl | assumption | omega)) gX6_renew_X0_clear rfl ⟨rfl, rfl⟩ (dr_M X (i := s0) (by omega)) yd_X0_clear ⟨Nat.le_of_ble_eq_true rfl, Nat.le_of_ble_eq_true rfl⟩ rfl rfl (Nat.le_of_ble_eq_true rfl) ⟨Nat.zero_le _, Nat.zero_le _⟩ dX6_renew_35 ?_
    rintro ⟨F4, hs4, G4, T4⟩ hu4
    have hv4 := hu4
    cases hv4
    refine zz_world (P' := (DP D C K F (WH (sS hs s0 (fun _ => false))) G T)) (fun _ h => h) ?_
    refine zz_iload 38 X.1 0 dX6_renew_38 rfl ?_
    rw [← hQ]
    refine zz_iret 40 X.1 hr rfl hlk (F, sS hs s0 (fun _ => false), G, T) ?_ (fun _ h _ => h) dX6_renew_40
    exact ⟨rfl, rfl⟩
  · exfalso; omega
abbrev rx_X6_renew : Room := { frames := 7, cells := 1, slots := 6, locals := 112 }
set_option maxHeartbeats 4000000 in
set_option maxRecDepth 100000 in
theorem kt_X6_renew_x2 (l : Launch) (hl : l.stackTraces = false) (D : va_G) (C : Nat → ClassId) (K : Nat → Nat) (hAp : DAp K) (F : Nat → Int32) (hs : Nat → Bool) (G T : Nat → Nat → Int32) (s0 : Nat) (x1 : Int32) (b : Int) (h_b : x1.toInt = b) (hs0 : s0 < 8) (hb : b < 0) : CX l yX6_renew wsX6_renew rx_X6_renew D C K (0) [.int (nI s0), .int x1] F hs G T "java/lang/IllegalArgumentException" (upd F 2 (F 2 + 1), hs, G, T) := by
  refine CX_of (lv := [(0, .ref (K 0)), (1, .int (nI s0)), (2, .int x1)]) (cc := cX6_renew) (maxL := 5) (ret := (some .int)) rfl (by decide +kernel) (Nat.le_of_ble_eq_true rfl) rfl ?_
  intro p e s m args below meth c X hA ht hml hr hlk
  generalize hQ : vx_MQ below _ _ args s 1 6 _ = Q
  refine zz_aload_n 0 X.1 0 dX6_renew_0 rfl ?_
  refine zz_iload_n 1 X.1 1 dX6_renew_1 rfl ?_
  refine dd_callVr 2 X hml (th := 0) (As := [.int (nI s0)]) (kt_X6_setOf l D C K hAp F hs G T s0 (by first | rfl | assumption | omega)) gX6_renew_X6_setOf rfl ⟨rfl, rfl⟩ (dr_0 X) yd_X6_setOf ⟨Nat.le_of_ble_eq_true rfl, Nat.le_of_ble_eq_true rfl⟩ rfl rfl (Nat.le_of_ble_eq_true rfl) ⟨Nat.zero_le _, Nat.zero_le _⟩ dX6_renew_2 ?_
  rintro ⟨F1, hs1, G1, T1⟩ hu1
  have hv1 := hu1
  cases hv1
  refine zz_world (P' := (DP D C K F (WH hs) G T)) (fun _ h => h) ?_
  refine zz_astore_n 5 X.1 (lv' := [(3, .ref (K (20 + s0))), (0, .ref (K 0)), (1, .int (nI s0)), (2, .int x1)]) dX6_renew_5 (by decide) rfl ?_
  refine zz_iload_n 6 X.1 3 dX6_renew_6 rfl ?_
  refine zz_if_ge 7 20 X.1 h_b dX6_renew_7 (by decide) (fun h7 => ?_) (fun h7 => ?_)
  · exfalso; omega
  · skip
    refine zz_aload_n 10 X.1 1 dX6_renew_10 rfl ?_
    refine zz_dup 11 X.1 dX6_renew_11 rfl ?_
    refine dd_get0 12 X (by decide +kernel) 6 (by decide) (v := .int (F 2)) rfl (by decide +kernel) rfl dX6_renew_12 ?_
    refine zz_iconst 15 X.1 (v := nI 1) dX6_renew_15 rfl ?_
    refine zz_iadd 16 X.1 (v := ((F 2) + (nI 1))) dX6_renew_16 rfl ?_
    refine dd_put0 17 hAp X (by decide +kernel) 6 (by decide) (F' := upd F 2 ((F 2) + (nI 1))) rfl (by decide +kernel) ⟨rfl, rfl⟩ (by decide +kernel) dX6_renew_17 ?_
    refine zz_iload_n 20 X.1 3 dX6_renew_20 rfl ?_
    refine zz_iconst 21 X.1 (v := nI 0) dX6_renew_21 rfl ?_
    refine zz_sipush 22 X.1 (v := nI 1024) dX6_renew_22 rfl ?_
    rw [← hQ]
    exact dd_callXS 25 X hA ht hml hlk (As := [.int x1, .int (nI 0), .int (nI 1024)]) (kt_X6_checkNumber_x l hl x1 (nI 0) (nI 1024) b ((0 : Nat) : Int) ((1024 : Nat) : Int) (h_b) (nI_toInt (by omega)) (nI_toInt (by omega)) (by first | rfl | assumption | omega)) gX6_renew_X6_checkNumber rfl ⟨rfl, rfl⟩ yd_X6_checkNumber.2 ⟨Nat.le_of_ble_eq_true rfl, Nat.le_of_ble_eq_true rfl⟩ rfl rfl (Nat.le_of_ble_eq_true rfl) ⟨Nat.le_of_ble_eq_true rfl, Nat.le_of_ble_eq_true rfl⟩ dX6_renew_25 rfl
