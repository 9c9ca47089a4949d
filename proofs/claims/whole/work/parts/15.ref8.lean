abbrev rm_X7_bytesIn : Room := { frames := 0, cells := 0, slots := 0, locals := 0 }
theorem yd_X7_bytesIn : yX7_bytesIn.cls = RX7 ∧ yX7_bytesIn.cls ≠ "java/lang/invoke/MethodHandle" ∧ yX7_bytesIn.cls ≠ "java/lang/invoke/VarHandle" ∧ (parseMethodDescriptor yX7_bytesIn.desc).map (fun d => d.parameters.length) = some 1 := by decide +kernel
set_option maxHeartbeats 4000000 in
set_option maxRecDepth 100000 in
theorem kt_X7_bytesIn (l : Launch) (v0 : Int32)  : SMi l yX7_bytesIn wsX7_bytesIn rm_X7_bytesIn [.int v0] (fun (r : Int32) => r = (nI (nb v0))) := by
  refine SMi_of (lv := [(0, .int v0)]) (cc := cX7_bytesIn) (maxL := 3) (ret := (some .int)) rfl (by decide +kernel) (Nat.le_of_ble_eq_true rfl) rfl ?_
  intro p e s m args below meth c hc hts hown hml hr hlk
  have X : (p.tables.exec = Jvm.exec ∧ c.code = cX7_bytesIn) ∧ True := ⟨hc, trivial⟩
  generalize hQ : MQ below _ args s 0 0 _ = Q
  refine zz_iconst 0 X.1 (v := nI 0) dX7_bytesIn_0 rfl ?_
  refine zz_istore_n 1 X.1 (lv' := [(1, .int (nI 0)), (0, .int v0)]) dX7_bytesIn_1 (by decide) rfl ?_
  refine zz_iconst 2 X.1 (v := nI 0) dX7_bytesIn_2 rfl ?_
  refine zz_istore_n 3 X.1 (lv' := [(2, .int (nI 0)), (1, .int (nI 0)), (0, .int v0)]) dX7_bytesIn_3 (by decide) rfl ?_
  have C4 : ∀ (d : Nat) (j : Nat) (n1 : Nat) (hj : j ≤ 4) (hn : n1 = ct (fun k => by8 v0 k != 0) j) (hd : 4 - j < d), ZZ p l e rm_X7_bytesIn s m args below meth c 0 0 Q (zz_A (fun _ => False) s.heap.size) (fun _ => True) 3 [(0, .int v0), (1, .int (nI n1)), (2, .int (nI (8 * j)))] [] 4 := by
    intro d
    induction d with
    | zero => intro j n1 hj hn hd; exact absurd hd (Nat.not_lt_zero _)
    | succ d ih4 =>
      intro j n1 hj hn hd
      have hb8 := by8_lt (v := v0) (k := j)
      refine zz_iload_n 4 X.1 2 dX7_bytesIn_4 rfl ?_
      refine zz_bipush 5 X.1 (v := nI 32) dX7_bytesIn_5 rfl ?_
      refine zz_icmp_ge 7 34 X.1 (nI_toInt (by omega)) (nI_toInt (by omega)) dX7_bytesIn_7 (by decide) (fun h7 => ?_) (fun h7 => ?_)
      · skip
        refine zz_iload_n 34 X.1 1 dX7_bytesIn_34 rfl ?_
        rw [← hQ]
        refine zz_iret 35 X.1 hr rfl hlk () ?_ (fun _ _ _ => trivial) dX7_bytesIn_35
        exact congrArg nI (by rw [hn, show j = 4 by omega]; rfl)
      · skip
        refine zz_iload_n 10 X.1 1 dX7_bytesIn_10 rfl ?_
        refine zz_iload_n 11 X.1 0 dX7_bytesIn_11 rfl ?_
        refine zz_iload_n 12 X.1 2 dX7_bytesIn_12 rfl ?_
        refine zz_ishr 13 X.1 (v := (v0 >>> ((nI (8 * j)) &&& 31))) dX7_bytesIn_13 rfl ?_
        refine zz_sipush 14 X.1 (v := nI 255) dX7_bytesIn_14 rfl ?_
        refine zz_iand 17 X.1 (v := (nI (by8 v0 j))) dX7_bytesIn_17 (by8_sh v0 (by omega)) ?_
        refine zz_if_ne 18 25 X.1 (nI_toInt (by omega)) dX7_bytesIn_18 (by decide) (fun h18 => ?_) (fun h18 => ?_)
        · skip
          refine zz_iconst 25 X.1 (v := nI 1) dX7_bytesIn_25 rfl ?_
          refine zz_iadd 26 X.1 (v := (nI (n1 + 1))) dX7_bytesIn_26 (nI_add _ _) ?_
          refine zz_istore_n 27 X.1 (lv' := [(1, .int (nI (n1 + 1))), (0, .int v0), (2, .int (nI (8 * j)))]) dX7_bytesIn_27 (by decide) rfl ?_
          refine zz_iinc 28 X.1 2 (v := (nI ((8 * j) + 8))) (lv' := [(2, .int (nI ((8 * j) + 8))), (1, .int (nI (n1 + 1))), (0, .int v0)]) dX7_bytesIn_28 rfl (nI_add (8 * j) 8) (by decide) rfl ?_
          refine zz_goto 31 4 X.1 dX7_bytesIn_31 (by decide) ?_
          refine zz_lvs [2, 1, 0] rfl ?_
          exact ih4 (j + 1) (n1 + 1) (by omega) (by rw [hn]; first | (exact ct_t (bne_iff_ne.mpr (by omega))) | (exact ct_f (by rw [show by8 v0 j = 0 by omega]; rfl))) (by omega)
        · skip
          refine zz_iconst 21 X.1 (v := nI 0) dX7_bytesIn_21 rfl ?_
          refine zz_goto 22 26 X.1 dX7_bytesIn_22 (by decide) ?_
          refine zz_iadd 26 X.1 (v := (nI (n1 + 0))) dX7_bytesIn_26 (nI_add _ _) ?_
          refine zz_istore_n 27 X.1 (lv' := [(1, .int (nI (n1 + 0))), (0, .int v0), (2, .int (nI (8 * j)))]) dX7_bytesIn_27 (by decide) rfl ?_
          refine zz_iinc 28 X.1 2 (v := (nI ((8 * j) + 8))) (lv' := [(2, .int (nI ((8 * j) + 8))), (1, .int (nI (n1 + 0))), (0, .int v0)]) dX7_bytesIn_28 rfl (nI_add (8 * j) 8) (by decide) rfl ?_
          refine zz_goto 31 4 X.1 dX7_bytesIn_31 (by decide) ?_
          refine zz_lvs [2, 1, 0] rfl ?_
          exact ih4 (j + 1) (n1 + 0) (by omega) (by rw [hn]; first | (exact ct_t (bne_iff_ne.mpr (by omega))) | (exact ct_f (by rw [show by8 v0 j = 0 by omega]; rfl))) (by omega)
  refine zz_lvs [2, 1, 0] rfl ?_
  exact C4 (4 - 0 + 1) 0 0 (by omega) (rfl) (Nat.lt_succ_self _)

abbrev rm_X7_takesBytes : Room := { frames := 0, cells := 0, slots := 0, locals := 0 }
theorem yd_X7_takesBytes : yX7_takesBytes.cls = RX7 ∧ yX7_takesBytes.cls ≠ "java/lang/invoke/MethodHandle" ∧ yX7_takesBytes.cls ≠ "java/lang/invoke/VarHandle" ∧ (parseMethodDescriptor yX7_takesBytes.desc).map (fun d => d.parameters.length) = some 1 := by decide +kernel
set_option maxHeartbeats 4000000 in
set_option maxRecDepth 100000 in
theorem kt_X7_takesBytes (l : Launch) (D : va_G) (C : Nat → ClassId) (K : Nat → Nat) (hAp : RAp K) (F : Nat → Int32) (hs mv : Nat → Bool) (G : Nat → Nat → Int32) (v0 : Int32) (tn : Nat) (hT : F 4 = nI tn) (htb : tn + nb v0 ≤ 400) : RMv l yX7_takesBytes wsX7_takesBytes rm_X7_takesBytes D C K [.int v0] F hs mv G (fun (u : MSt) => u = (upd F 4 (nI (tn + nb v0)), hs, mv, va_up G 3 ((t4 v0 (G 3, tn)).1))) := by
  refine RMv_of (lv := [(0, .ref (K 0)), (1, .int v0)]) (cc := cX7_takesBytes) (maxL := 4) (ret := none) rfl rfl (by decide +kernel) (Nat.le_of_ble_eq_true rfl) rfl ?_
  intro p e s m args below meth c X hml hr hlk
  generalize hQ : MQ below _ args s 0 0 _ = Q
  refine zz_world (P' := (RP D C K (upd F 4 (nI tn)) hs mv G)) (fun H h => by rw [upd_self hT]; exact h) ?_
  refine zz_bipush 0 X.1 (v := nI 24) dX7_takesBytes_0 rfl ?_
  refine zz_istore_n 2 X.1 (lv' := [(2, .int (nI 24)), (0, .ref (K 0)), (1, .int v0)]) dX7_takesBytes_2 (by decide) rfl ?_
  have C3 : ∀ (d : Nat) (i : Nat) (x2 : Int32) (tq : Nat) (gq : Nat → Int32) (hi : i ≤ 4) (hx : x2.toInt = 24 - 8 * (i : Int)) (hg : (gq, tq) = tks v0 i (G 3, tn)) (hd : 4 - i < d), ZZ p l e rm_X7_takesBytes s m args below meth c 0 0 Q (zz_A (RAd K) s.heap.size) (RP D C K (upd F 4 (nI tq)) hs mv (va_up G 3 gq)) 4 [(0, .ref (K 0)), (1, .int v0), (2, .int x2)] [] 3 := by
    intro d
    induction d with
    | zero => intro i x2 tq gq hi hx hg hd; exact absurd hd (Nat.not_lt_zero _)
    | succ d ih3 =>
      intro i x2 tq gq hi hx hg hd
      have hb8 := by8_lt (v := v0) (k := 3 - i)
      refine zz_iload_n 3 X.1 2 dX7_takesBytes_3 rfl ?_
      refine zz_if_lt 4 48 X.1 hx dX7_takesBytes_4 (by decide) (fun h4 => ?_) (fun h4 => ?_)
      · skip
        have hT4 : t4 v0 (G 3, tn) = (gq, tq) := by rw [← tks_4, show (4 : Nat) = i by omega, ← hg]
        have hT5 : tn + nb v0 = tq := by have := t4_2 (v := v0) (x := (G 3, tn)); rw [hT4] at this; exact this.symm
        rw [← hQ]
        refine zz_vret 48 X.1 hr hlk (upd F 4 (nI tq), hs, mv, va_up G 3 gq) ?_ (fun _ h _ => h) dX7_takesBytes_48
        rw [hT4, hT5]
      · skip
        obtain rfl : x2 = nI (8 * (3 - i)) := zi_of (by omega)
        have hcap := tks_2 (v := v0) (x := (G 3, tn)) (i := i) (by omega)
        rw [← hg] at hcap
        replace hcap : tq + (if by8 v0 (3 - i) != 0 then 1 else 0) ≤ tn + nb v0 := hcap
        refine zz_iload_n 7 X.1 1 dX7_takesBytes_7 rfl ?_
        refine zz_iload_n 8 X.1 2 dX7_takesBytes_8 rfl ?_
        refine zz_ishr 9 X.1 (v := (v0 >>> ((nI (8 * (3 - i))) &&& 31))) dX7_takesBytes_9 rfl ?_
        refine zz_sipush 10 X.1 (v := nI 255) dX7_takesBytes_10 rfl ?_
        refine zz_iand 13 X.1 (v := (nI (by8 v0 (3 - i)))) dX7_takesBytes_13 (by8_sh v0 (by omega)) ?_
        refine zz_istore_n 14 X.1 (lv' := [(3, .int (nI (by8 v0 (3 - i)))), (0, .ref (K 0)), (1, .int v0), (2, .int (nI (8 * (3 - i))))]) dX7_takesBytes_14 (by decide) rfl ?_
        refine zz_iload_n 15 X.1 0 dX7_takesBytes_15 rfl ?_
        refine zz_if_ne 16 22 X.1 (nI_toInt (by omega)) dX7_takesBytes_16 (by decide) (fun h16 => ?_) (fun h16 => ?_)
        · skip
          rw [if_pos (bne_iff_ne.mpr (show by8 v0 (3 - i) ≠ 0 by omega))] at hcap
          refine zz_aload_n 22 X.1 1 dX7_takesBytes_22 rfl ?_
          refine rr_get 23 X 3 (by decide) (v := .ref (K 3)) rfl (by decide +kernel) rfl dX7_takesBytes_23 ?_
          refine zz_aload_n 26 X.1 1 dX7_takesBytes_26 rfl ?_
          refine rr_get 27 X 4 (by decide) (v := .int (nI tq)) rfl (by decide +kernel) rfl dX7_takesBytes_27 ?_
          refine zz_iload_n 30 X.1 0 dX7_takesBytes_30 rfl ?_
          refine rr_iast 31 hAp X 2 3 (f := gq) (G' := va_up G 3 (upd gq tq (nI (by8 v0 (3 - i))))) rfl rfl (by omega) (by decide) dX7_takesBytes_31 ?_
          refine zz_aload_n 32 X.1 1 dX7_takesBytes_32 rfl ?_
          refine zz_dup 33 X.1 dX7_takesBytes_33 rfl ?_
          refine rr_get 34 X 4 (by decide) (v := .int (nI tq)) rfl (by decide +kernel) rfl dX7_takesBytes_34 ?_
          refine zz_iconst 37 X.1 (v := nI 1) dX7_takesBytes_37 rfl ?_
          refine zz_iadd 38 X.1 (v := (nI (tq + 1))) dX7_takesBytes_38 (nI_add _ _) ?_
          refine rr_put 39 hAp X 4 (by decide) (F' := upd F 4 (nI (tq + 1))) rfl (by decide +kernel) ⟨rfl, rfl⟩ (by decide +kernel) dX7_takesBytes_39 ?_
          refine zz_iinc 42 X.1 3 (v := (nI (8 * (3 - i)) + (-8))) (lv' := [(2, .int (nI (8 * (3 - i)) + (-8))), (3, .int (nI (by8 v0 (3 - i)))), (0, .ref (K 0)), (1, .int v0)]) dX7_takesBytes_42 rfl rfl (by decide) rfl ?_
          refine zz_goto 45 3 X.1 dX7_takesBytes_45 (by decide) ?_
          refine zz_lvs [2, 3, 0] rfl ?_
          exact ih3 (i + 1) (nI (8 * (3 - i)) + (-8)) (tq + 1) (upd gq tq (nI (by8 v0 (3 - i)))) (by omega) (by rw [zi_add (nI_toInt (by omega)) (show (-8 : Int32).toInt = -8 from rfl) (by omega) (by omega)]; omega) (by rw [tks, ← hg]; unfold t1; first | (rw [if_pos (show by8 v0 (3 - i) = 0 by omega)]; done) | (rw [if_neg (show ¬ by8 v0 (3 - i) = 0 by omega)])) (by omega)
        · skip
          refine zz_goto 19 42 X.1 dX7_takesBytes_19 (by decide) ?_
          refine zz_iinc 42 X.1 3 (v := (nI (8 * (3 - i)) + (-8))) (lv' := [(2, .int (nI (8 * (3 - i)) + (-8))), (3, .int (nI (by8 v0 (3 - i)))), (0, .ref (K 0)), (1, .int v0)]) dX7_takesBytes_42 rfl rfl (by decide) rfl ?_
          refine zz_goto 45 3 X.1 dX7_takesBytes_45 (by decide) ?_
          refine zz_lvs [2, 3, 0] rfl ?_
          exact ih3 (i + 1) (nI (8 * (3 - i)) + (-8)) tq gq (by omega) (by rw [zi_add (nI_toInt (by omega)) (show (-8 : Int32).toInt = -8 from rfl) (by omega) (by omega)]; omega) (by rw [tks, ← hg]; unfold t1; first | (rw [if_pos (show by8 v0 (3 - i) = 0 by omega)]; done) | (rw [if_neg (show ¬ by8 v0 (3 - i) = 0 by omega)])) (by omega)
  refine zz_lvs [1, 2, 0] rfl ?_
  exact C3 (4 - 0 + 1) 0 (nI 24) tn (G 3) (by omega) (by rw [nI_toInt (by omega)]; rfl) (rfl) (Nat.lt_succ_self _)

abbrev rm_X7_append : Room := { frames := 1, cells := 0, slots := 0, locals := 23 }
theorem yd_X7_append : yX7_append.cls = RX7 ∧ yX7_append.cls ≠ "java/lang/invoke/MethodHandle" ∧ yX7_append.cls ≠ "java/lang/invoke/VarHandle" ∧ (parseMethodDescriptor yX7_append.desc).map (fun d => d.parameters.length) = some 5 := by decide +kernel
set_option maxHeartbeats 4000000 in
set_option maxRecDepth 100000 in
theorem kt_X7_append_no (l : Launch) (D : va_G) (C : Nat → ClassId) (K : Nat → Nat) (hAp : RAp K) (F : Nat → Int32) (hs mv : Nat → Bool) (G : Nat → Nat → Int32) (a0 : Int32) (a1 : Int32) (a2 : Int32) (a3 : Int32) (a4 : Int32) (tn : Nat) (hT : F 4 = nI tn) (htn : tn ≤ 400) (hno : 400 < tn + (nb a0 + nb a1 + nb a2 + nb a3 + nb a4)) : RMi l yX7_append wsX7_append rm_X7_append D C K [.int a0, .int a1, .int a2, .int a3, .int a4] F hs mv G (fun (r : Int32) (u : MSt) => r = (nI 0) ∧ u = (upd F 0 (nI 1), hs, mv, G)) := by
  refine RMi_of (lv := [(0, .ref (K 0)), (1, .int a0), (2, .int a1), (3, .int a2), (4, .int a3), (5, .int a4)]) (cc := cX7_append) (maxL := 7) (ret := (some .int)) rfl rfl (by decide +kernel) (Nat.le_of_ble_eq_true rfl) rfl ?_
  intro p e s m args below meth c X hml hr hlk
  generalize hQ : MQ below _ args s 0 0 _ = Q
  refine zz_aload_n 0 X.1 0 dX7_append_0 rfl ?_
  refine zz_iconst 1 X.1 (v := nI 0) dX7_append_1 rfl ?_
  refine rr_put 2 hAp X 0 (by decide) (F' := upd F 0 (nI 0)) rfl (by decide +kernel) ⟨rfl, rfl⟩ (by decide +kernel) dX7_append_2 ?_
  have hnb0 := ct_le (fun k => by8 a0 k != 0) 4
  have hnb1 := ct_le (fun k => by8 a1 k != 0) 4
  have hnb2 := ct_le (fun k => by8 a2 k != 0) 4
  have hnb3 := ct_le (fun k => by8 a3 k != 0) 4
  have hnb4 := ct_le (fun k => by8 a4 k != 0) 4
  replace hnb0 : nb a0 ≤ 4 := hnb0
  replace hnb1 : nb a1 ≤ 4 := hnb1
  replace hnb2 : nb a2 ≤ 4 := hnb2
  replace hnb3 : nb a3 ≤ 4 := hnb3
  replace hnb4 : nb a4 ≤ 4 := hnb4
  refine zz_iload_n 5 X.1 1 dX7_append_5 rfl ?_
  refine zz_callS0i 6 ⟨X.1.1, X.1.2, hml, X.2.2.2.1, X.2.1⟩ (fun q h => Or.inr h) RP_keep (As := [.int a0]) (kt_X7_bytesIn l a0 ) gX7_append_X7_bytesIn rfl ⟨rfl, rfl⟩ yd_X7_bytesIn.2 ⟨Nat.le_of_ble_eq_true rfl, Nat.le_of_ble_eq_true rfl⟩ rfl rfl (Nat.le_of_ble_eq_true rfl) ⟨Nat.zero_le _, Nat.zero_le _⟩ dX7_append_6 ?_
  intro r1 hu1
  obtain rfl := hu1
  refine zz_iload_n 9 X.1 2 dX7_append_9 rfl ?_
  refine zz_callS0i 10 ⟨X.1.1, X.1.2, hml, X.2.2.2.1, X.2.1⟩ (fun q h => Or.inr h) RP_keep (As := [.int a1]) (kt_X7_bytesIn l a1 ) gX7_append_X7_bytesIn rfl ⟨rfl, rfl⟩ yd_X7_bytesIn.2 ⟨Nat.le_of_ble_eq_true rfl, Nat.le_of_ble_eq_true rfl⟩ rfl rfl (Nat.le_of_ble_eq_true rfl) ⟨Nat.zero_le _, Nat.zero_le _⟩ dX7_append_10 ?_
  intro r2 hu2
  obtain rfl := hu2
  refine zz_iadd 13 X.1 (v := (nI ((nb a0) + (nb a1)))) dX7_append_13 (nI_add _ _) ?_
  refine zz_iload_n 14 X.1 3 dX7_append_14 rfl ?_
  refine zz_callS0i 15 ⟨X.1.1, X.1.2, hml, X.2.2.2.1, X.2.1⟩ (fun q h => Or.inr h) RP_keep (As := [.int a2]) (kt_X7_bytesIn l a2 ) gX7_append_X7_bytesIn rfl ⟨rfl, rfl⟩ yd_X7_bytesIn.2 ⟨Nat.le_of_ble_eq_true rfl, Nat.le_of_ble_eq_true rfl⟩ rfl rfl (Nat.le_of_ble_eq_true rfl) ⟨Nat.zero_le _, Nat.zero_le _⟩ dX7_append_15 ?_
  intro r3 hu3
  obtain rfl := hu3
  refine zz_iadd 18 X.1 (v := (nI (((nb a0) + (nb a1)) + (nb a2)))) dX7_append_18 (nI_add _ _) ?_
  refine zz_iload 19 X.1 4 dX7_append_19 rfl ?_
  refine zz_callS0i 21 ⟨X.1.1, X.1.2, hml, X.2.2.2.1, X.2.1⟩ (fun q h => Or.inr h) RP_keep (As := [.int a3]) (kt_X7_bytesIn l a3 ) gX7_append_X7_bytesIn rfl ⟨rfl, rfl⟩ yd_X7_bytesIn.2 ⟨Nat.le_of_ble_eq_true rfl, Nat.le_of_ble_eq_true rfl⟩ rfl rfl (Nat.le_of_ble_eq_true rfl) ⟨Nat.zero_le _, Nat.zero_le _⟩ dX7_append_21 ?_
  intro r4 hu4
  obtain rfl := hu4
  refine zz_iadd 24 X.1 (v := (nI ((((nb a0) + (nb a1)) + (nb a2)) + (nb a3)))) dX7_append_24 (nI_add _ _) ?_
  refine zz_iload 25 X.1 5 dX7_append_25 rfl ?_
  refine zz_callS0i 27 ⟨X.1.1, X.1.2, hml, X.2.2.2.1, X.2.1⟩ (fun q h => Or.inr h) RP_keep (As := [.int a4]) (kt_X7_bytesIn l a4 ) gX7_append_X7_bytesIn rfl ⟨rfl, rfl⟩ yd_X7_bytesIn.2 ⟨Nat.le_of_ble_eq_true rfl, Nat.le_of_ble_eq_true rfl⟩ rfl rfl (Nat.le_of_ble_eq_true rfl) ⟨Nat.zero_le _, Nat.zero_le _⟩ dX7_append_27 ?_
  intro r5 hu5
  obtain rfl := hu5
  refine zz_iadd 30 X.1 (v := (nI (((((nb a0) + (nb a1)) + (nb a2)) + (nb a3)) + (nb a4)))) dX7_append_30 (nI_add _ _) ?_
  refine zz_istore 31 X.1 (lv' := [(6, .int (nI (((((nb a0) + (nb a1)) + (nb a2)) + (nb a3)) + (nb a4)))), (0, .ref (K 0)), (1, .int a0), (2, .int a1), (3, .int a2), (4, .int a3), (5, .int a4)]) dX7_append_31 (by decide) rfl ?_
  refine zz_aload_n 33 X.1 1 dX7_append_33 rfl ?_
  refine zz_aload_n 34 X.1 1 dX7_append_34 rfl ?_
  refine rr_get 35 X 4 (by decide) (v := .int (F 4)) rfl (by decide +kernel) rfl dX7_append_35 ?_
  refine zz_topi (nI tn) (hT) ?_
  refine zz_iload 38 X.1 0 dX7_append_38 rfl ?_
  refine zz_iadd 40 X.1 (v := (nI (tn + (((((nb a0) + (nb a1)) + (nb a2)) + (nb a3)) + (nb a4))))) dX7_append_40 (nI_add _ _) ?_
  refine zz_sipush 41 X.1 (v := nI 400) dX7_append_41 rfl ?_
  refine zz_icmp_gt 44 51 X.1 (nI_toInt (by omega)) (nI_toInt (by omega)) dX7_append_44 (by decide) (fun h44 => ?_) (fun h44 => ?_)
  · skip
    refine zz_iconst 51 X.1 (v := nI 0) dX7_append_51 rfl ?_
    refine zz_iconst 52 X.1 (v := nI 1) dX7_append_52 rfl ?_
    refine rr_callVi 53 X hml (As := [.int (bI false), .int (nI 1)]) (kt_X7_fails l D C K hAp (upd F 0 (nI 0)) hs mv G false 1 (by first | rfl | assumption | omega) (by first | rfl | assumption | omega)) gX7_append_X7_fails rfl ⟨rfl, rfl⟩ yd_X7_fails ⟨Nat.le_of_ble_eq_true rfl, Nat.le_of_ble_eq_true rfl⟩ rfl rfl (Nat.le_of_ble_eq_true rfl) dX7_append_53 ?_
    rintro r6 ⟨F6, hs6, mv6, G6⟩ hu6
    obtain ⟨rfl, hv6⟩ := (hu6.2 (rfl))
    cases hv6
    refine zz_world (P' := (RP D C K (upd F 0 (nI 1)) hs mv G)) (fun _ h => h) ?_
    refine zz_ifB_eq 56 61 X.1 dX7_append_56 (by decide) (fun h56 => ?_) (fun h56 => ?_)
    · exact absurd h56 (by decide)
    · skip
      refine zz_iconst 59 X.1 (v := nI 0) dX7_append_59 rfl ?_
      rw [← hQ]
      refine zz_iret 60 X.1 hr rfl hlk (upd F 0 (nI 1), hs, mv, G) ?_ (fun _ h _ => h) dX7_append_60
      exact ⟨rfl, rfl⟩
  · exfalso; omega

set_option maxHeartbeats 4000000 in
set_option maxRecDepth 100000 in
theorem kt_X7_append_ok (l : Launch) (D : va_G) (C : Nat → ClassId) (K : Nat → Nat) (hAp : RAp K) (F : Nat → Int32) (hs mv : Nat → Bool) (G : Nat → Nat → Int32) (a0 : Int32) (a1 : Int32) (a2 : Int32) (a3 : Int32) (a4 : Int32) (tn : Nat) (hT : F 4 = nI tn) (htn : tn ≤ 400) (hok : tn + (nb a0 + nb a1 + nb a2 + nb a3 + nb a4) ≤ 400) : RMi l yX7_append wsX7_append rm_X7_append D C K [.int a0, .int a1, .int a2, .int a3, .int a4] F hs mv G (fun (r : Int32) (u : MSt) => r = (nI (((((tn + nb a0) + nb a1) + nb a2) + nb a3) + nb a4)) ∧ u = (upd (upd F 0 (nI 0)) 4 (nI (((((tn + nb a0) + nb a1) + nb a2) + nb a3) + nb a4)), hs, mv, va_up G 3 ((t4 a4 ((t4 a3 ((t4 a2 ((t4 a1 ((t4 a0 (G 3, tn)).1, tn + nb a0)).1, (tn + nb a0) + nb a1)).1, ((tn + nb a0) + nb a1) + nb a2)).1, (((tn + nb a0) + nb a1) + nb a2) + nb a3)).1))) := by
  refine RMi_of (lv := [(0, .ref (K 0)), (1, .int a0), (2, .int a1), (3, .int a2), (4, .int a3), (5, .int a4)]) (cc := cX7_append) (maxL := 7) (ret := (some .int)) rfl rfl (by decide +kernel) (Nat.le_of_ble_eq_true rfl) rfl ?_
  intro p e s m args below meth c X hml hr hlk
  generalize hQ : MQ below _ args s 0 0 _ = Q
  refine zz_aload_n 0 X.1 0 dX7_append_0 rfl ?_
  refine zz_iconst 1 X.1 (v := nI 0) dX7_append_1 rfl ?_
  refine rr_put 2 hAp X 0 (by decide) (F' := upd F 0 (nI 0)) rfl (by decide +kernel) ⟨rfl, rfl⟩ (by decide +kernel) dX7_append_2 ?_
  have hnb0 := ct_le (fun k => by8 a0 k != 0) 4
  have hnb1 := ct_le (fun k => by8 a1 k != 0) 4
  have hnb2 := ct_le (fun k => by8 a2 k != 0) 4
  have hnb3 := ct_le (fun k => by8 a3 k != 0) 4
  have hnb4 := ct_le (fun k => by8 a4 k != 0) 4
  replace hnb0 : nb a0 ≤ 4 := hnb0
  replace hnb1 : nb a1 ≤ 4 := hnb1
  replace hnb2 : nb a2 ≤ 4 := hnb2
  replace hnb3 : nb a3 ≤ 4 := hnb3
  replace hnb4 : nb a4 ≤ 4 := hnb4
  refine zz_iload_n 5 X.1 1 dX7_append_5 rfl ?_
  refine zz_callS0i 6 ⟨X.1.1, X.1.2, hml, X.2.2.2.1, X.2.1⟩ (fun q h => Or.inr h) RP_keep (As := [.int a0]) (kt_X7_bytesIn l a0 ) gX7_append_X7_bytesIn rfl ⟨rfl, rfl⟩ yd_X7_bytesIn.2 ⟨Nat.le_of_ble_eq_true rfl, Nat.le_of_ble_eq_true rfl⟩ rfl rfl (Nat.le_of_ble_eq_true rfl) ⟨Nat.zero_le _, Nat.zero_le _⟩ dX7_append_6 ?_
  intro r1 hu1
  obtain rfl := hu1
  refine zz_iload_n 9 X.1 2 dX7_append_9 rfl ?_
  refine zz_callS0i 10 ⟨X.1.1, X.1.2, hml, X.2.2.2.1, X.2.1⟩ (fun q h => Or.inr h) RP_keep (As := [.int a1]) (kt_X7_bytesIn l a1 ) gX7_append_X7_bytesIn rfl ⟨rfl, rfl⟩ yd_X7_bytesIn.2 ⟨Nat.le_of_ble_eq_true rfl, Nat.le_of_ble_eq_true rfl⟩ rfl rfl (Nat.le_of_ble_eq_true rfl) ⟨Nat.zero_le _, Nat.zero_le _⟩ dX7_append_10 ?_
  intro r2 hu2
  obtain rfl := hu2
  refine zz_iadd 13 X.1 (v := (nI ((nb a0) + (nb a1)))) dX7_append_13 (nI_add _ _) ?_
  refine zz_iload_n 14 X.1 3 dX7_append_14 rfl ?_
  refine zz_callS0i 15 ⟨X.1.1, X.1.2, hml, X.2.2.2.1, X.2.1⟩ (fun q h => Or.inr h) RP_keep (As := [.int a2]) (kt_X7_bytesIn l a2 ) gX7_append_X7_bytesIn rfl ⟨rfl, rfl⟩ yd_X7_bytesIn.2 ⟨Nat.le_of_ble_eq_true rfl, Nat.le_of_ble_eq_true rfl⟩ rfl rfl (Nat.le_of_ble_eq_true rfl) ⟨Nat.zero_le _, Nat.zero_le _⟩ dX7_append_15 ?_
  intro r3 hu3
  obtain rfl := hu3
  refine zz_iadd 18 X.1 (v := (nI (((nb a0) + (nb a1)) + (nb a2)))) dX7_append_18 (nI_add _ _) ?_
  refine zz_iload 19 X.1 4 dX7_append_19 rfl ?_
  refine zz_callS0i 21 ⟨X.1.1, X.1.2, hml, X.2.2.2.1, X.2.1⟩ (fun q h => Or.inr h) RP_keep (As := [.int a3]) (kt_X7_bytesIn l a3 ) gX7_append_X7_bytesIn rfl ⟨rfl, rfl⟩ yd_X7_bytesIn.2 ⟨Nat.le_of_ble_eq_true rfl, Nat.le_of_ble_eq_true rfl⟩ rfl rfl (Nat.le_of_ble_eq_true rfl) ⟨Nat.zero_le _, Nat.zero_le _⟩ dX7_append_21 ?_
  intro r4 hu4
  obtain rfl := hu4
  refine zz_iadd 24 X.1 (v := (nI ((((nb a0) + (nb a1)) + (nb a2)) + (nb a3)))) dX7_append_24 (nI_add _ _) ?_
  refine zz_iload 25 X.1 5 dX7_append_25 rfl ?_
  refine zz_callS0i 27 ⟨X.1.1, X.1.2, hml, X.2.2.2.1, X.2.1⟩ (fun q h => Or.inr h) RP_keep (As := [.int a4]) (kt_X7_bytesIn l a4 ) gX7_append_X7_bytesIn rfl ⟨rfl, rfl⟩ yd_X7_bytesIn.2 ⟨Nat.le_of_ble_eq_true rfl, Nat.le_of_ble_eq_true rfl⟩ rfl rfl (Nat.le_of_ble_eq_true rfl) ⟨Nat.zero_le _, Nat.zero_le _⟩ dX7_append_27 ?_
  intro r5 hu5
  obtain rfl := hu5
  refine zz_iadd 30 X.1 (v := (nI (((((nb a0) + (nb a1)) + (nb a2)) + (nb a3)) + (nb a4)))) dX7_append_30 (nI_add _ _) ?_
  refine zz_istore 31 X.1 (lv' := [(6, .int (nI (((((nb a0) + (nb a1)) + (nb a2)) + (nb a3)) + (nb a4)))), (0, .ref (K 0)), (1, .int a0), (2, .int a1), (3, .int a2), (4, .int a3), (5, .int a4)]) dX7_append_31 (by decide) rfl ?_
  refine zz_aload_n 33 X.1 1 dX7_append_33 rfl ?_
  refine zz_aload_n 34 X.1 1 dX7_append_34 rfl ?_
  refine rr_get 35 X 4 (by decide) (v := .int (F 4)) rfl (by decide +kernel) rfl dX7_append_35 ?_
  refine zz_topi (nI tn) (hT) ?_
  refine zz_iload 38 X.1 0 dX7_append_38 rfl ?_
  refine zz_iadd 40 X.1 (v := (nI (tn + (((((nb a0) + (nb a1)) + (nb a2)) + (nb a3)) + (nb a4))))) dX7_append_40 (nI_add _ _) ?_
  refine zz_sipush 41 X.1 (v := nI 400) dX7_append_41 rfl ?_
  refine zz_icmp_gt 44 51 X.1 (nI_toInt (by omega)) (nI_toInt (by omega)) dX7_append_44 (by decide) (fun h44 => ?_) (fun h44 => ?_)
  · exfalso; omega
  · skip
    refine zz_iconst 47 X.1 (v := nI 1) dX7_append_47 rfl ?_
    refine zz_goto 48 52 X.1 dX7_append_48 (by decide) ?_
    refine zz_iconst 52 X.1 (v := nI 1) dX7_append_52 rfl ?_
    refine rr_callVi 53 X hml (As := [.int (bI true), .int (nI 1)]) (kt_X7_fails l D C K hAp (upd F 0 (nI 0)) hs mv G true 1 (by first | rfl | assumption | omega) (by first | rfl | assumption | omega)) gX7_append_X7_fails rfl ⟨rfl, rfl⟩ yd_X7_fails ⟨Nat.le_of_ble_eq_true rfl, Nat.le_of_ble_eq_true rfl⟩ rfl rfl (Nat.le_of_ble_eq_true rfl) dX7_append_53 ?_
    rintro r6 ⟨F6, hs6, mv6, G6⟩ hu6
    obtain ⟨rfl, hv6⟩ := (hu6.1 (rfl))
    cases hv6
    refine zz_world (P' := (RP D C K (upd F 0 (nI 0)) hs mv G)) (fun _ h => h) ?_
    refine zz_ifB_eq 56 61 X.1 dX7_append_56 (by decide) (fun h56 => ?_) (fun h56 => ?_)
    · skip
      refine zz_aload_n 61 X.1 1 dX7_append_61 rfl ?_
      refine zz_iload_n 62 X.1 2 dX7_append_62 rfl ?_
      refine rr_callVv 63 X hml (As := [.int a0]) (kt_X7_takesBytes l D C K hAp (upd F 0 (nI 0)) hs mv G a0 tn (hT) (by first | rfl | assumption | omega)) gX7_append_X7_takesBytes rfl ⟨rfl, rfl⟩ yd_X7_takesBytes ⟨Nat.le_of_ble_eq_true rfl, Nat.le_of_ble_eq_true rfl⟩ rfl rfl (Nat.le_of_ble_eq_true rfl) dX7_append_63 ?_
      rintro ⟨F7, hs7, mv7, G7⟩ hu7
      cases hu7
      refine zz_world (P' := (RP D C K (upd (upd F 0 (nI 0)) 4 (nI (tn + nb a0))) hs mv (va_up G 3 ((t4 a0 ((G 3), tn)).1)))) (fun _ h => h) ?_
      refine zz_aload_n 66 X.1 1 dX7_append_66 rfl ?_
      refine zz_iload_n 67 X.1 3 dX7_append_67 rfl ?_
      refine rr_callVv 68 X hml (As := [.int a1]) (kt_X7_takesBytes l D C K hAp (upd (upd F 0 (nI 0)) 4 (nI (tn + nb a0))) hs mv (va_up G 3 ((t4 a0 ((G 3), tn)).1)) a1 (tn + nb a0) (rfl) (by first | rfl | assumption | omega)) gX7_append_X7_takesBytes rfl ⟨rfl, rfl⟩ yd_X7_takesBytes ⟨Nat.le_of_ble_eq_true rfl, Nat.le_of_ble_eq_true rfl⟩ rfl rfl (Nat.le_of_ble_eq_true rfl) dX7_append_68 ?_
      rintro ⟨F8, hs8, mv8, G8⟩ hu8
      cases hu8
      refine zz_world (P' := (RP D C K (upd (upd F 0 (nI 0)) 4 (nI ((tn + nb a0) + nb a1))) hs mv (va_up G 3 ((t4 a1 (((t4 a0 ((G 3), tn)).1), (tn + nb a0))).1)))) (fun _ h => h) ?_
      refine zz_aload_n 71 X.1 1 dX7_append_71 rfl ?_
      refine zz_iload_n 72 X.1 4 dX7_append_72 rfl ?_
      refine rr_callVv 73 X hml (As := [.int a2]) (kt_X7_takesBytes l D C K hAp (upd (upd F 0 (nI 0)) 4 (nI ((tn + nb a0) + nb a1))) hs mv (va_up G 3 ((t4 a1 (((t4 a0 ((G 3), tn)).1), (tn + nb a0))).1)) a2 ((tn + nb a0) + nb a1) (rfl) (by first | rfl | assumption | omega)) gX7_append_X7_takesBytes rfl ⟨rfl, rfl⟩ yd_X7_takesBytes ⟨Nat.le_of_ble_eq_true rfl, Nat.le_of_ble_eq_true rfl⟩ rfl rfl (Nat.le_of_ble_eq_true rfl) dX7_append_73 ?_
      rintro ⟨F9, hs9, mv9, G9⟩ hu9
      cases hu9
      refine zz_world (P' := (RP D C K (upd (upd F 0 (nI 0)) 4 (nI (((tn + nb a0) + nb a1) + nb a2))) hs mv (va_up G 3 ((t4 a2 (((t4 a1 (((t4 a0 ((G 3), tn)).1), (tn + nb a0))).1), ((tn + nb a0) + nb a1))).1)))) (fun _ h => h) ?_
      refine zz_aload_n 76 X.1 1 dX7_append_76 rfl ?_
      refine zz_iload 77 X.1 5 dX7_append_77 rfl ?_
      refine rr_callVv 79 X hml (As := [.int a3]) (kt_X7_takesBytes l D C K hAp (upd (upd F 0 (nI 0)) 4 (nI (((tn + nb a0) + nb a1) + nb a2))) hs mv (va_up G 3 ((t4 a2 (((t4 a1 (((t4 a0 ((G 3), tn)).1), (tn + nb a0))).1), ((tn + nb a0) + nb a1))).1)) a3 (((tn + nb a0) + nb a1) + nb a2) (rfl) (by first | rfl | assumption | omega)) gX7_append_X7_takesBytes rfl ⟨rfl, rfl⟩ yd_X7_takesBytes ⟨Nat.le_of_ble_eq_true rfl, Nat.le_of_ble_eq_true rfl⟩ rfl rfl (Nat.le_of_ble_eq_true rfl) dX7_append_79 ?_
      rintro ⟨F10, hs10, mv10, G10⟩ hu10
      cases hu10
      refine zz_world (P' := (RP D C K (upd (upd F 0 (nI 0)) 4 (nI ((((tn + nb a0) + nb a1) + nb a2) + nb a3))) hs mv (va_up G 3 ((t4 a3 (((t4 a2 (((t4 a1 (((t4 a0 ((G 3), tn)).1), (tn + nb a0))).1), ((tn + nb a0) + nb a1))).1), (((tn + nb a0) + nb a1) + nb a2))).1)))) (fun _ h => h) ?_
      refine zz_aload_n 82 X.1 1 dX7_append_82 rfl ?_
      refine zz_iload 83 X.1 6 dX7_append_83 rfl ?_
      refine rr_callVv 85 X hml (As := [.int a4]) (kt_X7_takesBytes l D C K hAp (upd (upd F 0 (nI 0)) 4 (nI ((((tn + nb a0) + nb a1) + nb a2) + nb a3))) hs mv (va_up G 3 ((t4 a3 (((t4 a2 (((t4 a1 (((t4 a0 ((G 3), tn)).1), (tn + nb a0))).1), ((tn + nb a0) + nb a1))).1), (((tn + nb a0) + nb a1) + nb a2))).1)) a4 ((((tn + nb a0) + nb a1) + nb a2) + nb a3) (rfl) (by first | rfl | assumption | omega)) gX7_append_X7_takesBytes rfl ⟨rfl, rfl⟩ yd_X7_takesBytes ⟨Nat.le_of_ble_eq_true rfl, Nat.le_of_ble_eq_true rfl⟩ rfl rfl (Nat.le_of_ble_eq_true rfl) dX7_append_85 ?_
      rintro ⟨F11, hs11, mv11, G11⟩ hu11
      cases hu11
      refine zz_world (P' := (RP D C K (upd (upd F 0 (nI 0)) 4 (nI (((((tn + nb a0) + nb a1) + nb a2) + nb a3) + nb a4))) hs mv (va_up G 3 ((t4 a4 (((t4 a3 (((t4 a2 (((t4 a1 (((t4 a0 ((G 3), tn)).1), (tn + nb a0))).1), ((tn + nb a0) + nb a1))).1), (((tn + nb a0) + nb a1) + nb a2))).1), ((((tn + nb a0) + nb a1) + nb a2) + nb a3))).1)))) (fun _ h => h) ?_
      refine zz_aload_n 88 X.1 1 dX7_append_88 rfl ?_
      refine rr_get 89 X 4 (by decide) (v := .int (nI (((((tn + nb a0) + nb a1) + nb a2) + nb a3) + nb a4))) rfl (by decide +kernel) rfl dX7_append_89 ?_
      rw [← hQ]
      refine zz_iret 92 X.1 hr rfl hlk (upd (upd F 0 (nI 0)) 4 (nI (((((tn + nb a0) + nb a1) + nb a2) + nb a3) + nb a4)), hs, mv, va_up G 3 ((t4 a4 ((t4 a3 ((t4 a2 ((t4 a1 ((t4 a0 (G 3, tn)).1, tn + nb a0)).1, (tn + nb a0) + nb a1)).1, ((tn + nb a0) + nb a1) + nb a2)).1, (((tn + nb a0) + nb a1) + nb a2) + nb a3)).1)) ?_ (fun _ h _ => h) dX7_append_92
      exact ⟨rfl, rfl⟩
    · exact absurd h56 (by decide)
