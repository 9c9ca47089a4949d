/-! Reading the tokens. -/
theorem dg_of {b : Nat} (h : dg b = true) : 48 ≤ b ∧ b ≤ 57 := of_decide_eq_true h
theorem min_N {x y : Nat} (hx : x < 2 ^ 31) (hy : y < 2 ^ 31) : (if nI y < nI x then nI y else nI x) = nI (min x y) := by
  by_cases h : y < x
  · rw [if_pos (Int32.lt_iff_toInt_lt.mpr (by rw [nI_toInt hx, nI_toInt hy]; omega)), Nat.min_eq_right (by omega)]
  · rw [if_neg (fun q => by have := Int32.lt_iff_toInt_lt.mp q; rw [nI_toInt hx, nI_toInt hy] at this; omega), Nat.min_eq_left (by omega)]
theorem nv_min {t : Nat → Nat} {p q : Nat} : min (10 * min (nv t p q) 1024 + (t (p + q) - 48)) 1024 = min (nv t p (q + 1)) 1024 := by
  simp only [nv]
  omega
def tB (t : Nat → Nat) (n : Nat) : Nat → Nat
  | 0 => 0
  | j + 1 => tE t n j
theorem tS_B {t : Nat → Nat} {n : Nat} : ∀ j, tS t n j = sk t n (tB t n j)
  | 0 => rfl
  | _ + 1 => rfl
theorem tS_end {t : Nat → Nat} {n j : Nat} (hn : ∀ k, n ≤ k → t k = 0) (h : tS t n j = n) : ∀ k, tS t n (j + k) = n
  | 0 => h
  | k + 1 => (tS_up hn (j + k)).2.2.2 (by rw [tS_end hn h k]; omega)
theorem TKc_of {t : Nat → Nat} {n j : Nat} {g40 g41 g42 : Nat → Int32} (hn : ∀ k, n ≤ k → t k = 0) (hj : j ≤ 400) (he : tS t n j = n) (h : ∀ k, k < j → g40 k = nI (tK t n k) ∧ g42 k = nI (tS t n k) ∧ (tK t n k = 2 ∨ tK t n k = 3 → g41 k = nI (tV t n k))) : TKc (tK t n) (tV t n) (tS t n) j n g40 g41 g42 := by
  refine ⟨hj, h, fun k hk => ?_, fun k => kd_le.1⟩
  have h1 := tS_end hn he (k - j)
  rw [show j + (k - j) = k by omega] at h1
  exact ⟨(tK_0 hn).mpr h1, h1⟩
abbrev rm_X5_isBlank : Room := { frames := 0, cells := 0, slots := 0, locals := 0 }
theorem yd_X5_isBlank : yX5_isBlank.cls = RX5 ∧ yX5_isBlank.cls ≠ "java/lang/invoke/MethodHandle" ∧ yX5_isBlank.cls ≠ "java/lang/invoke/VarHandle" ∧ (parseMethodDescriptor yX5_isBlank.desc).map (fun d => d.parameters.length) = some 1 := by decide +kernel
set_option maxHeartbeats 4000000 in
set_option maxRecDepth 100000 in
theorem kt_X5_isBlank (l : Launch) (b0 : Nat) (hb0 : b0 < 256) : SMi l yX5_isBlank wsX5_isBlank rm_X5_isBlank [.int (nI b0)] (fun (r : Int32) => r = (bI (bl b0))) := by
  refine SMi_of (lv := [(0, .int (nI b0))]) (cc := cX5_isBlank) (maxL := 1) (ret := (some .boolean)) rfl (by decide +kernel) (Nat.le_of_ble_eq_true rfl) rfl ?_
  intro p e s m args below meth c hc hts hown hml hr hlk
  have X : (p.tables.exec = Jvm.exec ∧ c.code = cX5_isBlank) ∧ True := ⟨hc, trivial⟩
  generalize hQ : MQ below _ args s 0 0 _ = Q
  refine zz_iload_n 0 X.1 0 dX5_isBlank_0 rfl ?_
  refine zz_bipush 1 X.1 (v := nI 32) dX5_isBlank_1 rfl ?_
  refine zz_icmp_eq 3 12 X.1 (nI_toInt (by omega)) (nI_toInt (by omega)) dX5_isBlank_3 (by decide) (fun h3 => ?_) (fun h3 => ?_)
  · skip
    refine zz_iconst 12 X.1 (v := nI 1) dX5_isBlank_12 rfl ?_
    refine zz_goto 13 17 X.1 dX5_isBlank_13 (by decide) ?_
    refine zz_topi (bI true) rfl ?_
    rw [← hQ]
    refine zz_iret 17 X.1 hr (bI_nar _) hlk () ?_ (fun _ _ _ => trivial) dX5_isBlank_17
    exact congrArg bI (Eq.symm (decide_eq_true (by omega)))
  · skip
    refine zz_iload_n 6 X.1 0 dX5_isBlank_6 rfl ?_
    refine zz_bipush 7 X.1 (v := nI 10) dX5_isBlank_7 rfl ?_
    refine zz_icmp_ne 9 16 X.1 (nI_toInt (by omega)) (nI_toInt (by omega)) dX5_isBlank_9 (by decide) (fun h9 => ?_) (fun h9 => ?_)
    · skip
      refine zz_iconst 16 X.1 (v := nI 0) dX5_isBlank_16 rfl ?_
      refine zz_topi (bI false) rfl ?_
      rw [← hQ]
      refine zz_iret 17 X.1 hr (bI_nar _) hlk () ?_ (fun _ _ _ => trivial) dX5_isBlank_17
      exact congrArg bI (Eq.symm (decide_eq_false (by omega)))
    · skip
      refine zz_iconst 12 X.1 (v := nI 1) dX5_isBlank_12 rfl ?_
      refine zz_goto 13 17 X.1 dX5_isBlank_13 (by decide) ?_
      refine zz_topi (bI true) rfl ?_
      rw [← hQ]
      refine zz_iret 17 X.1 hr (bI_nar _) hlk () ?_ (fun _ _ _ => trivial) dX5_isBlank_17
      exact congrArg bI (Eq.symm (decide_eq_true (by omega)))
abbrev rm_X5_isDigit : Room := { frames := 0, cells := 0, slots := 0, locals := 0 }
theorem yd_X5_isDigit : yX5_isDigit.cls = RX5 ∧ yX5_isDigit.cls ≠ "java/lang/invoke/MethodHandle" ∧ yX5_isDigit.cls ≠ "java/lang/invoke/VarHandle" ∧ (parseMethodDescriptor yX5_isDigit.desc).map (fun d => d.parameters.length) = some 1 := by decide +kernel
set_option maxHeartbeats 4000000 in
set_option maxRecDepth 100000 in
theorem kt_X5_isDigit (l : Launch) (b0 : Nat) (hb0 : b0 < 256) : SMi l yX5_isDigit wsX5_isDigit rm_X5_isDigit [.int (nI b0)] (fun (r : Int32) => r = (bI (dg b0))) := by
  refine SMi_of (lv := [(0, .int (nI b0))]) (cc := cX5_isDigit) (maxL := 1) (ret := (some .boolean)) rfl (by decide +kernel) (Nat.le_of_ble_eq_true rfl) rfl ?_
  intro p e s m args below meth c hc hts hown hml hr hlk
  have X : (p.tables.exec = Jvm.exec ∧ c.code = cX5_isDigit) ∧ True := ⟨hc, trivial⟩
  generalize hQ : MQ below _ args s 0 0 _ = Q
  refine zz_iload_n 0 X.1 0 dX5_isDigit_0 rfl ?_
  refine zz_bipush 1 X.1 (v := nI 48) dX5_isDigit_1 rfl ?_
  refine zz_icmp_lt 3 16 X.1 (nI_toInt (by omega)) (nI_toInt (by omega)) dX5_isDigit_3 (by decide) (fun h3 => ?_) (fun h3 => ?_)
  · skip
    refine zz_iconst 16 X.1 (v := nI 0) dX5_isDigit_16 rfl ?_
    refine zz_topi (bI false) rfl ?_
    rw [← hQ]
    refine zz_iret 17 X.1 hr (bI_nar _) hlk () ?_ (fun _ _ _ => trivial) dX5_isDigit_17
    exact congrArg bI (Eq.symm (decide_eq_false (by omega)))
  · skip
    refine zz_iload_n 6 X.1 0 dX5_isDigit_6 rfl ?_
    refine zz_bipush 7 X.1 (v := nI 57) dX5_isDigit_7 rfl ?_
    refine zz_icmp_gt 9 16 X.1 (nI_toInt (by omega)) (nI_toInt (by omega)) dX5_isDigit_9 (by decide) (fun h9 => ?_) (fun h9 => ?_)
    · skip
      refine zz_iconst 16 X.1 (v := nI 0) dX5_isDigit_16 rfl ?_
      refine zz_topi (bI false) rfl ?_
      rw [← hQ]
      refine zz_iret 17 X.1 hr (bI_nar _) hlk () ?_ (fun _ _ _ => trivial) dX5_isDigit_17
      exact congrArg bI (Eq.symm (decide_eq_false (by omega)))
    · skip
      refine zz_iconst 12 X.1 (v := nI 1) dX5_isDigit_12 rfl ?_
      refine zz_goto 13 17 X.1 dX5_isDigit_13 (by decide) ?_
      refine zz_topi (bI true) rfl ?_
      rw [← hQ]
      refine zz_iret 17 X.1 hr (bI_nar _) hlk () ?_ (fun _ _ _ => trivial) dX5_isDigit_17
      exact congrArg bI (Eq.symm (decide_eq_true (by omega)))
abbrev rm_X5_keep : Room := { frames := 0, cells := 0, slots := 0, locals := 0 }
theorem yd_X5_keep : yX5_keep.cls = RX5 ∧ yX5_keep.cls ≠ "java/lang/invoke/MethodHandle" ∧ yX5_keep.cls ≠ "java/lang/invoke/VarHandle" ∧ (parseMethodDescriptor yX5_keep.desc).map (fun d => d.parameters.length) = some 3 := by decide +kernel
set_option maxHeartbeats 4000000 in
set_option maxRecDepth 100000 in
theorem kt_X5_keep (l : Launch) (D : va_G) (C : Nat → ClassId) (K : Nat → Nat) (hAp : DAp K) (F : Nat → Int32) (hs : Nat → Bool) (G T : Nat → Nat → Int32) (kk : Nat) (vv : Nat) (pp : Nat) (j : Nat) (h32 : F 32 = nI j) (hj4 : j < 400) : CMv l yX5_keep wsX5_keep rm_X5_keep D C K (5)  [.int (nI kk), .int (nI vv), .int (nI pp)] F hs G T (fun (u : CSt) => u = (upd F 32 (nI (j + 1)), hs, va_up (va_up (va_up G 40 (upd (G 40) j (nI kk))) 41 (upd (G 41) j (nI vv))) 42 (upd (G 42) j (nI pp)), T)) := by
  refine CMv_of (lv := [(0, .ref (K 5)), (1, .int (nI kk)), (2, .int (nI vv)), (3, .int (nI pp))]) (cc := cX5_keep) (maxL := 4) (ret := none) rfl (by decide +kernel) (Nat.le_of_ble_eq_true rfl) rfl ?_
  intro p e s m args below meth c X hml hr hlk
  generalize hQ : MQ below _ args s 0 0 _ = Q
  refine zz_aload_n 0 X.1 0 dX5_keep_0 rfl ?_
  refine dd_get5 1 X (by decide +kernel) 3 (by decide) (v := .int (F 32)) rfl (by decide +kernel) rfl dX5_keep_1 ?_
  refine zz_topi (nI j) (h32) ?_
  refine zz_if_lt 4 57 X.1 (nI_toInt (by omega)) dX5_keep_4 (by decide) (fun h4 => ?_) (fun h4 => ?_)
  · exfalso; omega
  · skip
    refine zz_aload_n 7 X.1 0 dX5_keep_7 rfl ?_
    refine dd_get5 8 X (by decide +kernel) 3 (by decide) (v := .int (F 32)) rfl (by decide +kernel) rfl dX5_keep_8 ?_
    refine zz_topi (nI j) (h32) ?_
    refine zz_sipush 11 X.1 (v := nI 400) dX5_keep_11 rfl ?_
    refine zz_icmp_ge 14 57 X.1 (nI_toInt (by omega)) (nI_toInt (by omega)) dX5_keep_14 (by decide) (fun h14 => ?_) (fun h14 => ?_)
    · exfalso; omega
    · skip
      refine zz_aload_n 17 X.1 0 dX5_keep_17 rfl ?_
      refine dd_get5 18 X (by decide +kernel) 0 (by decide) (v := .ref (K 6)) rfl (by decide +kernel) rfl dX5_keep_18 ?_
      refine zz_aload_n 21 X.1 0 dX5_keep_21 rfl ?_
      refine dd_get5 22 X (by decide +kernel) 3 (by decide) (v := .int (F 32)) rfl (by decide +kernel) rfl dX5_keep_22 ?_
      refine zz_topi (nI j) (h32) ?_
      refine zz_iload_n 25 X.1 1 dX5_keep_25 rfl ?_
      refine dd_iast 26 hAp X 6 6 (by decide) (f := G 40) (G' := va_up G 40 (upd (G 40) j (nI kk))) rfl rfl (by omega) (by decide) dX5_keep_26 ?_
      refine zz_aload_n 27 X.1 0 dX5_keep_27 rfl ?_
      refine dd_get5 28 X (by decide +kernel) 1 (by decide) (v := .ref (K 7)) rfl (by decide +kernel) rfl dX5_keep_28 ?_
      refine zz_aload_n 31 X.1 0 dX5_keep_31 rfl ?_
      refine dd_get5 32 X (by decide +kernel) 3 (by decide) (v := .int (F 32)) rfl (by decide +kernel) rfl dX5_keep_32 ?_
      refine zz_topi (nI j) (h32) ?_
      refine zz_iload_n 35 X.1 2 dX5_keep_35 rfl ?_
      refine dd_iast 36 hAp X 7 7 (by decide) (f := G 41) (G' := va_up (va_up G 40 (upd (G 40) j (nI kk))) 41 (upd (G 41) j (nI vv))) rfl rfl (by omega) (by decide) dX5_keep_36 ?_
      refine zz_aload_n 37 X.1 0 dX5_keep_37 rfl ?_
      refine dd_get5 38 X (by decide +kernel) 2 (by decide) (v := .ref (K 8)) rfl (by decide +kernel) rfl dX5_keep_38 ?_
      refine zz_aload_n 41 X.1 0 dX5_keep_41 rfl ?_
      refine dd_get5 42 X (by decide +kernel) 3 (by decide) (v := .int (F 32)) rfl (by decide +kernel) rfl dX5_keep_42 ?_
      refine zz_topi (nI j) (h32) ?_
      refine zz_iload_n 45 X.1 3 dX5_keep_45 rfl ?_
      refine dd_iast 46 hAp X 8 8 (by decide) (f := G 42) (G' := va_up (va_up (va_up G 40 (upd (G 40) j (nI kk))) 41 (upd (G 41) j (nI vv))) 42 (upd (G 42) j (nI pp))) rfl rfl (by omega) (by decide) dX5_keep_46 ?_
      refine zz_aload_n 47 X.1 0 dX5_keep_47 rfl ?_
      refine zz_dup 48 X.1 dX5_keep_48 rfl ?_
      refine dd_get5 49 X (by decide +kernel) 3 (by decide) (v := .int (F 32)) rfl (by decide +kernel) rfl dX5_keep_49 ?_
      refine zz_topi (nI j) (h32) ?_
      refine zz_iconst 52 X.1 (v := nI 1) dX5_keep_52 rfl ?_
      refine zz_iadd 53 X.1 (v := (nI (j + 1))) dX5_keep_53 (nI_add _ _) ?_
      refine dd_put5 54 hAp X (by decide +kernel) 3 (by decide) (F' := upd F 32 (nI (j + 1))) rfl (by decide +kernel) ⟨rfl, rfl⟩ (by decide +kernel) dX5_keep_54 ?_
      rw [← hQ]
      refine zz_vret 57 X.1 hr hlk (upd F 32 (nI (j + 1)), hs, va_up (va_up (va_up G 40 (upd (G 40) j (nI kk))) 41 (upd (G 41) j (nI vv))) 42 (upd (G 42) j (nI pp)), T) ?_ (fun _ h _ => h) dX5_keep_57
      exact rfl
abbrev rm_X5_readNumber : Room := { frames := 1, cells := 0, slots := 0, locals := 23 }
theorem yd_X5_readNumber : yX5_readNumber.cls = RX5 ∧ yX5_readNumber.cls ≠ "java/lang/invoke/MethodHandle" ∧ yX5_readNumber.cls ≠ "java/lang/invoke/VarHandle" ∧ (parseMethodDescriptor yX5_readNumber.desc).map (fun d => d.parameters.length) = some 2 := by decide +kernel
set_option maxHeartbeats 4000000 in
set_option maxRecDepth 100000 in
theorem kt_X5_readNumber (l : Launch) (D : va_G) (C : Nat → ClassId) (K : Nat → Nat) (hAp : DAp K) (F : Nat → Int32) (hs : Nat → Bool) (G T : Nat → Nat → Int32) (p0 : Nat) (tn : Nat) (j : Nat) (hT : F 4 = nI tn) (htn : tn ≤ 400) (hHB : HB (G 3) tn) (h32 : F 32 = nI j) (hj4 : j < 400) (h34 : F 34 = nI tn) (hp : p0 < tn) (hdg : dg ((tc (G 3) tn) p0) = true) : CMi l yX5_readNumber wsX5_readNumber rm_X5_readNumber D C K (5)  [.ref (K 2), .int (nI p0)] F hs G T (fun (r : Int32) (u : CSt) => r = (nI (dr (tc (G 3) tn) tn p0)) ∧ u = (upd F 32 (nI (j + 1)), hs, va_up (va_up (va_up G 40 (upd (G 40) j (nI (kd (tc (G 3) tn) tn p0)))) 41 (upd (G 41) j (nI (min (nv (tc (G 3) tn) p0 (dr (tc (G 3) tn) tn p0)) 1024)))) 42 (upd (G 42) j (nI p0)), T)) := by
  refine CMi_of (lv := [(0, .ref (K 5)), (1, .ref (K 2)), (2, .int (nI p0))]) (cc := cX5_readNumber) (maxL := 6) (ret := (some .int)) rfl (by decide +kernel) (Nat.le_of_ble_eq_true rfl) rfl ?_
  intro p e s m args below meth c X hml hr hlk
  generalize hQ : MQ below _ args s 0 0 _ = Q
  refine zz_iconst 0 X.1 (v := nI 0) dX5_readNumber_0 rfl ?_
  refine zz_istore_n 1 X.1 (lv' := [(3, .int (nI 0)), (0, .ref (K 5)), (1, .ref (K 2)), (2, .int (nI p0))]) dX5_readNumber_1 (by decide) rfl ?_
  refine zz_iload_n 2 X.1 3 dX5_readNumber_2 rfl ?_
  refine zz_istore 3 X.1 (lv' := [(4, .int (nI p0)), (3, .int (nI 0)), (0, .ref (K 5)), (1, .ref (K 2)), (2, .int (nI p0))]) dX5_readNumber_3 (by decide) rfl ?_
  have C5 : ∀ (d : Nat) (mq : Nat) (hq : p0 + mq ≤ tn) (hdig : ∀ k, k < mq → dg ((tc (G 3) tn) (p0 + k)) = true) (hd : tn - mq < d), ZZ p l e rm_X5_readNumber s m args below meth c 0 0 Q (zz_A (DAd K) s.heap.size) (DP D C K F (WH hs) G T) 6 [(0, .ref (K 5)), (1, .ref (K 2)), (2, .int (nI p0)), (3, .int (nI (min (nv (tc (G 3) tn) p0 mq) 1024))), (4, .int (nI (p0 + mq)))] [] 5 := by
    intro d
    induction d with
    | zero => intro mq hq hdig hd; exact absurd hd (Nat.not_lt_zero _)
    | succ d ih5 =>
      intro mq hq hdig hd
      refine zz_iload 5 X.1 4 dX5_readNumber_5 rfl ?_
      refine zz_aload_n 7 X.1 0 dX5_readNumber_7 rfl ?_
      refine dd_get5 8 X (by decide +kernel) 5 (by decide) (v := .int (F 34)) rfl (by decide +kernel) rfl dX5_readNumber_8 ?_
      refine zz_topi (nI tn) (h34) ?_
      refine zz_icmp_ge 11 53 X.1 (nI_toInt (by omega)) (nI_toInt (by omega)) dX5_readNumber_11 (by decide) (fun h11 => ?_) (fun h11 => ?_)
      · skip
        have hdr : dr (tc (G 3) tn) tn p0 = mq := dr_at (t := (tc (G 3) tn)) (by omega) (fun hq => by first | (exfalso; omega) | assumption) hdig
        rw [← hdr]
        have hle2 : p0 + dr (tc (G 3) tn) tn p0 ≤ tn := by rw [hdr]; exact hq
        refine zz_iload 53 X.1 4 dX5_readNumber_53 rfl ?_
        refine zz_iload_n 55 X.1 2 dX5_readNumber_55 rfl ?_
        refine zz_isub 56 X.1 (v := (nI ((p0 + (dr (tc (G 3) tn) tn p0)) - p0))) dX5_readNumber_56 (pk_sub (by omega)) ?_
        refine zz_iconst 57 X.1 (v := nI 4) dX5_readNumber_57 rfl ?_
        refine zz_icmp_gt 58 72 X.1 (nI_toInt (by omega)) (nI_toInt (by omega)) dX5_readNumber_58 (by decide) (fun h58 => ?_) (fun h58 => ?_)
        · skip
          refine zz_iconst 72 X.1 (v := nI 0) dX5_readNumber_72 rfl ?_
          refine zz_istore 73 X.1 (lv' := [(5, .int (nI 0)), (0, .ref (K 5)), (1, .ref (K 2)), (2, .int (nI p0)), (3, .int (nI (min (nv (tc (G 3) tn) p0 (dr (tc (G 3) tn) tn p0)) 1024))), (4, .int (nI (p0 + (dr (tc (G 3) tn) tn p0))))]) dX5_readNumber_73 (by decide) rfl ?_
          refine zz_aload_n 75 X.1 1 dX5_readNumber_75 rfl ?_
          refine zz_iload 76 X.1 0 dX5_readNumber_76 rfl ?_
          refine zz_if_eq 78 85 X.1 (nI_toInt (by omega)) dX5_readNumber_78 (by decide) (fun h78 => ?_) (fun h78 => ?_)
          · skip
            refine zz_iconst 85 X.1 (v := nI 1) dX5_readNumber_85 rfl ?_
            refine zz_topi (nI (kd (tc (G 3) tn) tn p0)) (congrArg nI (show 1 = kd (tc (G 3) tn) tn p0 by rw [(kd_dig hp hdg).1, if_neg (by omega)])) ?_
            refine zz_iload_n 86 X.1 4 dX5_readNumber_86 rfl ?_
            refine zz_iload_n 87 X.1 3 dX5_readNumber_87 rfl ?_
            refine dd_callVv 88 X hml (th := 5) (As := [.int (nI (kd (tc (G 3) tn) tn p0)), .int (nI (min (nv (tc (G 3) tn) p0 (dr (tc (G 3) tn) tn p0)) 1024)), .int (nI p0)]) (kt_X5_keep l D C K hAp F hs G T (kd (tc (G 3) tn) tn p0) (min (nv (tc (G 3) tn) p0 (dr (tc (G 3) tn) tn p0)) 1024) p0 j (h32) (by first | rfl | assumption | omega)) gX5_readNumber_X5_keep rfl ⟨rfl, rfl⟩ (dr_5 X) yd_X5_keep ⟨Nat.le_of_ble_eq_true rfl, Nat.le_of_ble_eq_true rfl⟩ rfl rfl (Nat.le_of_ble_eq_true rfl) ⟨Nat.zero_le _, Nat.zero_le _⟩ dX5_readNumber_88 ?_
            rintro ⟨F1, hs1, G1, T1⟩ hu1
            have hv1 := hu1
            cases hv1
            refine zz_world (P' := (DP D C K (upd F 32 (nI (j + 1))) (WH hs) (va_up (va_up (va_up G 40 (upd (G 40) j (nI (kd (tc (G 3) tn) tn p0)))) 41 (upd (G 41) j (nI (min (nv (tc (G 3) tn) p0 (dr (tc (G 3) tn) tn p0)) 1024)))) 42 (upd (G 42) j (nI p0))) T)) (fun _ h => h) ?_
            refine zz_iload 91 X.1 5 dX5_readNumber_91 rfl ?_
            refine zz_iload_n 93 X.1 3 dX5_readNumber_93 rfl ?_
            refine zz_isub 94 X.1 (v := (nI ((p0 + (dr (tc (G 3) tn) tn p0)) - p0))) dX5_readNumber_94 (pk_sub (by omega)) ?_
            rw [← hQ]
            refine zz_iret 95 X.1 hr rfl hlk (upd F 32 (nI (j + 1)), hs, va_up (va_up (va_up G 40 (upd (G 40) j (nI (kd (tc (G 3) tn) tn p0)))) 41 (upd (G 41) j (nI (min (nv (tc (G 3) tn) p0 (dr (tc (G 3) tn) tn p0)) 1024)))) 42 (upd (G 42) j (nI p0)), T) ?_ (fun _ h _ => h) dX5_readNumber_95
            exact ⟨congrArg nI (by omega), rfl⟩
          · exfalso; omega
        · skip
          refine zz_iload_n 61 X.1 3 dX5_readNumber_61 rfl ?_
          refine zz_sipush 62 X.1 (v := nI 1023) dX5_readNumber_62 rfl ?_
          refine zz_icmp_gt 65 72 X.1 (nI_toInt (by omega)) (nI_toInt (by omega)) dX5_readNumber_65 (by decide) (fun h65 => ?_) (fun h65 => ?_)
          · skip
            refine zz_iconst 72 X.1 (v := nI 0) dX5_readNumber_72 rfl ?_
            refine zz_istore 73 X.1 (lv' := [(5, .int (nI 0)), (0, .ref (K 5)), (1, .ref (K 2)), (2, .int (nI p0)), (3, .int (nI (min (nv (tc (G 3) tn) p0 (dr (tc (G 3) tn) tn p0)) 1024))), (4, .int (nI (p0 + (dr (tc (G 3) tn) tn p0))))]) dX5_readNumber_73 (by decide) rfl ?_
            refine zz_aload_n 75 X.1 1 dX5_readNumber_75 rfl ?_
            refine zz_iload 76 X.1 0 dX5_readNumber_76 rfl ?_
            refine zz_if_eq 78 85 X.1 (nI_toInt (by omega)) dX5_readNumber_78 (by decide) (fun h78 => ?_) (fun h78 => ?_)
            · skip
              refine zz_iconst 85 X.1 (v := nI 1) dX5_readNumber_85 rfl ?_
              refine zz_topi (nI (kd (tc (G 3) tn) tn p0)) (congrArg nI (show 1 = kd (tc (G 3) tn) tn p0 by rw [(kd_dig hp hdg).1, if_neg (by omega)])) ?_
              refine zz_iload_n 86 X.1 4 dX5_readNumber_86 rfl ?_
              refine zz_iload_n 87 X.1 3 dX5_readNumber_87 rfl ?_
              refine dd_callVv 88 X hml (th := 5) (As := [.int (nI (kd (tc (G 3) tn) tn p0)), .int (nI (min (nv (tc (G 3) tn) p0 (dr (tc (G 3) tn) tn p0)) 1024)), .int (nI p0)]) (kt_X5_keep l D C K hAp F hs G T (kd (tc (G 3) tn) tn p0) (min (nv (tc (G 3) tn) p0 (dr (tc (G 3) tn) tn p0)) 1024) p0 j (h32) (by first | rfl | assumption | omega)) gX5_readNumber_X5_keep rfl ⟨rfl, rfl⟩ (dr_5 X) yd_X5_keep ⟨Nat.le_of_ble_eq_true rfl, Nat.le_of_ble_eq_true rfl⟩ rfl rfl (Nat.le_of_ble_eq_true rfl) ⟨Nat.zero_le _, Nat.zero_le _⟩ dX5_readNumber_88 ?_
              rintro ⟨F2, hs2, G2, T2⟩ hu2
              have hv2 := hu2
              cases hv2
              refine zz_world (P' := (DP D C K (upd F 32 (nI (j + 1))) (WH hs) (va_up (va_up (va_up G 40 (upd (G 40) j (nI (kd (tc (G 3) tn) tn p0)))) 41 (upd (G 41) j (nI (min (nv (tc (G 3) tn) p0 (dr (tc (G 3) tn) tn p0)) 1024)))) 42 (upd (G 42) j (nI p0))) T)) (fun _ h => h) ?_
              refine zz_iload 91 X.1 5 dX5_readNumber_91 rfl ?_
              refine zz_iload_n 93 X.1 3 dX5_readNumber_93 rfl ?_
              refine zz_isub 94 X.1 (v := (nI ((p0 + (dr (tc (G 3) tn) tn p0)) - p0))) dX5_readNumber_94 (pk_sub (by omega)) ?_
              rw [← hQ]
              refine zz_iret 95 X.1 hr rfl hlk (upd F 32 (nI (j + 1)), hs, va_up (va_up (va_up G 40 (upd (G 40) j (nI (kd (tc (G 3) tn) tn p0)))) 41 (upd (G 41) j (nI (min (nv (tc (G 3) tn) p0 (dr (tc (G 3) tn) tn p0)) 1024)))) 42 (upd (G 42) j (nI p0)), T) ?_ (fun _ h _ => h) dX5_readNumber_95
              exact ⟨congrArg nI (by omega), rfl⟩
            · exfalso; omega
          · skip
            refine zz_iconst 68 X.1 (v := nI 1) dX5_readNumber_68 rfl ?_
            refine zz_goto 69 73 X.1 dX5_readNumber_69 (by decide) ?_
            refine zz_istore 73 X.1 (lv' := [(5, .int (nI 1)), (0, .ref (K 5)), (1, .ref (K 2)), (2, .int (nI p0)), (3, .int (nI (min (nv (tc (G 3) tn) p0 (dr (tc (G 3) tn) tn p0)) 1024))), (4, .int (nI (p0 + (dr (tc (G 3) tn) tn p0))))]) dX5_readNumber_73 (by decide) rfl ?_
            refine zz_aload_n 75 X.1 1 dX5_readNumber_75 rfl ?_
            refine zz_iload 76 X.1 0 dX5_readNumber_76 rfl ?_
            refine zz_if_eq 78 85 X.1 (nI_toInt (by omega)) dX5_readNumber_78 (by decide) (fun h78 => ?_) (fun h78 => ?_)
            · exfalso; omega
            · skip
              refine zz_iconst 81 X.1 (v := nI 3) dX5_readNumber_81 rfl ?_
              refine zz_topi (nI (kd (tc (G 3) tn) tn p0)) (congrArg nI (show 3 = kd (tc (G 3) tn) tn p0 by rw [(kd_dig hp hdg).1, if_pos (by omega)])) ?_
              refine zz_goto 82 86 X.1 dX5_readNumber_82 (by decide) ?_
              refine zz_iload_n 86 X.1 4 dX5_readNumber_86 rfl ?_
              refine zz_iload_n 87 X.1 3 dX5_readNumber_87 rfl ?_
              refine dd_callVv 88 X hml (th := 5) (As := [.int (nI (kd (tc (G 3) tn) tn p0)), .int (nI (min (nv (tc (G 3) tn) p0 (dr (tc (G 3) tn) tn p0)) 1024)), .int (nI p0)]) (kt_X5_keep l D C K hAp F hs G T (kd (tc (G 3) tn) tn p0) (min (nv (tc (G 3) tn) p0 (dr (tc (G 3) tn) tn p0)) 1024) p0 j (h32) (by first | rfl | assumption | omega)) gX5_readNumber_X5_keep rfl ⟨rfl, rfl⟩ (dr_5 X) yd_X5_keep ⟨Nat.le_of_ble_eq_true rfl, Nat.le_of_ble_eq_true rfl⟩ rfl rfl (Nat.le_of_ble_eq_true rfl) ⟨Nat.zero_le _, Nat.zero_le _⟩ dX5_readNumber_88 ?_
              rintro ⟨F3, hs3, G3, T3⟩ hu3
              have hv3 := hu3
              cases hv3
              refine zz_world (P' := (DP D C K (upd F 32 (nI (j + 1))) (WH hs) (va_up (va_up (va_up G 40 (upd (G 40) j (nI (kd (tc (G 3) tn) tn p0)))) 41 (upd (G 41) j (nI (min (nv (tc (G 3) tn) p0 (dr (tc (G 3) tn) tn p0)) 1024)))) 42 (upd (G 42) j (nI p0))) T)) (fun _ h => h) ?_
              refine zz_iload 91 X.1 5 dX5_readNumber_91 rfl ?_
              refine zz_iload_n 93 X.1 3 dX5_readNumber_93 rfl ?_
              refine zz_isub 94 X.1 (v := (nI ((p0 + (dr (tc (G 3) tn) tn p0)) - p0))) dX5_readNumber_94 (pk_sub (by omega)) ?_
              rw [← hQ]
              refine zz_iret 95 X.1 hr rfl hlk (upd F 32 (nI (j + 1)), hs, va_up (va_up (va_up G 40 (upd (G 40) j (nI (kd (tc (G 3) tn) tn p0)))) 41 (upd (G 41) j (nI (min (nv (tc (G 3) tn) p0 (dr (tc (G 3) tn) tn p0)) 1024)))) 42 (upd (G 42) j (nI p0)), T) ?_ (fun _ h _ => h) dX5_readNumber_95
              exact ⟨congrArg nI (by omega), rfl⟩
      · skip
        refine zz_aload_n 14 X.1 1 dX5_readNumber_14 rfl ?_
        refine zz_iload 15 X.1 4 dX5_readNumber_15 rfl ?_
        have hlt := tc_lt (i := p0 + mq) hHB
        refine dd_callVi 17 X hml (th := 2) (As := [.int (nI (p0 + mq))]) (kt_X3_sign l D C K hAp F hs G T (p0 + mq) tn (by first | rfl | assumption | omega) (hT) (by first | rfl | assumption | omega) (by first | rfl | assumption | omega)) gX5_readNumber_X3_sign rfl ⟨rfl, rfl⟩ (dr_2 X) yd_X3_sign ⟨Nat.le_of_ble_eq_true rfl, Nat.le_of_ble_eq_true rfl⟩ rfl rfl (Nat.le_of_ble_eq_true rfl) ⟨Nat.zero_le _, Nat.zero_le _⟩ dX5_readNumber_17 ?_
        rintro r4 ⟨F4, hs4, G4, T4⟩ hu4
        obtain ⟨rfl, hv4⟩ := hu4
        cases hv4
        refine zz_world (P' := (DP D C K F (WH hs) G T)) (fun _ h => h) ?_
        refine zz_callS0i 20 ⟨X.1.1, X.1.2, hml, X.2.2.1, X.2.1⟩ (fun q h => Or.inr h) DP_keep (As := [.int (nI (tc (G 3) tn (p0 + mq)))]) (kt_X5_isDigit l (tc (G 3) tn (p0 + mq)) (by first | rfl | assumption | omega)) gX5_readNumber_X5_isDigit rfl ⟨rfl, rfl⟩ yd_X5_isDigit.2 ⟨Nat.le_of_ble_eq_true rfl, Nat.le_of_ble_eq_true rfl⟩ rfl rfl (Nat.le_of_ble_eq_true rfl) ⟨Nat.zero_le _, Nat.zero_le _⟩ dX5_readNumber_20 ?_
        intro r5 hu5
        obtain rfl := hu5
        refine zz_ifB_eq 23 53 X.1 dX5_readNumber_23 (by decide) (fun h23 => ?_) (fun h23 => ?_)
        · skip
          have hdr : dr (tc (G 3) tn) tn p0 = mq := dr_at (t := (tc (G 3) tn)) (by omega) (fun hq => by first | (exfalso; omega) | assumption) hdig
          rw [← hdr]
          have hle2 : p0 + dr (tc (G 3) tn) tn p0 ≤ tn := by rw [hdr]; exact hq
          refine zz_iload 53 X.1 4 dX5_readNumber_53 rfl ?_
          refine zz_iload_n 55 X.1 2 dX5_readNumber_55 rfl ?_
          refine zz_isub 56 X.1 (v := (nI ((p0 + (dr (tc (G 3) tn) tn p0)) - p0))) dX5_readNumber_56 (pk_sub (by omega)) ?_
          refine zz_iconst 57 X.1 (v := nI 4) dX5_readNumber_57 rfl ?_
          refine zz_icmp_gt 58 72 X.1 (nI_toInt (by omega)) (nI_toInt (by omega)) dX5_readNumber_58 (by decide) (fun h58 => ?_) (fun h58 => ?_)
          · skip
            refine zz_iconst 72 X.1 (v := nI 0) dX5_readNumber_72 rfl ?_
            refine zz_istore 73 X.1 (lv' := [(5, .int (nI 0)), (0, .ref (K 5)), (1, .ref (K 2)), (2, .int (nI p0)), (3, .int (nI (min (nv (tc (G 3) tn) p0 (dr (tc (G 3) tn) tn p0)) 1024))), (4, .int (nI (p0 + (dr (tc (G 3) tn) tn p0))))]) dX5_readNumber_73 (by decide) rfl ?_
            refine zz_aload_n 75 X.1 1 dX5_readNumber_75 rfl ?_
            refine zz_iload 76 X.1 0 dX5_readNumber_76 rfl ?_
            refine zz_if_eq 78 85 X.1 (nI_toInt (by omega)) dX5_readNumber_78 (by decide) (fun h78 => ?_) (fun h78 => ?_)
            · skip
              refine zz_iconst 85 X.1 (v := nI 1) dX5_readNumber_85 rfl ?_
              refine zz_topi (nI (kd (tc (G 3) tn) tn p0)) (congrArg nI (show 1 = kd (tc (G 3) tn) tn p0 by rw [(kd_dig hp hdg).1, if_neg (by omega)])) ?_
              refine zz_iload_n 86 X.1 4 dX5_readNumber_86 rfl ?_
              refine zz_iload_n 87 X.1 3 dX5_readNumber_87 rfl ?_
              refine dd_callVv 88 X hml (th := 5) (As := [.int (nI (kd (tc (G 3) tn) tn p0)), .int (nI (min (nv (tc (G 3) tn) p0 (dr (tc (G 3) tn) tn p0)) 1024)), .int (nI p0)]) (kt_X5_keep l D C K hAp F hs G T (kd (tc (G 3) tn) tn p0) (min (nv (tc (G 3) tn) p0 (dr (tc (G 3) tn) tn p0)) 1024) p0 j (h32) (by first | rfl | assumption | omega)) gX5_readNumber_X5_keep rfl ⟨rfl, rfl⟩ (dr_5 X) yd_X5_keep ⟨Nat.le_of_ble_eq_true rfl, Nat.le_of_ble_eq_true rfl⟩ rfl rfl (Nat.le_of_ble_eq_true rfl) ⟨Nat.zero_le _, Nat.zero_le _⟩ dX5_readNumber_88 ?_
              rintro ⟨F6, hs6, G6, T6⟩ hu6
              have hv6 := hu6
              cases hv6
              refine zz_world (P' := (DP D C K (upd F 32 (nI (j + 1))) (WH hs) (va_up (va_up (va_up G 40 (upd (G 40) j (nI (kd (tc (G 3) tn) tn p0)))) 41 (upd (G 41) j (nI (min (nv (tc (G 3) tn) p0 (dr (tc (G 3) tn) tn p0)) 1024)))) 42 (upd (G 42) j (nI p0))) T)) (fun _ h => h) ?_
              refine zz_iload 91 X.1 5 dX5_readNumber_91 rfl ?_
              refine zz_iload_n 93 X.1 3 dX5_readNumber_93 rfl ?_
              refine zz_isub 94 X.1 (v := (nI ((p0 + (dr (tc (G 3) tn) tn p0)) - p0))) dX5_readNumber_94 (pk_sub (by omega)) ?_
              rw [← hQ]
              refine zz_iret 95 X.1 hr rfl hlk (upd F 32 (nI (j + 1)), hs, va_up (va_up (va_up G 40 (upd (G 40) j (nI (kd (tc (G 3) tn) tn p0)))) 41 (upd (G 41) j (nI (min (nv (tc (G 3) tn) p0 (dr (tc (G 3) tn) tn p0)) 1024)))) 42 (upd (G 42) j (nI p0)), T) ?_ (fun _ h _ => h) dX5_readNumber_95
              exact ⟨congrArg nI (by omega), rfl⟩
            · exfalso; omega
          · skip
            refine zz_iload_n 61 X.1 3 dX5_readNumber_61 rfl ?_
            refine zz_sipush 62 X.1 (v := nI 1023) dX5_readNumber_62 rfl ?_
            refine zz_icmp_gt 65 72 X.1 (nI_toInt (by omega)) (nI_toInt (by omega)) dX5_readNumber_65 (by decide) (fun h65 => ?_) (fun h65 => ?_)
            · skip
              refine zz_iconst 72 X.1 (v := nI 0) dX5_readNumber_72 rfl ?_
              refine zz_istore 73 X.1 (lv' := [(5, .int (nI 0)), (0, .ref (K 5)), (1, .ref (K 2)), (2, .int (nI p0)), (3, .int (nI (min (nv (tc (G 3) tn) p0 (dr (tc (G 3) tn) tn p0)) 1024))), (4, .int (nI (p0 + (dr (tc (G 3) tn) tn p0))))]) dX5_readNumber_73 (by decide) rfl ?_
              refine zz_aload_n 75 X.1 1 dX5_readNumber_75 rfl ?_
              refine zz_iload 76 X.1 0 dX5_readNumber_76 rfl ?_
              refine zz_if_eq 78 85 X.1 (nI_toInt (by omega)) dX5_readNumber_78 (by decide) (fun h78 => ?_) (fun h78 => ?_)
              · skip
                refine zz_iconst 85 X.1 (v := nI 1) dX5_readNumber_85 rfl ?_
                refine zz_topi (nI (kd (tc (G 3) tn) tn p0)) (congrArg nI (show 1 = kd (tc (G 3) tn) tn p0 by rw [(kd_dig hp hdg).1, if_neg (by omega)])) ?_
                refine zz_iload_n 86 X.1 4 dX5_readNumber_86 rfl ?_
                refine zz_iload_n 87 X.1 3 dX5_readNumber_87 rfl ?_
                refine dd_callVv 88 X hml (th := 5) (As := [.int (nI (kd (tc (G 3) tn) tn p0)), .int (nI (min (nv (tc (G 3) tn) p0 (dr (tc (G 3) tn) tn p0)) 1024)), .int (nI p0)]) (kt_X5_keep l D C K hAp F hs G T (kd (tc (G 3) tn) tn p0) (min (nv (tc (G 3) tn) p0 (dr (tc (G 3) tn) tn p0)) 1024) p0 j (h32) (by first | rfl | assumption | omega)) gX5_readNumber_X5_keep rfl ⟨rfl, rfl⟩ (dr_5 X) yd_X5_keep ⟨Nat.le_of_ble_eq_true rfl, Nat.le_of_ble_eq_true rfl⟩ rfl rfl (Nat.le_of_ble_eq_true rfl) ⟨Nat.zero_le _, Nat.zero_le _⟩ dX5_readNumber_88 ?_
                rintro ⟨F7, hs7, G7, T7⟩ hu7
                have hv7 := hu7
                cases hv7
                refine zz_world (P' := (DP D C K (upd F 32 (nI (j + 1))) (WH hs) (va_up (va_up (va_up G 40 (upd (G 40) j (nI (kd (tc (G 3) tn) tn p0)))) 41 (upd (G 41) j (nI (min (nv (tc (G 3) tn) p0 (dr (tc (G 3) tn) tn p0)) 1024)))) 42 (upd (G 42) j (nI p0))) T)) (fun _ h => h) ?_
                refine zz_iload 91 X.1 5 dX5_readNumber_91 rfl ?_
                refine zz_iload_n 93 X.1 3 dX5_readNumber_93 rfl ?_
                refine zz_isub 94 X.1 (v := (nI ((p0 + (dr (tc (G 3) tn) tn p0)) - p0))) dX5_readNumber_94 (pk_sub (by omega)) ?_
                rw [← hQ]
                refine zz_iret 95 X.1 hr rfl hlk (upd F 32 (nI (j + 1)), hs, va_up (va_up (va_up G 40 (upd (G 40) j (nI (kd (tc (G 3) tn) tn p0)))) 41 (upd (G 41) j (nI (min (nv (tc (G 3) tn) p0 (dr (tc (G 3) tn) tn p0)) 1024)))) 42 (upd (G 42) j (nI p0)), T) ?_ (fun _ h _ => h) dX5_readNumber_95
                exact ⟨congrArg nI (by omega), rfl⟩
              · exfalso; omega
            · skip
              refine zz_iconst 68 X.1 (v := nI 1) dX5_readNumber_68 rfl ?_
              refine zz_goto 69 73 X.1 dX5_readNumber_69 (by decide) ?_
              refine zz_istore 73 X.1 (lv' := [(5, .int (nI 1)), (0, .ref (K 5)), (1, .ref (K 2)), (2, .int (nI p0)), (3, .int (nI (min (nv (tc (G 3) tn) p0 (dr (tc (G 3) tn) tn p0)) 1024))), (4, .int (nI (p0 + (dr (tc (G 3) tn) tn p0))))]) dX5_readNumber_73 (by decide) rfl ?_
              refine zz_aload_n 75 X.1 1 dX5_readNumber_75 rfl ?_
              refine zz_iload 76 X.1 0 dX5_readNumber_76 rfl ?_
              refine zz_if_eq 78 85 X.1 (nI_toInt (by omega)) dX5_readNumber_78 (by decide) (fun h78 => ?_) (fun h78 => ?_)
              · exfalso; omega
              · skip
                refine zz_iconst 81 X.1 (v := nI 3) dX5_readNumber_81 rfl ?_
                refine zz_topi (nI (kd (tc (G 3) tn) tn p0)) (congrArg nI (show 3 = kd (tc (G 3) tn) tn p0 by rw [(kd_dig hp hdg).1, if_pos (by omega)])) ?_
                refine zz_goto 82 86 X.1 dX5_readNumber_82 (by decide) ?_
                refine zz_iload_n 86 X.1 4 dX5_readNumber_86 rfl ?_
                refine zz_iload_n 87 X.1 3 dX5_readNumber_87 rfl ?_
                refine dd_callVv 88 X hml (th := 5) (As := [.int (nI (kd (tc (G 3) tn) tn p0)), .int (nI (min (nv (tc (G 3) tn) p0 (dr (tc (G 3) tn) tn p0)) 1024)), .int (nI p0)]) (kt_X5_keep l D C K hAp F hs G T (kd (tc (G 3) tn) tn p0) (min (nv (tc (G 3) tn) p0 (dr (tc (G 3) tn) tn p0)) 1024) p0 j (h32) (by first | rfl | assumption | omega)) gX5_readNumber_X5_keep rfl ⟨rfl, rfl⟩ (dr_5 X) yd_X5_keep ⟨Nat.le_of_ble_eq_true rfl, Nat.le_of_ble_eq_true rfl⟩ rfl rfl (Nat.le_of_ble_eq_true rfl) ⟨Nat.zero_le _, Nat.zero_le _⟩ dX5_readNumber_88 ?_
                rintro ⟨F8, hs8, G8, T8⟩ hu8
                have hv8 := hu8
                cases hv8
                refine zz_world (P' := (DP D C K (upd F 32 (nI (j + 1))) (WH hs) (va_up (va_up (va_up G 40 (upd (G 40) j (nI (kd (tc (G 3) tn) tn p0)))) 41 (upd (G 41) j (nI (min (nv (tc (G 3) tn) p0 (dr (tc (G 3) tn) tn p0)) 1024)))) 42 (upd (G 42) j (nI p0))) T)) (fun _ h => h) ?_
                refine zz_iload 91 X.1 5 dX5_readNumber_91 rfl ?_
                refine zz_iload_n 93 X.1 3 dX5_readNumber_93 rfl ?_
                refine zz_isub 94 X.1 (v := (nI ((p0 + (dr (tc (G 3) tn) tn p0)) - p0))) dX5_readNumber_94 (pk_sub (by omega)) ?_
                rw [← hQ]
                refine zz_iret 95 X.1 hr rfl hlk (upd F 32 (nI (j + 1)), hs, va_up (va_up (va_up G 40 (upd (G 40) j (nI (kd (tc (G 3) tn) tn p0)))) 41 (upd (G 41) j (nI (min (nv (tc (G 3) tn) p0 (dr (tc (G 3) tn) tn p0)) 1024)))) 42 (upd (G 42) j (nI p0)), T) ?_ (fun _ h _ => h) dX5_readNumber_95
                exact ⟨congrArg nI (by omega), rfl⟩
        · skip
          have hd1 := dg_of h23
          refine zz_bipush 26 X.1 (v := nI 10) dX5_readNumber_26 rfl ?_
          refine zz_iload_n 28 X.1 3 dX5_readNumber_28 rfl ?_
          refine zz_imul 29 X.1 (v := (nI (10 * (min (nv (tc (G 3) tn) p0 mq) 1024)))) dX5_readNumber_29 (pk_mul _ _) ?_
          refine zz_aload_n 30 X.1 1 dX5_readNumber_30 rfl ?_
          refine zz_iload 31 X.1 4 dX5_readNumber_31 rfl ?_
          refine dd_callVi 33 X hml (th := 2) (As := [.int (nI (p0 + mq))]) (kt_X3_sign l D C K hAp F hs G T (p0 + mq) tn (by first | rfl | assumption | omega) (hT) (by first | rfl | assumption | omega) (by first | rfl | assumption | omega)) gX5_readNumber_X3_sign rfl ⟨rfl, rfl⟩ (dr_2 X) yd_X3_sign ⟨Nat.le_of_ble_eq_true rfl, Nat.le_of_ble_eq_true rfl⟩ rfl rfl (Nat.le_of_ble_eq_true rfl) ⟨Nat.zero_le _, Nat.zero_le _⟩ dX5_readNumber_33 ?_
          rintro r9 ⟨F9, hs9, G9, T9⟩ hu9
          obtain ⟨rfl, hv9⟩ := hu9
          cases hv9
          refine zz_world (P' := (DP D C K F (WH hs) G T)) (fun _ h => h) ?_
          refine zz_bipush 36 X.1 (v := nI 48) dX5_readNumber_36 rfl ?_
          refine zz_isub 38 X.1 (v := (nI ((tc (G 3) tn (p0 + mq)) - 48))) dX5_readNumber_38 (pk_sub (by omega)) ?_
          refine zz_iadd 39 X.1 (v := (nI ((10 * (min (nv (tc (G 3) tn) p0 mq) 1024)) + ((tc (G 3) tn (p0 + mq)) - 48)))) dX5_readNumber_39 (nI_add _ _) ?_
          refine zz_sipush 40 X.1 (v := nI 1024) dX5_readNumber_40 rfl ?_
          refine zz_mmin 43 X.1 hml X.2.2.1 ((X.2.1 _ (by decide +kernel))) ((X.2.1 _ (by decide +kernel))) ((X.2.1 _ (by decide +kernel))) ((X.2.1 _ (by decide +kernel))) (Nat.le_of_ble_eq_true rfl) (Nat.le_of_ble_eq_true rfl) (Nat.zero_le _) (Nat.zero_le _) (v := (nI (min (nv (tc (G 3) tn) p0 (mq + 1)) 1024))) dX5_readNumber_43 ((min_N (by omega) (by omega)).trans (congrArg nI (nv_min (t := (tc (G 3) tn))))) ?_
          refine zz_istore_n 46 X.1 (lv' := [(3, .int (nI (min (nv (tc (G 3) tn) p0 (mq + 1)) 1024))), (0, .ref (K 5)), (1, .ref (K 2)), (2, .int (nI p0)), (4, .int (nI (p0 + mq)))]) dX5_readNumber_46 (by decide) rfl ?_
          refine zz_iinc 47 X.1 4 (v := (nI ((p0 + mq) + 1))) (lv' := [(4, .int (nI ((p0 + mq) + 1))), (3, .int (nI (min (nv (tc (G 3) tn) p0 (mq + 1)) 1024))), (0, .ref (K 5)), (1, .ref (K 2)), (2, .int (nI p0))]) dX5_readNumber_47 rfl (nI_add (p0 + mq) 1) (by decide) rfl ?_
          refine zz_goto 50 5 X.1 dX5_readNumber_50 (by decide) ?_
          refine zz_lvs [2, 3, 4, 1, 0] rfl ?_
          exact ih5 (mq + 1) (by omega) (fun k hk => by rcases Nat.lt_or_ge k mq with z | z; exact hdig k z; rw [show k = mq by omega]; exact h23) (by omega)
  refine zz_lvs [2, 3, 4, 1, 0] rfl ?_
  exact C5 (tn - 0 + 1) 0 (by omega) (fun k hk => absurd hk (Nat.not_lt_zero _)) (Nat.lt_succ_self _)
abbrev rm_X5_readOne : Room := { frames := 8, cells := 0, slots := 0, locals := 179 }
theorem yd_X5_readOne : yX5_readOne.cls = RX5 ∧ yX5_readOne.cls ≠ "java/lang/invoke/MethodHandle" ∧ yX5_readOne.cls ≠ "java/lang/invoke/VarHandle" ∧ (parseMethodDescriptor yX5_readOne.desc).map (fun d => d.parameters.length) = some 2 := by decide +kernel
set_option maxHeartbeats 4000000 in
set_option maxRecDepth 100000 in
theorem kt_X5_readOne (l : Launch) (D : va_G) (C : Nat → ClassId) (K : Nat → Nat) (adK adV : Nat → Nat) (hAp : DAp K) (F : Nat → Int32) (hs : Nat → Bool) (G T : Nat → Nat → Int32) (p0 : Nat) (tn : Nat) (j : Nat) (hT : F 4 = nI tn) (htn : tn ≤ 400) (hHB : HB (G 3) tn) (h32 : F 32 = nI j) (hj4 : j < 400) (h34 : F 34 = nI tn) (hp : p0 < tn) : CAi l yX5_readOne wsX5_readOne rm_X5_readOne D C K adK adV (5) [.ref (K 2), .int (nI p0)] F hs G T (fun (r : Int32) (u : CSt) => ∃ (vq : Int32), r = (nI (tl (tc (G 3) tn) tn p0)) ∧ u = (upd F 32 (nI (j + 1)), hs, va_up (va_up (va_up G 40 (upd (G 40) j (nI (kd (tc (G 3) tn) tn p0)))) 41 (upd (G 41) j vq)) 42 (upd (G 42) j (nI p0)), T) ∧ (kd (tc (G 3) tn) tn p0 = 2 ∨ kd (tc (G 3) tn) tn p0 = 3 → vq = nI (vl (tc (G 3) tn) tn p0))) := by
  refine CAi_of (lv := [(0, .ref (K 5)), (1, .ref (K 2)), (2, .int (nI p0))]) (cc := cX5_readOne) (maxL := 4) (ret := (some .int)) rfl (by decide +kernel) (Nat.le_of_ble_eq_true rfl) rfl ?_
  intro p e s m args below meth c X hB hml hr hlk
  generalize hQ : MQ below _ args s 0 0 _ = Q
  have hlt := tc_lt (i := p0) hHB
  have hlt2 := tc_lt (i := p0 + 1) hHB
  refine zz_aload_n 0 X.1 1 dX5_readOne_0 rfl ?_
  refine zz_iload_n 1 X.1 2 dX5_readOne_1 rfl ?_
  refine dd_callVi 2 X hml (th := 2) (As := [.int (nI p0)]) (kt_X3_sign l D C K hAp F hs G T p0 tn (by first | rfl | assumption | omega) (hT) (by first | rfl | assumption | omega) (by first | rfl | assumption | omega)) gX5_readOne_X3_sign rfl ⟨rfl, rfl⟩ (dr_2 X) yd_X3_sign ⟨Nat.le_of_ble_eq_true rfl, Nat.le_of_ble_eq_true rfl⟩ rfl rfl (Nat.le_of_ble_eq_true rfl) ⟨Nat.zero_le _, Nat.zero_le _⟩ dX5_readOne_2 ?_
  rintro r1 ⟨F1, hs1, G1, T1⟩ hu1
  obtain ⟨rfl, hv1⟩ := hu1
  cases hv1
  refine zz_world (P' := (DP D C K F (WH hs) G T)) (fun _ h => h) ?_
  refine zz_istore_n 5 X.1 (lv' := [(3, .int (nI (tc (G 3) tn p0))), (0, .ref (K 5)), (1, .ref (K 2)), (2, .int (nI p0))]) dX5_readOne_5 (by decide) rfl ?_
  refine zz_iload_n 6 X.1 0 dX5_readOne_6 rfl ?_
  refine zz_callS0i 7 ⟨X.1.1, X.1.2, hml, X.2.2.1, X.2.1⟩ (fun q h => Or.inr h) DP_keep (As := [.int (nI (tc (G 3) tn p0))]) (kt_X5_isDigit l (tc (G 3) tn p0) (by first | rfl | assumption | omega)) gX5_readOne_X5_isDigit rfl ⟨rfl, rfl⟩ yd_X5_isDigit.2 ⟨Nat.le_of_ble_eq_true rfl, Nat.le_of_ble_eq_true rfl⟩ rfl rfl (Nat.le_of_ble_eq_true rfl) ⟨Nat.zero_le _, Nat.zero_le _⟩ dX5_readOne_7 ?_
  intro r2 hu2
  obtain rfl := hu2
  refine zz_ifB_eq 10 20 X.1 dX5_readOne_10 (by decide) (fun h10 => ?_) (fun h10 => ?_)
  · skip
    refine zz_iload_n 20 X.1 0 dX5_readOne_20 rfl ?_
    refine zz_bipush 21 X.1 (v := nI 97) dX5_readOne_21 rfl ?_
    refine zz_icmp_lt 23 44 X.1 (nI_toInt (by omega)) (nI_toInt (by omega)) dX5_readOne_23 (by decide) (fun h23 => ?_) (fun h23 => ?_)
    · skip
      refine zz_iload_n 44 X.1 0 dX5_readOne_44 rfl ?_
      refine zz_bipush 45 X.1 (v := nI 46) dX5_readOne_45 rfl ?_
      refine zz_icmp_ne 47 71 X.1 (nI_toInt (by omega)) (nI_toInt (by omega)) dX5_readOne_47 (by decide) (fun h47 => ?_) (fun h47 => ?_)
      · skip
        refine zz_aload_n 71 X.1 1 dX5_readOne_71 rfl ?_
        refine zz_iload_n 72 X.1 0 dX5_readOne_72 rfl ?_
        refine zz_callSAi 73 hB ⟨X.1.1, X.1.2, hml, X.2.2.1, X.2.1⟩ (fun q h => Or.inr h) DP_keep (As := [.int (nI (tc (G 3) tn p0))]) (kt_X5_isSign l adK adV (tc (G 3) tn p0) (by omega)) gX5_readOne_X5_isSign rfl ⟨rfl, rfl⟩ yd_X5_isSign.2 ⟨Nat.le_of_ble_eq_true rfl, Nat.le_of_ble_eq_true rfl⟩ rfl rfl (Nat.le_of_ble_eq_true rfl) ⟨Nat.zero_le _, Nat.zero_le _⟩ dX5_readOne_73 ?_
        rintro r3 hu3
        obtain rfl := hu3
        refine zz_ifB_eq 76 83 X.1 dX5_readOne_76 (by decide) (fun h76 => ?_) (fun h76 => ?_)
        · skip
          refine zz_iconst 83 X.1 (v := nI 1) dX5_readOne_83 rfl ?_
          refine zz_topi (nI (kd (tc (G 3) tn) tn p0)) (congrArg nI (show 1 = kd (tc (G 3) tn) tn p0 from (kd_oth hp h10 (by omega) h76 (by omega)).1.symm)) ?_
          refine zz_iconst 84 X.1 (v := nI 0) dX5_readOne_84 rfl ?_
          refine zz_iload_n 85 X.1 3 dX5_readOne_85 rfl ?_
          refine dd_callVv 86 X hml (th := 5) (As := [.int (nI (kd (tc (G 3) tn) tn p0)), .int (nI 0), .int (nI p0)]) (kt_X5_keep l D C K hAp F hs G T (kd (tc (G 3) tn) tn p0) 0 p0 j (h32) (by first | rfl | assumption | omega)) gX5_readOne_X5_keep rfl ⟨rfl, rfl⟩ (dr_5 X) yd_X5_keep ⟨Nat.le_of_ble_eq_true rfl, Nat.le_of_ble_eq_true rfl⟩ rfl rfl (Nat.le_of_ble_eq_true rfl) ⟨Nat.zero_le _, Nat.zero_le _⟩ dX5_readOne_86 ?_
          rintro ⟨F4, hs4, G4, T4⟩ hu4
          have hv4 := hu4
          cases hv4
          refine zz_world (P' := (DP D C K (upd F 32 (nI (j + 1))) (WH hs) (va_up (va_up (va_up G 40 (upd (G 40) j (nI (kd (tc (G 3) tn) tn p0)))) 41 (upd (G 41) j (nI 0))) 42 (upd (G 42) j (nI p0))) T)) (fun _ h => h) ?_
          refine zz_iconst 89 X.1 (v := nI 1) dX5_readOne_89 rfl ?_
          rw [← hQ]
          refine zz_iret 90 X.1 hr rfl hlk (upd F 32 (nI (j + 1)), hs, va_up (va_up (va_up G 40 (upd (G 40) j (nI (kd (tc (G 3) tn) tn p0)))) 41 (upd (G 41) j (nI 0))) 42 (upd (G 42) j (nI p0)), T) ?_ (fun _ h _ => h) dX5_readOne_90
          refine ⟨(nI 0), ?_, rfl, fun hk => ?_⟩
          · exact congrArg nI (kd_oth hp h10 (by omega) h76 (by omega)).2.1.symm
          · exfalso; have h3 := (kd_oth (t := (tc (G 3) tn)) hp h10 (by omega) h76 (by omega)).1; omega
        · skip
          refine zz_iload_n 79 X.1 0 dX5_readOne_79 rfl ?_
          refine zz_topi (nI (kd (tc (G 3) tn) tn p0)) (congrArg nI (show (tc (G 3) tn) p0 = kd (tc (G 3) tn) tn p0 from (kd_sg hp h76).1.symm)) ?_
          refine zz_goto 80 84 X.1 dX5_readOne_80 (by decide) ?_
          refine zz_iconst 84 X.1 (v := nI 0) dX5_readOne_84 rfl ?_
          refine zz_iload_n 85 X.1 3 dX5_readOne_85 rfl ?_
          refine dd_callVv 86 X hml (th := 5) (As := [.int (nI (kd (tc (G 3) tn) tn p0)), .int (nI 0), .int (nI p0)]) (kt_X5_keep l D C K hAp F hs G T (kd (tc (G 3) tn) tn p0) 0 p0 j (h32) (by first | rfl | assumption | omega)) gX5_readOne_X5_keep rfl ⟨rfl, rfl⟩ (dr_5 X) yd_X5_keep ⟨Nat.le_of_ble_eq_true rfl, Nat.le_of_ble_eq_true rfl⟩ rfl rfl (Nat.le_of_ble_eq_true rfl) ⟨Nat.zero_le _, Nat.zero_le _⟩ dX5_readOne_86 ?_
          rintro ⟨F5, hs5, G5, T5⟩ hu5
          have hv5 := hu5
          cases hv5
          refine zz_world (P' := (DP D C K (upd F 32 (nI (j + 1))) (WH hs) (va_up (va_up (va_up G 40 (upd (G 40) j (nI (kd (tc (G 3) tn) tn p0)))) 41 (upd (G 41) j (nI 0))) 42 (upd (G 42) j (nI p0))) T)) (fun _ h => h) ?_
          refine zz_iconst 89 X.1 (v := nI 1) dX5_readOne_89 rfl ?_
          rw [← hQ]
          refine zz_iret 90 X.1 hr rfl hlk (upd F 32 (nI (j + 1)), hs, va_up (va_up (va_up G 40 (upd (G 40) j (nI (kd (tc (G 3) tn) tn p0)))) 41 (upd (G 41) j (nI 0))) 42 (upd (G 42) j (nI p0)), T) ?_ (fun _ h _ => h) dX5_readOne_90
          refine ⟨(nI 0), ?_, rfl, fun hk => ?_⟩
          · exact congrArg nI (kd_sg hp h76).2.1.symm
          · exfalso; have h3 := (kd_sg (t := (tc (G 3) tn)) hp h76).1; have h4 := sg_pos h76; omega
      · skip
        refine zz_aload_n 50 X.1 2 dX5_readOne_50 rfl ?_
        refine zz_iload_n 51 X.1 3 dX5_readOne_51 rfl ?_
        refine zz_iconst 52 X.1 (v := nI 1) dX5_readOne_52 rfl ?_
        refine zz_iadd 53 X.1 (v := (nI (p0 + 1))) dX5_readOne_53 (nI_add _ _) ?_
        refine dd_callVi 54 X hml (th := 2) (As := [.int (nI (p0 + 1))]) (kt_X3_sign l D C K hAp F hs G T (p0 + 1) tn (by first | rfl | assumption | omega) (hT) (by first | rfl | assumption | omega) (by first | rfl | assumption | omega)) gX5_readOne_X3_sign rfl ⟨rfl, rfl⟩ (dr_2 X) yd_X3_sign ⟨Nat.le_of_ble_eq_true rfl, Nat.le_of_ble_eq_true rfl⟩ rfl rfl (Nat.le_of_ble_eq_true rfl) ⟨Nat.zero_le _, Nat.zero_le _⟩ dX5_readOne_54 ?_
        rintro r6 ⟨F6, hs6, G6, T6⟩ hu6
        obtain ⟨rfl, hv6⟩ := hu6
        cases hv6
        refine zz_world (P' := (DP D C K F (WH hs) G T)) (fun _ h => h) ?_
        refine zz_bipush 57 X.1 (v := nI 46) dX5_readOne_57 rfl ?_
        refine zz_icmp_ne 59 71 X.1 (nI_toInt (by omega)) (nI_toInt (by omega)) dX5_readOne_59 (by decide) (fun h59 => ?_) (fun h59 => ?_)
        · skip
          refine zz_aload_n 71 X.1 1 dX5_readOne_71 rfl ?_
          refine zz_iload_n 72 X.1 0 dX5_readOne_72 rfl ?_
          refine zz_callSAi 73 hB ⟨X.1.1, X.1.2, hml, X.2.2.1, X.2.1⟩ (fun q h => Or.inr h) DP_keep (As := [.int (nI (tc (G 3) tn p0))]) (kt_X5_isSign l adK adV (tc (G 3) tn p0) (by omega)) gX5_readOne_X5_isSign rfl ⟨rfl, rfl⟩ yd_X5_isSign.2 ⟨Nat.le_of_ble_eq_true rfl, Nat.le_of_ble_eq_true rfl⟩ rfl rfl (Nat.le_of_ble_eq_true rfl) ⟨Nat.zero_le _, Nat.zero_le _⟩ dX5_readOne_73 ?_
          rintro r7 hu7
          obtain rfl := hu7
          refine zz_ifB_eq 76 83 X.1 dX5_readOne_76 (by decide) (fun h76 => ?_) (fun h76 => ?_)
          · skip
            refine zz_iconst 83 X.1 (v := nI 1) dX5_readOne_83 rfl ?_
            refine zz_topi (nI (kd (tc (G 3) tn) tn p0)) (congrArg nI (show 1 = kd (tc (G 3) tn) tn p0 from (kd_oth hp h10 (by omega) h76 (by omega)).1.symm)) ?_
            refine zz_iconst 84 X.1 (v := nI 0) dX5_readOne_84 rfl ?_
            refine zz_iload_n 85 X.1 3 dX5_readOne_85 rfl ?_
            refine dd_callVv 86 X hml (th := 5) (As := [.int (nI (kd (tc (G 3) tn) tn p0)), .int (nI 0), .int (nI p0)]) (kt_X5_keep l D C K hAp F hs G T (kd (tc (G 3) tn) tn p0) 0 p0 j (h32) (by first | rfl | assumption | omega)) gX5_readOne_X5_keep rfl ⟨rfl, rfl⟩ (dr_5 X) yd_X5_keep ⟨Nat.le_of_ble_eq_true rfl, Nat.le_of_ble_eq_true rfl⟩ rfl rfl (Nat.le_of_ble_eq_true rfl) ⟨Nat.zero_le _, Nat.zero_le _⟩ dX5_readOne_86 ?_
            rintro ⟨F8, hs8, G8, T8⟩ hu8
            have hv8 := hu8
            cases hv8
            refine zz_world (P' := (DP D C K (upd F 32 (nI (j + 1))) (WH hs) (va_up (va_up (va_up G 40 (upd (G 40) j (nI (kd (tc (G 3) tn) tn p0)))) 41 (upd (G 41) j (nI 0))) 42 (upd (G 42) j (nI p0))) T)) (fun _ h => h) ?_
            refine zz_iconst 89 X.1 (v := nI 1) dX5_readOne_89 rfl ?_
            rw [← hQ]
            refine zz_iret 90 X.1 hr rfl hlk (upd F 32 (nI (j + 1)), hs, va_up (va_up (va_up G 40 (upd (G 40) j (nI (kd (tc (G 3) tn) tn p0)))) 41 (upd (G 41) j (nI 0))) 42 (upd (G 42) j (nI p0)), T) ?_ (fun _ h _ => h) dX5_readOne_90
            refine ⟨(nI 0), ?_, rfl, fun hk => ?_⟩
            · exact congrArg nI (kd_oth hp h10 (by omega) h76 (by omega)).2.1.symm
            · exfalso; have h3 := (kd_oth (t := (tc (G 3) tn)) hp h10 (by omega) h76 (by omega)).1; omega
          · skip
            refine zz_iload_n 79 X.1 0 dX5_readOne_79 rfl ?_
            refine zz_topi (nI (kd (tc (G 3) tn) tn p0)) (congrArg nI (show (tc (G 3) tn) p0 = kd (tc (G 3) tn) tn p0 from (kd_sg hp h76).1.symm)) ?_
            refine zz_goto 80 84 X.1 dX5_readOne_80 (by decide) ?_
            refine zz_iconst 84 X.1 (v := nI 0) dX5_readOne_84 rfl ?_
            refine zz_iload_n 85 X.1 3 dX5_readOne_85 rfl ?_
            refine dd_callVv 86 X hml (th := 5) (As := [.int (nI (kd (tc (G 3) tn) tn p0)), .int (nI 0), .int (nI p0)]) (kt_X5_keep l D C K hAp F hs G T (kd (tc (G 3) tn) tn p0) 0 p0 j (h32) (by first | rfl | assumption | omega)) gX5_readOne_X5_keep rfl ⟨rfl, rfl⟩ (dr_5 X) yd_X5_keep ⟨Nat.le_of_ble_eq_true rfl, Nat.le_of_ble_eq_true rfl⟩ rfl rfl (Nat.le_of_ble_eq_true rfl) ⟨Nat.zero_le _, Nat.zero_le _⟩ dX5_readOne_86 ?_
            rintro ⟨F9, hs9, G9, T9⟩ hu9
            have hv9 := hu9
            cases hv9
            refine zz_world (P' := (DP D C K (upd F 32 (nI (j + 1))) (WH hs) (va_up (va_up (va_up G 40 (upd (G 40) j (nI (kd (tc (G 3) tn) tn p0)))) 41 (upd (G 41) j (nI 0))) 42 (upd (G 42) j (nI p0))) T)) (fun _ h => h) ?_
            refine zz_iconst 89 X.1 (v := nI 1) dX5_readOne_89 rfl ?_
            rw [← hQ]
            refine zz_iret 90 X.1 hr rfl hlk (upd F 32 (nI (j + 1)), hs, va_up (va_up (va_up G 40 (upd (G 40) j (nI (kd (tc (G 3) tn) tn p0)))) 41 (upd (G 41) j (nI 0))) 42 (upd (G 42) j (nI p0)), T) ?_ (fun _ h _ => h) dX5_readOne_90
            refine ⟨(nI 0), ?_, rfl, fun hk => ?_⟩
            · exact congrArg nI (kd_sg hp h76).2.1.symm
            · exfalso; have h3 := (kd_sg (t := (tc (G 3) tn)) hp h76).1; have h4 := sg_pos h76; omega
        · skip
          refine zz_aload_n 62 X.1 1 dX5_readOne_62 rfl ?_
          refine zz_iconst 63 X.1 (v := nI 4) dX5_readOne_63 rfl ?_
          refine zz_topi (nI (kd (tc (G 3) tn) tn p0)) (congrArg nI (show 4 = kd (tc (G 3) tn) tn p0 from (kd_pts hp (by omega) (by omega)).1.symm)) ?_
          refine zz_iconst 64 X.1 (v := nI 0) dX5_readOne_64 rfl ?_
          refine zz_iload_n 65 X.1 3 dX5_readOne_65 rfl ?_
          refine dd_callVv 66 X hml (th := 5) (As := [.int (nI (kd (tc (G 3) tn) tn p0)), .int (nI 0), .int (nI p0)]) (kt_X5_keep l D C K hAp F hs G T (kd (tc (G 3) tn) tn p0) 0 p0 j (h32) (by first | rfl | assumption | omega)) gX5_readOne_X5_keep rfl ⟨rfl, rfl⟩ (dr_5 X) yd_X5_keep ⟨Nat.le_of_ble_eq_true rfl, Nat.le_of_ble_eq_true rfl⟩ rfl rfl (Nat.le_of_ble_eq_true rfl) ⟨Nat.zero_le _, Nat.zero_le _⟩ dX5_readOne_66 ?_
          rintro ⟨F10, hs10, G10, T10⟩ hu10
          have hv10 := hu10
          cases hv10
          refine zz_world (P' := (DP D C K (upd F 32 (nI (j + 1))) (WH hs) (va_up (va_up (va_up G 40 (upd (G 40) j (nI (kd (tc (G 3) tn) tn p0)))) 41 (upd (G 41) j (nI 0))) 42 (upd (G 42) j (nI p0))) T)) (fun _ h => h) ?_
          refine zz_iconst 69 X.1 (v := nI 2) dX5_readOne_69 rfl ?_
          rw [← hQ]
          refine zz_iret 70 X.1 hr rfl hlk (upd F 32 (nI (j + 1)), hs, va_up (va_up (va_up G 40 (upd (G 40) j (nI (kd (tc (G 3) tn) tn p0)))) 41 (upd (G 41) j (nI 0))) 42 (upd (G 42) j (nI p0)), T) ?_ (fun _ h _ => h) dX5_readOne_70
          refine ⟨(nI 0), ?_, rfl, fun hk => ?_⟩
          · exact congrArg nI (kd_pts hp (by omega) (by omega)).2.1.symm
          · exfalso; have h3 := (kd_pts (t := (tc (G 3) tn)) hp (by omega) (by omega)).1; omega
    · skip
      refine zz_iload_n 26 X.1 0 dX5_readOne_26 rfl ?_
      refine zz_bipush 27 X.1 (v := nI 104) dX5_readOne_27 rfl ?_
      refine zz_icmp_gt 29 44 X.1 (nI_toInt (by omega)) (nI_toInt (by omega)) dX5_readOne_29 (by decide) (fun h29 => ?_) (fun h29 => ?_)
      · skip
        refine zz_iload_n 44 X.1 0 dX5_readOne_44 rfl ?_
        refine zz_bipush 45 X.1 (v := nI 46) dX5_readOne_45 rfl ?_
        refine zz_icmp_ne 47 71 X.1 (nI_toInt (by omega)) (nI_toInt (by omega)) dX5_readOne_47 (by decide) (fun h47 => ?_) (fun h47 => ?_)
        · skip
          refine zz_aload_n 71 X.1 1 dX5_readOne_71 rfl ?_
          refine zz_iload_n 72 X.1 0 dX5_readOne_72 rfl ?_
          refine zz_callSAi 73 hB ⟨X.1.1, X.1.2, hml, X.2.2.1, X.2.1⟩ (fun q h => Or.inr h) DP_keep (As := [.int (nI (tc (G 3) tn p0))]) (kt_X5_isSign l adK adV (tc (G 3) tn p0) (by omega)) gX5_readOne_X5_isSign rfl ⟨rfl, rfl⟩ yd_X5_isSign.2 ⟨Nat.le_of_ble_eq_true rfl, Nat.le_of_ble_eq_true rfl⟩ rfl rfl (Nat.le_of_ble_eq_true rfl) ⟨Nat.zero_le _, Nat.zero_le _⟩ dX5_readOne_73 ?_
          rintro r11 hu11
          obtain rfl := hu11
          refine zz_ifB_eq 76 83 X.1 dX5_readOne_76 (by decide) (fun h76 => ?_) (fun h76 => ?_)
          · skip
            refine zz_iconst 83 X.1 (v := nI 1) dX5_readOne_83 rfl ?_
            refine zz_topi (nI (kd (tc (G 3) tn) tn p0)) (congrArg nI (show 1 = kd (tc (G 3) tn) tn p0 from (kd_oth hp h10 (by omega) h76 (by omega)).1.symm)) ?_
            refine zz_iconst 84 X.1 (v := nI 0) dX5_readOne_84 rfl ?_
            refine zz_iload_n 85 X.1 3 dX5_readOne_85 rfl ?_
            refine dd_callVv 86 X hml (th := 5) (As := [.int (nI (kd (tc (G 3) tn) tn p0)), .int (nI 0), .int (nI p0)]) (kt_X5_keep l D C K hAp F hs G T (kd (tc (G 3) tn) tn p0) 0 p0 j (h32) (by first | rfl | assumption | omega)) gX5_readOne_X5_keep rfl ⟨rfl, rfl⟩ (dr_5 X) yd_X5_keep ⟨Nat.le_of_ble_eq_true rfl, Nat.le_of_ble_eq_true rfl⟩ rfl rfl (Nat.le_of_ble_eq_true rfl) ⟨Nat.zero_le _, Nat.zero_le _⟩ dX5_readOne_86 ?_
            rintro ⟨F12, hs12, G12, T12⟩ hu12
            have hv12 := hu12
            cases hv12
            refine zz_world (P' := (DP D C K (upd F 32 (nI (j + 1))) (WH hs) (va_up (va_up (va_up G 40 (upd (G 40) j (nI (kd (tc (G 3) tn) tn p0)))) 41 (upd (G 41) j (nI 0))) 42 (upd (G 42) j (nI p0))) T)) (fun _ h => h) ?_
            refine zz_iconst 89 X.1 (v := nI 1) dX5_readOne_89 rfl ?_
            rw [← hQ]
            refine zz_iret 90 X.1 hr rfl hlk (upd F 32 (nI (j + 1)), hs, va_up (va_up (va_up G 40 (upd (G 40) j (nI (kd (tc (G 3) tn) tn p0)))) 41 (upd (G 41) j (nI 0))) 42 (upd (G 42) j (nI p0)), T) ?_ (fun _ h _ => h) dX5_readOne_90
            refine ⟨(nI 0), ?_, rfl, fun hk => ?_⟩
            · exact congrArg nI (kd_oth hp h10 (by omega) h76 (by omega)).2.1.symm
            · exfalso; have h3 := (kd_oth (t := (tc (G 3) tn)) hp h10 (by omega) h76 (by omega)).1; omega
          · skip
            refine zz_iload_n 79 X.1 0 dX5_readOne_79 rfl ?_
            refine zz_topi (nI (kd (tc (G 3) tn) tn p0)) (congrArg nI (show (tc (G 3) tn) p0 = kd (tc (G 3) tn) tn p0 from (kd_sg hp h76).1.symm)) ?_
            refine zz_goto 80 84 X.1 dX5_readOne_80 (by decide) ?_
            refine zz_iconst 84 X.1 (v := nI 0) dX5_readOne_84 rfl ?_
            refine zz_iload_n 85 X.1 3 dX5_readOne_85 rfl ?_
            refine dd_callVv 86 X hml (th := 5) (As := [.int (nI (kd (tc (G 3) tn) tn p0)), .int (nI 0), .int (nI p0)]) (kt_X5_keep l D C K hAp F hs G T (kd (tc (G 3) tn) tn p0) 0 p0 j (h32) (by first | rfl | assumption | omega)) gX5_readOne_X5_keep rfl ⟨rfl, rfl⟩ (dr_5 X) yd_X5_keep ⟨Nat.le_of_ble_eq_true rfl, Nat.le_of_ble_eq_true rfl⟩ rfl rfl (Nat.le_of_ble_eq_true rfl) ⟨Nat.zero_le _, Nat.zero_le _⟩ dX5_readOne_86 ?_
            rintro ⟨F13, hs13, G13, T13⟩ hu13
            have hv13 := hu13
            cases hv13
            refine zz_world (P' := (DP D C K (upd F 32 (nI (j + 1))) (WH hs) (va_up (va_up (va_up G 40 (upd (G 40) j (nI (kd (tc (G 3) tn) tn p0)))) 41 (upd (G 41) j (nI 0))) 42 (upd (G 42) j (nI p0))) T)) (fun _ h => h) ?_
            refine zz_iconst 89 X.1 (v := nI 1) dX5_readOne_89 rfl ?_
            rw [← hQ]
            refine zz_iret 90 X.1 hr rfl hlk (upd F 32 (nI (j + 1)), hs, va_up (va_up (va_up G 40 (upd (G 40) j (nI (kd (tc (G 3) tn) tn p0)))) 41 (upd (G 41) j (nI 0))) 42 (upd (G 42) j (nI p0)), T) ?_ (fun _ h _ => h) dX5_readOne_90
            refine ⟨(nI 0), ?_, rfl, fun hk => ?_⟩
            · exact congrArg nI (kd_sg hp h76).2.1.symm
            · exfalso; have h3 := (kd_sg (t := (tc (G 3) tn)) hp h76).1; have h4 := sg_pos h76; omega
        · skip
          refine zz_aload_n 50 X.1 2 dX5_readOne_50 rfl ?_
          refine zz_iload_n 51 X.1 3 dX5_readOne_51 rfl ?_
          refine zz_iconst 52 X.1 (v := nI 1) dX5_readOne_52 rfl ?_
          refine zz_iadd 53 X.1 (v := (nI (p0 + 1))) dX5_readOne_53 (nI_add _ _) ?_
          refine dd_callVi 54 X hml (th := 2) (As := [.int (nI (p0 + 1))]) (kt_X3_sign l D C K hAp F hs G T (p0 + 1) tn (by first | rfl | assumption | omega) (hT) (by first | rfl | assumption | omega) (by first | rfl | assumption | omega)) gX5_readOne_X3_sign rfl ⟨rfl, rfl⟩ (dr_2 X) yd_X3_sign ⟨Nat.le_of_ble_eq_true rfl, Nat.le_of_ble_eq_true rfl⟩ rfl rfl (Nat.le_of_ble_eq_true rfl) ⟨Nat.zero_le _, Nat.zero_le _⟩ dX5_readOne_54 ?_
          rintro r14 ⟨F14, hs14, G14, T14⟩ hu14
          obtain ⟨rfl, hv14⟩ := hu14
          cases hv14
          refine zz_world (P' := (DP D C K F (WH hs) G T)) (fun _ h => h) ?_
          refine zz_bipush 57 X.1 (v := nI 46) dX5_readOne_57 rfl ?_
          refine zz_icmp_ne 59 71 X.1 (nI_toInt (by omega)) (nI_toInt (by omega)) dX5_readOne_59 (by decide) (fun h59 => ?_) (fun h59 => ?_)
          · skip
            refine zz_aload_n 71 X.1 1 dX5_readOne_71 rfl ?_
            refine zz_iload_n 72 X.1 0 dX5_readOne_72 rfl ?_
            refine zz_callSAi 73 hB ⟨X.1.1, X.1.2, hml, X.2.2.1, X.2.1⟩ (fun q h => Or.inr h) DP_keep (As := [.int (nI (tc (G 3) tn p0))]) (kt_X5_isSign l adK adV (tc (G 3) tn p0) (by omega)) gX5_readOne_X5_isSign rfl ⟨rfl, rfl⟩ yd_X5_isSign.2 ⟨Nat.le_of_ble_eq_true rfl, Nat.le_of_ble_eq_true rfl⟩ rfl rfl (Nat.le_of_ble_eq_true rfl) ⟨Nat.zero_le _, Nat.zero_le _⟩ dX5_readOne_73 ?_
            rintro r15 hu15
            obtain rfl := hu15
            refine zz_ifB_eq 76 83 X.1 dX5_readOne_76 (by decide) (fun h76 => ?_) (fun h76 => ?_)
            · skip
              refine zz_iconst 83 X.1 (v := nI 1) dX5_readOne_83 rfl ?_
              refine zz_topi (nI (kd (tc (G 3) tn) tn p0)) (congrArg nI (show 1 = kd (tc (G 3) tn) tn p0 from (kd_oth hp h10 (by omega) h76 (by omega)).1.symm)) ?_
              refine zz_iconst 84 X.1 (v := nI 0) dX5_readOne_84 rfl ?_
              refine zz_iload_n 85 X.1 3 dX5_readOne_85 rfl ?_
              refine dd_callVv 86 X hml (th := 5) (As := [.int (nI (kd (tc (G 3) tn) tn p0)), .int (nI 0), .int (nI p0)]) (kt_X5_keep l D C K hAp F hs G T (kd (tc (G 3) tn) tn p0) 0 p0 j (h32) (by first | rfl | assumption | omega)) gX5_readOne_X5_keep rfl ⟨rfl, rfl⟩ (dr_5 X) yd_X5_keep ⟨Nat.le_of_ble_eq_true rfl, Nat.le_of_ble_eq_true rfl⟩ rfl rfl (Nat.le_of_ble_eq_true rfl) ⟨Nat.zero_le _, Nat.zero_le _⟩ dX5_readOne_86 ?_
              rintro ⟨F16, hs16, G16, T16⟩ hu16
              have hv16 := hu16
              cases hv16
              refine zz_world (P' := (DP D C K (upd F 32 (nI (j + 1))) (WH hs) (va_up (va_up (va_up G 40 (upd (G 40) j (nI (kd (tc (G 3) tn) tn p0)))) 41 (upd (G 41) j (nI 0))) 42 (upd (G 42) j (nI p0))) T)) (fun _ h => h) ?_
              refine zz_iconst 89 X.1 (v := nI 1) dX5_readOne_89 rfl ?_
              rw [← hQ]
              refine zz_iret 90 X.1 hr rfl hlk (upd F 32 (nI (j + 1)), hs, va_up (va_up (va_up G 40 (upd (G 40) j (nI (kd (tc (G 3) tn) tn p0)))) 41 (upd (G 41) j (nI 0))) 42 (upd (G 42) j (nI p0)), T) ?_ (fun _ h _ => h) dX5_readOne_90
              refine ⟨(nI 0), ?_, rfl, fun hk => ?_⟩
              · exact congrArg nI (kd_oth hp h10 (by omega) h76 (by omega)).2.1.symm
              · exfalso; have h3 := (kd_oth (t := (tc (G 3) tn)) hp h10 (by omega) h76 (by omega)).1; omega
            · skip
              refine zz_iload_n 79 X.1 0 dX5_readOne_79 rfl ?_
              refine zz_topi (nI (kd (tc (G 3) tn) tn p0)) (congrArg nI (show (tc (G 3) tn) p0 = kd (tc (G 3) tn) tn p0 from (kd_sg hp h76).1.symm)) ?_
              refine zz_goto 80 84 X.1 dX5_readOne_80 (by decide) ?_
              refine zz_iconst 84 X.1 (v := nI 0) dX5_readOne_84 rfl ?_
              refine zz_iload_n 85 X.1 3 dX5_readOne_85 rfl ?_
              refine dd_callVv 86 X hml (th := 5) (As := [.int (nI (kd (tc (G 3) tn) tn p0)), .int (nI 0), .int (nI p0)]) (kt_X5_keep l D C K hAp F hs G T (kd (tc (G 3) tn) tn p0) 0 p0 j (h32) (by first | rfl | assumption | omega)) gX5_readOne_X5_keep rfl ⟨rfl, rfl⟩ (dr_5 X) yd_X5_keep ⟨Nat.le_of_ble_eq_true rfl, Nat.le_of_ble_eq_true rfl⟩ rfl rfl (Nat.le_of_ble_eq_true rfl) ⟨Nat.zero_le _, Nat.zero_le _⟩ dX5_readOne_86 ?_
              rintro ⟨F17, hs17, G17, T17⟩ hu17
              have hv17 := hu17
              cases hv17
              refine zz_world (P' := (DP D C K (upd F 32 (nI (j + 1))) (WH hs) (va_up (va_up (va_up G 40 (upd (G 40) j (nI (kd (tc (G 3) tn) tn p0)))) 41 (upd (G 41) j (nI 0))) 42 (upd (G 42) j (nI p0))) T)) (fun _ h => h) ?_
              refine zz_iconst 89 X.1 (v := nI 1) dX5_readOne_89 rfl ?_
              rw [← hQ]
              refine zz_iret 90 X.1 hr rfl hlk (upd F 32 (nI (j + 1)), hs, va_up (va_up (va_up G 40 (upd (G 40) j (nI (kd (tc (G 3) tn) tn p0)))) 41 (upd (G 41) j (nI 0))) 42 (upd (G 42) j (nI p0)), T) ?_ (fun _ h _ => h) dX5_readOne_90
              refine ⟨(nI 0), ?_, rfl, fun hk => ?_⟩
              · exact congrArg nI (kd_sg hp h76).2.1.symm
              · exfalso; have h3 := (kd_sg (t := (tc (G 3) tn)) hp h76).1; have h4 := sg_pos h76; omega
          · skip
            refine zz_aload_n 62 X.1 1 dX5_readOne_62 rfl ?_
            refine zz_iconst 63 X.1 (v := nI 4) dX5_readOne_63 rfl ?_
            refine zz_topi (nI (kd (tc (G 3) tn) tn p0)) (congrArg nI (show 4 = kd (tc (G 3) tn) tn p0 from (kd_pts hp (by omega) (by omega)).1.symm)) ?_
            refine zz_iconst 64 X.1 (v := nI 0) dX5_readOne_64 rfl ?_
            refine zz_iload_n 65 X.1 3 dX5_readOne_65 rfl ?_
            refine dd_callVv 66 X hml (th := 5) (As := [.int (nI (kd (tc (G 3) tn) tn p0)), .int (nI 0), .int (nI p0)]) (kt_X5_keep l D C K hAp F hs G T (kd (tc (G 3) tn) tn p0) 0 p0 j (h32) (by first | rfl | assumption | omega)) gX5_readOne_X5_keep rfl ⟨rfl, rfl⟩ (dr_5 X) yd_X5_keep ⟨Nat.le_of_ble_eq_true rfl, Nat.le_of_ble_eq_true rfl⟩ rfl rfl (Nat.le_of_ble_eq_true rfl) ⟨Nat.zero_le _, Nat.zero_le _⟩ dX5_readOne_66 ?_
            rintro ⟨F18, hs18, G18, T18⟩ hu18
            have hv18 := hu18
            cases hv18
            refine zz_world (P' := (DP D C K (upd F 32 (nI (j + 1))) (WH hs) (va_up (va_up (va_up G 40 (upd (G 40) j (nI (kd (tc (G 3) tn) tn p0)))) 41 (upd (G 41) j (nI 0))) 42 (upd (G 42) j (nI p0))) T)) (fun _ h => h) ?_
            refine zz_iconst 69 X.1 (v := nI 2) dX5_readOne_69 rfl ?_
            rw [← hQ]
            refine zz_iret 70 X.1 hr rfl hlk (upd F 32 (nI (j + 1)), hs, va_up (va_up (va_up G 40 (upd (G 40) j (nI (kd (tc (G 3) tn) tn p0)))) 41 (upd (G 41) j (nI 0))) 42 (upd (G 42) j (nI p0)), T) ?_ (fun _ h _ => h) dX5_readOne_70
            refine ⟨(nI 0), ?_, rfl, fun hk => ?_⟩
            · exact congrArg nI (kd_pts hp (by omega) (by omega)).2.1.symm
            · exfalso; have h3 := (kd_pts (t := (tc (G 3) tn)) hp (by omega) (by omega)).1; omega
      · skip
        refine zz_aload_n 32 X.1 1 dX5_readOne_32 rfl ?_
        refine zz_iconst 33 X.1 (v := nI 2) dX5_readOne_33 rfl ?_
        refine zz_topi (nI (kd (tc (G 3) tn) tn p0)) (congrArg nI (show 2 = kd (tc (G 3) tn) tn p0 from (kd_set hp h10 (by omega)).1.symm)) ?_
        refine zz_iload_n 34 X.1 0 dX5_readOne_34 rfl ?_
        refine zz_bipush 35 X.1 (v := nI 97) dX5_readOne_35 rfl ?_
        refine zz_isub 37 X.1 (v := (nI ((tc (G 3) tn p0) - 97))) dX5_readOne_37 (pk_sub (by omega)) ?_
        refine zz_iload_n 38 X.1 3 dX5_readOne_38 rfl ?_
        refine dd_callVv 39 X hml (th := 5) (As := [.int (nI (kd (tc (G 3) tn) tn p0)), .int (nI ((tc (G 3) tn p0) - 97)), .int (nI p0)]) (kt_X5_keep l D C K hAp F hs G T (kd (tc (G 3) tn) tn p0) ((tc (G 3) tn p0) - 97) p0 j (h32) (by first | rfl | assumption | omega)) gX5_readOne_X5_keep rfl ⟨rfl, rfl⟩ (dr_5 X) yd_X5_keep ⟨Nat.le_of_ble_eq_true rfl, Nat.le_of_ble_eq_true rfl⟩ rfl rfl (Nat.le_of_ble_eq_true rfl) ⟨Nat.zero_le _, Nat.zero_le _⟩ dX5_readOne_39 ?_
        rintro ⟨F19, hs19, G19, T19⟩ hu19
        have hv19 := hu19
        cases hv19
        refine zz_world (P' := (DP D C K (upd F 32 (nI (j + 1))) (WH hs) (va_up (va_up (va_up G 40 (upd (G 40) j (nI (kd (tc (G 3) tn) tn p0)))) 41 (upd (G 41) j (nI ((tc (G 3) tn p0) - 97)))) 42 (upd (G 42) j (nI p0))) T)) (fun _ h => h) ?_
        refine zz_iconst 42 X.1 (v := nI 1) dX5_readOne_42 rfl ?_
        rw [← hQ]
        refine zz_iret 43 X.1 hr rfl hlk (upd F 32 (nI (j + 1)), hs, va_up (va_up (va_up G 40 (upd (G 40) j (nI (kd (tc (G 3) tn) tn p0)))) 41 (upd (G 41) j (nI ((tc (G 3) tn p0) - 97)))) 42 (upd (G 42) j (nI p0)), T) ?_ (fun _ h _ => h) dX5_readOne_43
        refine ⟨(nI ((tc (G 3) tn p0) - 97)), ?_, rfl, fun hk => ?_⟩
        · exact congrArg nI (kd_set hp h10 (by omega)).2.1.symm
        · unfold vl; rw [if_neg (by rw [h10]; decide)]
  · skip
    refine zz_aload_n 13 X.1 1 dX5_readOne_13 rfl ?_
    refine zz_aload_n 14 X.1 2 dX5_readOne_14 rfl ?_
    refine zz_iload_n 15 X.1 3 dX5_readOne_15 rfl ?_
    refine dd_callVi 16 X hml (th := 5) (As := [.ref (K 2), .int (nI p0)]) (kt_X5_readNumber l D C K hAp F hs G T p0 tn j (hT) (by first | rfl | assumption | omega) (by first | rfl | assumption | omega) (h32) (by first | rfl | assumption | omega) (by first | rfl | assumption | omega) (by first | rfl | assumption | omega) (by first | rfl | assumption | omega)) gX5_readOne_X5_readNumber rfl ⟨rfl, rfl⟩ (dr_5 X) yd_X5_readNumber ⟨Nat.le_of_ble_eq_true rfl, Nat.le_of_ble_eq_true rfl⟩ rfl rfl (Nat.le_of_ble_eq_true rfl) ⟨Nat.zero_le _, Nat.zero_le _⟩ dX5_readOne_16 ?_
    rintro r20 ⟨F20, hs20, G20, T20⟩ hu20
    obtain ⟨rfl, hv20⟩ := hu20
    cases hv20
    refine zz_world (P' := (DP D C K (upd F 32 (nI (j + 1))) (WH hs) (va_up (va_up (va_up G 40 (upd (G 40) j (nI (kd (tc (G 3) tn) tn p0)))) 41 (upd (G 41) j (nI (min (nv (tc (G 3) tn) p0 (dr (tc (G 3) tn) tn p0)) 1024)))) 42 (upd (G 42) j (nI p0))) T)) (fun _ h => h) ?_
    rw [← hQ]
    refine zz_iret 19 X.1 hr rfl hlk (upd F 32 (nI (j + 1)), hs, va_up (va_up (va_up G 40 (upd (G 40) j (nI (kd (tc (G 3) tn) tn p0)))) 41 (upd (G 41) j (nI (min (nv (tc (G 3) tn) p0 (dr (tc (G 3) tn) tn p0)) 1024)))) 42 (upd (G 42) j (nI p0)), T) ?_ (fun _ h _ => h) dX5_readOne_19
    refine ⟨(nI (min (nv (tc (G 3) tn) p0 (dr (tc (G 3) tn) tn p0)) 1024)), ?_, rfl, fun hk => ?_⟩
    · exact congrArg nI (kd_dig hp h10).2.1.symm
    · have h3 := (kd_dig hp h10).1
      have h4 : dr (tc (G 3) tn) tn p0 ≤ 4 ∧ nv (tc (G 3) tn) p0 (dr (tc (G 3) tn) tn p0) < 1024 := by
        by_cases z : dr (tc (G 3) tn) tn p0 ≤ 4 ∧ nv (tc (G 3) tn) p0 (dr (tc (G 3) tn) tn p0) < 1024
        · exact z
        · rw [if_neg z] at h3; omega
      unfold vl
      rw [if_pos h10]
      exact congrArg nI (by omega)
