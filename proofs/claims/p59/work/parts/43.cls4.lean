/-! The tape and the text. -/
theorem nb_3 (v : Int32) : ct (fun k => by8 v (3 - k) != 0) 4 = nb v := by
  rw [nb_eq]
  show 0 + (if by8 v 3 != 0 then 1 else 0) + (if by8 v 2 != 0 then 1 else 0) + (if by8 v 1 != 0 then 1 else 0) + (if by8 v 0 != 0 then 1 else 0) = _
  omega
theorem zc_i2c {x : Nat} (h : x < 65536) : ((nI x).toUInt32 % 65536).toInt32 = nI x := by
  rw [pk_char]
  congr 1
  show (Int32.ofNat x).toBitVec.toNat % 65536 = x
  rw [Int32.toBitVec_ofNat', BitVec.toNat_ofNat]
  omega
theorem zc_nar {x : Nat} (h : x < 65536) : narrow .char (.int (nI x)) = .int (nI x) := by
  exact (pk_charN h).1
theorem wS_3 {q : Nat → Bool} {g : Nat → Int32} : ∀ n, (wS q n (g, 1)).2 = 1 ∨ (wS q n (g, 1)).2 + 2 ≤ wB n
  | 0 => Or.inl rfl
  | n + 1 => by
    have ih := wS_3 (q := q) (g := g) n
    have h1 := wS_1 (q := q) (g := g) n
    have hb : wB n + 2 + dgs n = wB (n + 1) := by
      unfold wB dgs
      split
      · omega
      · split
        · omega
        · split <;> omega
    unfold wS
    split
    · right
      unfold wM
      rw [wN_2]
      split
      · simp only [w1]; omega
      · have : wB n ≥ 1 := by unfold wB; omega
        omega
    · rcases ih with z | z
      · exact Or.inl z
      · exact Or.inr (by omega)
theorem wS_ln {q : Nat → Bool} {x : (Nat → Int32) × Nat} : wS q (ln q 1024) x = wS q 1024 x := by
  have key : ∀ n, ln q 1024 ≤ n → n ≤ 1024 → wS q n x = wS q (ln q 1024) x := by
    intro n
    induction n with
    | zero => intro h _; rw [Nat.le_zero.mp h]
    | succ n ih =>
      intro h1 h2
      rcases Nat.lt_or_ge n (ln q 1024) with z | z
      · rw [show ln q 1024 = n + 1 by omega]
      · rw [wS, ln_ge z (by omega), ← ih z (by omega)]
        rfl
  exact (key 1024 (ln_le q 1024) (Nat.le_refl _)).symm
theorem dgs_3 {v : Nat} (hv : v < 1024) : (v < 10 → dgs v = 1) ∧ (10 ≤ v → v < 100 → dgs v = 2) ∧ (100 ≤ v → v < 1000 → dgs v = 3) ∧ (1000 ≤ v → dgs v = 4) := by
  unfold dgs
  refine ⟨fun a => by rw [if_pos a], fun a b => by rw [if_neg (by omega), if_pos b], fun a b => by rw [if_neg (by omega), if_neg (by omega), if_pos b], fun a => by rw [if_neg (by omega), if_neg (by omega), if_neg (by omega)]⟩
theorem wB_le {i : Nat} (h : i < 1024) : wB i + dgs i ≤ 5033 ∧ wB i ≤ 5035 := by
  unfold wB dgs
  refine ⟨?_, by omega⟩
  split
  · omega
  · split
    · omega
    · split <;> omega
abbrev rm_X3_bytesOf : Room := { frames := 0, cells := 0, slots := 0, locals := 0 }
theorem yd_X3_bytesOf : yX3_bytesOf.cls = RX3 ∧ yX3_bytesOf.cls ≠ "java/lang/invoke/MethodHandle" ∧ yX3_bytesOf.cls ≠ "java/lang/invoke/VarHandle" ∧ (parseMethodDescriptor yX3_bytesOf.desc).map (fun d => d.parameters.length) = some 1 := by decide +kernel
set_option maxHeartbeats 4000000 in
set_option maxRecDepth 100000 in
theorem kt_X3_bytesOf (l : Launch) (v0 : Int32)  : SMi l yX3_bytesOf wsX3_bytesOf rm_X3_bytesOf [.int v0] (fun (r : Int32) => r = (nI (nb v0))) := by
  refine SMi_of (lv := [(0, .int v0)]) (cc := cX3_bytesOf) (maxL := 3) (ret := (some .int)) rfl (by decide +kernel) (Nat.le_of_ble_eq_true rfl) rfl ?_
  intro p e s m args below meth c hc hts hown hml hr hlk
  have X : (p.tables.exec = Jvm.exec ∧ c.code = cX3_bytesOf) ∧ True := ⟨hc, trivial⟩
  generalize hQ : MQ below _ args s 0 0 _ = Q
  refine zz_iconst 0 X.1 (v := nI 0) dX3_bytesOf_0 rfl ?_
  refine zz_istore_n 1 X.1 (lv' := [(1, .int (nI 0)), (0, .int v0)]) dX3_bytesOf_1 (by decide) rfl ?_
  refine zz_bipush 2 X.1 (v := nI 24) dX3_bytesOf_2 rfl ?_
  refine zz_istore_n 4 X.1 (lv' := [(2, .int (nI 24)), (1, .int (nI 0)), (0, .int v0)]) dX3_bytesOf_4 (by decide) rfl ?_
  have C5 : ∀ (d : Nat) (i : Nat) (x2 : Int32) (n1 : Nat) (hi : i ≤ 4) (hx : x2.toInt = 24 - 8 * (i : Int)) (hn : n1 = ct (fun k => by8 v0 (3 - k) != 0) i) (hd : 4 - i < d), ZZ p l e rm_X3_bytesOf s m args below meth c 0 0 Q (zz_A (fun _ => False) s.heap.size) (fun _ => True) 3 [(0, .int v0), (1, .int (nI n1)), (2, .int x2)] [] 5 := by
    intro d
    induction d with
    | zero => intro i x2 n1 hi hx hn hd; exact absurd hd (Nat.not_lt_zero _)
    | succ d ih5 =>
      intro i x2 n1 hi hx hn hd
      have hb8 := by8_lt (v := v0) (k := 3 - i)
      refine zz_iload_n 5 X.1 2 dX3_bytesOf_5 rfl ?_
      refine zz_if_lt 6 28 X.1 hx dX3_bytesOf_6 (by decide) (fun h6 => ?_) (fun h6 => ?_)
      · skip
        refine zz_iload_n 28 X.1 1 dX3_bytesOf_28 rfl ?_
        rw [← hQ]
        refine zz_iret 29 X.1 hr rfl hlk () ?_ (fun _ _ _ => trivial) dX3_bytesOf_29
        exact congrArg nI (by rw [hn, show i = 4 by omega]; exact nb_3 v0)
      · skip
        obtain rfl : x2 = nI (8 * (3 - i)) := zi_of (by omega)
        refine zz_iload_n 9 X.1 0 dX3_bytesOf_9 rfl ?_
        refine zz_iload_n 10 X.1 2 dX3_bytesOf_10 rfl ?_
        refine zz_iushr 11 X.1 (v := ((v0.toUInt32 >>> ((nI (8 * (3 - i))).toUInt32 &&& Int32.toUInt32 31)).toInt32)) dX3_bytesOf_11 rfl ?_
        refine zz_sipush 12 X.1 (v := nI 255) dX3_bytesOf_12 rfl ?_
        refine zz_iand 15 X.1 (v := (nI (by8 v0 (3 - i)))) dX3_bytesOf_15 (by8_ush v0 (by omega)) ?_
        refine zz_if_eq 16 22 X.1 (nI_toInt (by omega)) dX3_bytesOf_16 (by decide) (fun h16 => ?_) (fun h16 => ?_)
        · skip
          refine zz_iinc 22 X.1 2 (v := (nI (8 * (3 - i)) + (-8))) (lv' := [(2, .int (nI (8 * (3 - i)) + (-8))), (0, .int v0), (1, .int (nI n1))]) dX3_bytesOf_22 rfl rfl (by decide) rfl ?_
          refine zz_goto 25 5 X.1 dX3_bytesOf_25 (by decide) ?_
          refine zz_lvs [1, 2, 0] rfl ?_
          exact ih5 (i + 1) (nI (8 * (3 - i)) + (-8)) n1 (by omega) (by rw [zi_add (nI_toInt (by omega)) (show (-8 : Int32).toInt = -8 from rfl) (by omega) (by omega)]; omega) (by rw [hn]; first | (exact ct_t (bne_iff_ne.mpr (by omega))) | (exact ct_f (by rw [show by8 v0 (3 - i) = 0 by omega]; rfl))) (by omega)
        · skip
          refine zz_iinc 19 X.1 1 (v := (nI (n1 + 1))) (lv' := [(1, .int (nI (n1 + 1))), (0, .int v0), (2, .int (nI (8 * (3 - i))))]) dX3_bytesOf_19 rfl (nI_add n1 1) (by decide) rfl ?_
          refine zz_iinc 22 X.1 2 (v := (nI (8 * (3 - i)) + (-8))) (lv' := [(2, .int (nI (8 * (3 - i)) + (-8))), (1, .int (nI (n1 + 1))), (0, .int v0)]) dX3_bytesOf_22 rfl rfl (by decide) rfl ?_
          refine zz_goto 25 5 X.1 dX3_bytesOf_25 (by decide) ?_
          refine zz_lvs [2, 1, 0] rfl ?_
          exact ih5 (i + 1) (nI (8 * (3 - i)) + (-8)) (n1 + 1) (by omega) (by rw [zi_add (nI_toInt (by omega)) (show (-8 : Int32).toInt = -8 from rfl) (by omega) (by omega)]; omega) (by rw [hn]; first | (exact ct_t (bne_iff_ne.mpr (by omega))) | (exact ct_f (by rw [show by8 v0 (3 - i) = 0 by omega]; rfl))) (by omega)
  refine zz_lvs [2, 1, 0] rfl ?_
  exact C5 (4 - 0 + 1) 0 (nI 24) 0 (by omega) (by rw [nI_toInt (by omega)]; rfl) (rfl) (Nat.lt_succ_self _)
abbrev rm_X3_take : Room := { frames := 0, cells := 0, slots := 0, locals := 0 }
theorem yd_X3_take : yX3_take.cls = RX3 ∧ yX3_take.cls ≠ "java/lang/invoke/MethodHandle" ∧ yX3_take.cls ≠ "java/lang/invoke/VarHandle" ∧ (parseMethodDescriptor yX3_take.desc).map (fun d => d.parameters.length) = some 1 := by decide +kernel
set_option maxHeartbeats 4000000 in
set_option maxRecDepth 100000 in
theorem kt_X3_take (l : Launch) (D : va_G) (C : Nat → ClassId) (K : Nat → Nat) (hAp : DAp K) (F : Nat → Int32) (hs : Nat → Bool) (G T : Nat → Nat → Int32) (v0 : Int32) (tn : Nat) (hT : F 4 = nI tn) (htb : tn + nb v0 ≤ 400) : CMv l yX3_take wsX3_take rm_X3_take D C K (2) [.int v0] F hs G T (fun (u : CSt) => u = (upd F 4 (nI (tn + nb v0)), hs, va_up G 3 ((t4 v0 (G 3, tn)).1), T)) := by
  refine CMv_of (lv := [(0, .ref (K 2)), (1, .int v0)]) (cc := cX3_take) (maxL := 4) (ret := none) rfl (by decide +kernel) (Nat.le_of_ble_eq_true rfl) rfl ?_
  intro p e s m args below meth c X hml hr hlk
  generalize hQ : MQ below _ args s 0 0 _ = Q
  refine zz_world (P' := (DP D C K (upd F 4 (nI tn)) (WH hs) G T)) (fun H h => by rw [upd_self hT]; exact h) ?_
  refine zz_bipush 0 X.1 (v := nI 24) dX3_take_0 rfl ?_
  refine zz_istore_n 2 X.1 (lv' := [(2, .int (nI 24)), (0, .ref (K 2)), (1, .int v0)]) dX3_take_2 (by decide) rfl ?_
  have C3 : ∀ (d : Nat) (i : Nat) (x2 : Int32) (tq : Nat) (gq : Nat → Int32) (hi : i ≤ 4) (hx : x2.toInt = 24 - 8 * (i : Int)) (hg : (gq, tq) = tks v0 i (G 3, tn)) (hd : 4 - i < d), ZZ p l e rm_X3_take s m args below meth c 0 0 Q (zz_A (DAd K) s.heap.size) (DP D C K (upd F 4 (nI tq)) (WH hs) (va_up G 3 gq) T) 4 [(0, .ref (K 2)), (1, .int v0), (2, .int x2)] [] 3 := by
    intro d
    induction d with
    | zero => intro i x2 tq gq hi hx hg hd; exact absurd hd (Nat.not_lt_zero _)
    | succ d ih3 =>
      intro i x2 tq gq hi hx hg hd
      have hb8 := by8_lt (v := v0) (k := 3 - i)
      refine zz_iload_n 3 X.1 2 dX3_take_3 rfl ?_
      refine zz_if_lt 4 56 X.1 hx dX3_take_4 (by decide) (fun h4 => ?_) (fun h4 => ?_)
      · skip
        have hT4 : t4 v0 (G 3, tn) = (gq, tq) := by rw [← tks_4, show (4 : Nat) = i by omega, ← hg]
        have hT5 : tn + nb v0 = tq := by have := t4_2 (v := v0) (x := (G 3, tn)); rw [hT4] at this; exact this.symm
        rw [← hQ]
        refine zz_vret 56 X.1 hr hlk (upd F 4 (nI tq), hs, va_up G 3 gq, T) ?_ (fun _ h _ => h) dX3_take_56
        rw [hT4, hT5]
      · skip
        obtain rfl : x2 = nI (8 * (3 - i)) := zi_of (by omega)
        have hcap := tks_2 (v := v0) (x := (G 3, tn)) (i := i) (by omega)
        rw [← hg] at hcap
        replace hcap : tq + (if by8 v0 (3 - i) != 0 then 1 else 0) ≤ tn + nb v0 := hcap
        refine zz_iload_n 7 X.1 1 dX3_take_7 rfl ?_
        refine zz_iload_n 8 X.1 2 dX3_take_8 rfl ?_
        refine zz_iushr 9 X.1 (v := ((v0.toUInt32 >>> ((nI (8 * (3 - i))).toUInt32 &&& Int32.toUInt32 31)).toInt32)) dX3_take_9 rfl ?_
        refine zz_sipush 10 X.1 (v := nI 255) dX3_take_10 rfl ?_
        refine zz_iand 13 X.1 (v := (nI (by8 v0 (3 - i)))) dX3_take_13 (by8_ush v0 (by omega)) ?_
        refine zz_istore_n 14 X.1 (lv' := [(3, .int (nI (by8 v0 (3 - i)))), (0, .ref (K 2)), (1, .int v0), (2, .int (nI (8 * (3 - i))))]) dX3_take_14 (by decide) rfl ?_
        refine zz_iload_n 15 X.1 0 dX3_take_15 rfl ?_
        refine zz_if_eq 16 50 X.1 (nI_toInt (by omega)) dX3_take_16 (by decide) (fun h16 => ?_) (fun h16 => ?_)
        · skip
          refine zz_iinc 50 X.1 3 (v := (nI (8 * (3 - i)) + (-8))) (lv' := [(2, .int (nI (8 * (3 - i)) + (-8))), (3, .int (nI (by8 v0 (3 - i)))), (0, .ref (K 2)), (1, .int v0)]) dX3_take_50 rfl rfl (by decide) rfl ?_
          refine zz_goto 53 3 X.1 dX3_take_53 (by decide) ?_
          refine zz_lvs [2, 3, 0] rfl ?_
          exact ih3 (i + 1) (nI (8 * (3 - i)) + (-8)) tq gq (by omega) (by rw [zi_add (nI_toInt (by omega)) (show (-8 : Int32).toInt = -8 from rfl) (by omega) (by omega)]; omega) (by rw [tks, ← hg]; unfold t1; first | (rw [if_pos (show by8 v0 (3 - i) = 0 by omega)]; done) | (rw [if_neg (show ¬ by8 v0 (3 - i) = 0 by omega)])) (by omega)
        · skip
          rw [if_pos (bne_iff_ne.mpr (show by8 v0 (3 - i) ≠ 0 by omega))] at hcap
          refine zz_aload_n 19 X.1 1 dX3_take_19 rfl ?_
          refine dd_get2 20 X (by decide +kernel) 1 (by decide) (v := .int (nI tq)) rfl (by decide +kernel) rfl dX3_take_20 ?_
          refine zz_sipush 23 X.1 (v := nI 400) dX3_take_23 rfl ?_
          refine zz_icmp_ge 26 50 X.1 (nI_toInt (by omega)) (nI_toInt (by omega)) dX3_take_26 (by decide) (fun h26 => ?_) (fun h26 => ?_)
          · exfalso; omega
          · skip
            refine zz_aload_n 29 X.1 1 dX3_take_29 rfl ?_
            refine dd_get2 30 X (by decide +kernel) 0 (by decide) (v := .ref (K 3)) rfl (by decide +kernel) rfl dX3_take_30 ?_
            refine zz_aload_n 33 X.1 1 dX3_take_33 rfl ?_
            refine dd_get2 34 X (by decide +kernel) 1 (by decide) (v := .int (nI tq)) rfl (by decide +kernel) rfl dX3_take_34 ?_
            refine zz_iload_n 37 X.1 0 dX3_take_37 rfl ?_
            refine zz_i2c 38 X.1 (v := (nI (by8 v0 (3 - i)))) dX3_take_38 (zc_i2c (by omega)) ?_
            refine dd_cast 39 hAp X 3 3 (by decide) (x := by8 v0 (3 - i)) (by omega) (f := gq) (G' := va_up G 3 (upd gq tq (nI (by8 v0 (3 - i))))) rfl rfl (by omega) (by decide) dX3_take_39 ?_
            refine zz_aload_n 40 X.1 1 dX3_take_40 rfl ?_
            refine zz_dup 41 X.1 dX3_take_41 rfl ?_
            refine dd_get2 42 X (by decide +kernel) 1 (by decide) (v := .int (nI tq)) rfl (by decide +kernel) rfl dX3_take_42 ?_
            refine zz_iconst 45 X.1 (v := nI 1) dX3_take_45 rfl ?_
            refine zz_iadd 46 X.1 (v := (nI (tq + 1))) dX3_take_46 (nI_add _ _) ?_
            refine dd_put2 47 hAp X (by decide +kernel) 1 (by decide) (F' := upd F 4 (nI (tq + 1))) rfl (by decide +kernel) ⟨rfl, rfl⟩ (by decide +kernel) dX3_take_47 ?_
            refine zz_iinc 50 X.1 3 (v := (nI (8 * (3 - i)) + (-8))) (lv' := [(2, .int (nI (8 * (3 - i)) + (-8))), (3, .int (nI (by8 v0 (3 - i)))), (0, .ref (K 2)), (1, .int v0)]) dX3_take_50 rfl rfl (by decide) rfl ?_
            refine zz_goto 53 3 X.1 dX3_take_53 (by decide) ?_
            refine zz_lvs [2, 3, 0] rfl ?_
            exact ih3 (i + 1) (nI (8 * (3 - i)) + (-8)) (tq + 1) (upd gq tq (nI (by8 v0 (3 - i)))) (by omega) (by rw [zi_add (nI_toInt (by omega)) (show (-8 : Int32).toInt = -8 from rfl) (by omega) (by omega)]; omega) (by rw [tks, ← hg]; unfold t1; first | (rw [if_pos (show by8 v0 (3 - i) = 0 by omega)]; done) | (rw [if_neg (show ¬ by8 v0 (3 - i) = 0 by omega)])) (by omega)
  refine zz_lvs [1, 2, 0] rfl ?_
  exact C3 (4 - 0 + 1) 0 (nI 24) tn (G 3) (by omega) (by rw [nI_toInt (by omega)]; rfl) (rfl) (Nat.lt_succ_self _)
abbrev rm_X3_size : Room := { frames := 0, cells := 0, slots := 0, locals := 0 }
theorem yd_X3_size : yX3_size.cls = RX3 ∧ yX3_size.cls ≠ "java/lang/invoke/MethodHandle" ∧ yX3_size.cls ≠ "java/lang/invoke/VarHandle" ∧ (parseMethodDescriptor yX3_size.desc).map (fun d => d.parameters.length) = some 0 := by decide +kernel
set_option maxHeartbeats 4000000 in
set_option maxRecDepth 100000 in
theorem kt_X3_size (l : Launch) (D : va_G) (C : Nat → ClassId) (K : Nat → Nat) (hAp : DAp K) (F : Nat → Int32) (hs : Nat → Bool) (G T : Nat → Nat → Int32) (tn : Nat) (hT : F 4 = nI tn) : CMi l yX3_size wsX3_size rm_X3_size D C K (2) [] F hs G T (fun (r : Int32) (u : CSt) => r = (nI tn) ∧ u = (F, hs, G, T)) := by
  refine CMi_of (lv := [(0, .ref (K 2))]) (cc := cX3_size) (maxL := 1) (ret := (some .int)) rfl (by decide +kernel) (Nat.le_of_ble_eq_true rfl) rfl ?_
  intro p e s m args below meth c X hml hr hlk
  generalize hQ : MQ below _ args s 0 0 _ = Q
  refine zz_aload_n 0 X.1 0 dX3_size_0 rfl ?_
  refine dd_get2 1 X (by decide +kernel) 1 (by decide) (v := .int (F 4)) rfl (by decide +kernel) rfl dX3_size_1 ?_
  refine zz_topi (nI tn) (hT) ?_
  rw [← hQ]
  refine zz_iret 4 X.1 hr rfl hlk (F, hs, G, T) ?_ (fun _ h _ => h) dX3_size_4
  exact ⟨rfl, rfl⟩
abbrev rm_X3_sign : Room := { frames := 0, cells := 0, slots := 0, locals := 0 }
theorem yd_X3_sign : yX3_sign.cls = RX3 ∧ yX3_sign.cls ≠ "java/lang/invoke/MethodHandle" ∧ yX3_sign.cls ≠ "java/lang/invoke/VarHandle" ∧ (parseMethodDescriptor yX3_sign.desc).map (fun d => d.parameters.length) = some 1 := by decide +kernel
set_option maxHeartbeats 4000000 in
set_option maxRecDepth 100000 in
theorem kt_X3_sign (l : Launch) (D : va_G) (C : Nat → ClassId) (K : Nat → Nat) (hAp : DAp K) (F : Nat → Int32) (hs : Nat → Bool) (G T : Nat → Nat → Int32) (i0 : Nat) (tn : Nat) (hi0 : i0 < 2 ^ 31) (hT : F 4 = nI tn) (htn : tn ≤ 400) (hB : HB (G 3) tn) : CMi l yX3_sign wsX3_sign rm_X3_sign D C K (2) [.int (nI i0)] F hs G T (fun (r : Int32) (u : CSt) => r = (nI (tc (G 3) tn i0)) ∧ u = (F, hs, G, T)) := by
  refine CMi_of (lv := [(0, .ref (K 2)), (1, .int (nI i0))]) (cc := cX3_sign) (maxL := 2) (ret := (some .char)) rfl (by decide +kernel) (Nat.le_of_ble_eq_true rfl) rfl ?_
  intro p e s m args below meth c X hml hr hlk
  generalize hQ : MQ below _ args s 0 0 _ = Q
  have htc := tc_lt (i := i0) hB
  refine zz_iload_n 0 X.1 1 dX3_sign_0 rfl ?_
  refine zz_if_lt 1 28 X.1 (nI_toInt (by omega)) dX3_sign_1 (by decide) (fun h1 => ?_) (fun h1 => ?_)
  · exfalso; omega
  · skip
    refine zz_iload_n 4 X.1 1 dX3_sign_4 rfl ?_
    refine zz_aload_n 5 X.1 0 dX3_sign_5 rfl ?_
    refine dd_get2 6 X (by decide +kernel) 1 (by decide) (v := .int (F 4)) rfl (by decide +kernel) rfl dX3_sign_6 ?_
    refine zz_topi (nI tn) (hT) ?_
    refine zz_icmp_ge 9 28 X.1 (nI_toInt (by omega)) (nI_toInt (by omega)) dX3_sign_9 (by decide) (fun h9 => ?_) (fun h9 => ?_)
    · skip
      refine zz_iconst 28 X.1 (v := nI 0) dX3_sign_28 rfl ?_
      rw [← hQ]
      refine zz_iret 29 X.1 hr (zc_nar (by omega)) hlk (F, hs, G, T) ?_ (fun _ h _ => h) dX3_sign_29
      refine ⟨?_, rfl⟩
      first | rfl | (unfold tc; rw [if_neg (by omega)])
    · skip
      refine zz_iload_n 12 X.1 1 dX3_sign_12 rfl ?_
      refine zz_sipush 13 X.1 (v := nI 400) dX3_sign_13 rfl ?_
      refine zz_icmp_ge 16 28 X.1 (nI_toInt (by omega)) (nI_toInt (by omega)) dX3_sign_16 (by decide) (fun h16 => ?_) (fun h16 => ?_)
      · exfalso; omega
      · skip
        refine zz_aload_n 19 X.1 0 dX3_sign_19 rfl ?_
        refine dd_get2 20 X (by decide +kernel) 0 (by decide) (v := .ref (K 3)) rfl (by decide +kernel) rfl dX3_sign_20 ?_
        refine zz_iload_n 23 X.1 1 dX3_sign_23 rfl ?_
        refine dd_cald 24 X 3 3 (by decide) (len := 400) (f := G 3) rfl (by omega) (by decide) dX3_sign_24 ?_
        refine zz_topi (nI (tc (G 3) tn i0)) ((tc_v (by omega))) ?_
        refine zz_goto 25 29 X.1 dX3_sign_25 (by decide) ?_
        rw [← hQ]
        refine zz_iret 29 X.1 hr (zc_nar (by omega)) hlk (F, hs, G, T) ?_ (fun _ h _ => h) dX3_sign_29
        refine ⟨?_, rfl⟩
        first | rfl | (unfold tc; rw [if_neg (by omega)])
abbrev rm_X3_empty : Room := { frames := 0, cells := 0, slots := 0, locals := 0 }
theorem yd_X3_empty : yX3_empty.cls = RX3 ∧ yX3_empty.cls ≠ "java/lang/invoke/MethodHandle" ∧ yX3_empty.cls ≠ "java/lang/invoke/VarHandle" ∧ (parseMethodDescriptor yX3_empty.desc).map (fun d => d.parameters.length) = some 0 := by decide +kernel
set_option maxHeartbeats 4000000 in
set_option maxRecDepth 100000 in
theorem kt_X3_empty (l : Launch) (D : va_G) (C : Nat → ClassId) (K : Nat → Nat) (hAp : DAp K) (F : Nat → Int32) (hs : Nat → Bool) (G T : Nat → Nat → Int32)   : CMv l yX3_empty wsX3_empty rm_X3_empty D C K (2) [] F hs G T (fun (u : CSt) => u = (upd F 4 (nI 0), hs, G, T)) := by
  refine CMv_of (lv := [(0, .ref (K 2))]) (cc := cX3_empty) (maxL := 1) (ret := none) rfl (by decide +kernel) (Nat.le_of_ble_eq_true rfl) rfl ?_
  intro p e s m args below meth c X hml hr hlk
  generalize hQ : MQ below _ args s 0 0 _ = Q
  refine zz_aload_n 0 X.1 0 dX3_empty_0 rfl ?_
  refine zz_iconst 1 X.1 (v := nI 0) dX3_empty_1 rfl ?_
  refine dd_put2 2 hAp X (by decide +kernel) 1 (by decide) (F' := upd F 4 (nI 0)) rfl (by decide +kernel) ⟨rfl, rfl⟩ (by decide +kernel) dX3_empty_2 ?_
  rw [← hQ]
  refine zz_vret 5 X.1 hr hlk (upd F 4 (nI 0), hs, G, T) ?_ (fun _ h _ => h) dX3_empty_5
  exact rfl
abbrev rm_X0_becomeBytes : Room := { frames := 4, cells := 0, slots := 0, locals := 88 }
abbrev rm_X4_putSign : Room := { frames := 0, cells := 0, slots := 0, locals := 0 }
abbrev rm_X4_putNumber : Room := { frames := 1, cells := 0, slots := 0, locals := 21 }
abbrev rm_X4_size : Room := { frames := 0, cells := 0, slots := 0, locals := 0 }
abbrev rm_X4_sign : Room := { frames := 0, cells := 0, slots := 0, locals := 0 }
abbrev rm_X4_tell : Room := { frames := 4, cells := 0, slots := 0, locals := 90 }
