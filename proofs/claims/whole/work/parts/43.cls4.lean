/-! The tape and the text. -/
theorem nb_3 (v : Int32) : ct (fun k => by8 v (3 - k) != 0) 4 = nb v := by
  rw [nb_eq]
  show 0 + (if by8 v 3 != 0 then 1 else 0) + (if by8 v 2 != 0 then 1 else 0) + (if by8 v 1 != 0 then 1 else 0) + (if by8 v 0 != 0 then 1 else 0) = _
  omega
theorem zc_i2c {x : Nat} (h : x < 65536) : ((nI x).toUInt32 % 65536).toInt32 = nI x := by
  rw [pk_char]
  congr 1
  show (Int32.ofNat x).toBitVec.toNat % 65536 = x
  rw [Int32.toBitVec_ofNat', BitVec.toNat_ofNat]
  omega
theorem zc_nar {x : Nat} (h : x < 65536) : narrow .char (.int (nI x)) = .int (nI x) := by
  exact (pk_charN h).1
theorem wS_3 {q : Nat → Bool} {g : Nat → Int32} : ∀ n, (wS q n (g, 1)).2 = 1 ∨ (wS q n (g, 1)).2 + 2 ≤ wB n
  | 0 => Or.inl rfl
  | n + 1 => by
    have ih := wS_3 (q := q) (g := g) n
    have h1 := wS_1 (q := q) (g := g) n
    have hb : wB n + 2 + dgs n = wB (n + 1) := by
      unfold wB dgs
      split
      · omega
      · split
        · omega
        · split <;> omega
    unfold wS
    split
    · right
      unfold wM
      rw [wN_2]
      split
      · simp only [w1]; omega
      · have : wB n ≥ 1 := by unfold wB; omega
        omega
    · rcases ih with z | z
      · exact Or.inl z
      · exact Or.inr (by omega)
theorem wS_ln {q : Nat → Bool} {x : (Nat → Int32) × Nat} : wS q (ln q 1024) x = wS q 1024 x := by
  have key : ∀ n, ln q 1024 ≤ n → n ≤ 1024 → wS q n x = wS q (ln q 1024) x := by
    intro n
    induction n with
    | zero => intro h _; rw [Nat.le_zero.mp h]
    | succ n ih =>
      intro h1 h2
      rcases Nat.lt_or_ge n (ln q 1024) with z | z
      · rw [show ln q 1024 = n + 1 by omega]
      · rw [wS, ln_ge z (by omega), ← ih z (by omega)]
        rfl
  exact (key 1024 (ln_le q 1024) (Nat.le_refl _)).symm
theorem dgs_3 {v : Nat} (hv : v < 1024) : (v < 10 → dgs v = 1) ∧ (10 ≤ v → v < 100 → dgs v = 2) ∧ (100 ≤ v → v < 1000 → dgs v = 3) ∧ (1000 ≤ v → dgs v = 4) := by
  unfold dgs
  refine ⟨fun a => by rw [if_pos a], fun a b => by rw [if_neg (by omega), if_pos b], fun a b => by rw [if_neg (by omega), if_neg (by omega), if_pos b], fun a => by rw [if_neg (by omega), if_neg (by omega), if_neg (by omega)]⟩
theorem wB_le {i : Nat} (h : i < 1024) : wB i + dgs i ≤ 5033 ∧ wB i ≤ 5035 := by
  unfold wB dgs
  refine ⟨?_, by omega⟩
  split
  · omega
  · split
    · omega
    · split <;> omega

abbrev rm_X3_bytesOf : Room := { frames := 0, cells := 0, slots := 0, locals := 0 }
theorem yd_X3_bytesOf : yX3_bytesOf.cls = RX3 ∧ yX3_bytesOf.cls ≠ "java/lang/invoke/MethodHandle" ∧ yX3_bytesOf.cls ≠ "java/lang/invoke/VarHandle" ∧ (parseMethodDescriptor yX3_bytesOf.desc).map (fun d => d.parameters.length) = some 1 := by decide +kernel
set_option maxHeartbeats 4000000 in
set_option maxRecDepth 100000 in
theorem kt_X3_bytesOf (l : Launch) (v0 : Int32)  : SMi l yX3_bytesOf wsX3_bytesOf rm_X3_bytesOf [.int v0] (fun (r : Int32) => r = (nI (nb v0))) := by
  refine SMi_of (lv := [(0, .int v0)]) (cc := cX3_bytesOf) (maxL := 3) (ret := (some .int)) rfl (by decide +kernel) (Nat.le_of_ble_eq_true rfl) rfl ?_
  intro p e s m args below meth c hc hts hown hml hr hlk
  have X : (p.tables.exec = Jvm.exec ∧ c.code = cX3_bytesOf) ∧ True := ⟨hc, trivial⟩
  generalize hQ : MQ below _ args s 0 0 _ = Q
  refine zz_iconst 0 X.1 (v := nI 0) dX3_bytesOf_0 rfl ?_
  refine zz_istore_n 1 X.1 (lv' := [(1, .int (nI 0)), (0, .int v0)]) dX3_bytesOf_1 (by decide) rfl ?_
  refine zz_bipush 2 X.1 (v := nI 24) dX3_bytesOf_2 rfl ?_
  refine zz_istore_n 4 X.1 (lv' := [(2, .int (nI 24)), (1, .int (nI 0)), (0, .int v0)]) dX3_bytesOf_4 (by decide) rfl ?_
  have C5 : ∀ (d : Nat) (i : Nat) (x2 : Int32) (n1 : Nat) (hi : i ≤ 4) (hx : x2.toInt = 24 - 8 * (i : Int)) (hn : n1 = ct (fun k => by8 v0 (3 - k) != 0) i) (hd : 4 - i < d), ZZ p l e rm_X3_bytesOf s m args below meth c 0 0 Q (zz_A (fun _ => False) s.heap.size) (fun _ => True) 3 [(0, .int v0), (1, .int (nI n1)), (2, .int x2)] [] 5 := by
    intro d
    induction d with
    | zero => intro i x2 n1 hi hx hn hd; exact absurd hd (Nat.not_lt_zero _)
    | succ d ih5 =>
      intro i x2 n1 hi hx hn hd
      have hb8 := by8_lt (v := v0) (k := 3 - i)
      refine zz_iload_n 5 X.1 2 dX3_bytesOf_5 rfl ?_
      refine zz_if_lt 6 28 X.1 hx dX3_bytesOf_6 (by decide) (fun h6 => ?_) (fun h6 => ?_)
      · skip
        refine zz_iload_n 28 X.1 1 dX3_bytesOf_28 rfl ?_
        rw [← hQ]
        refine zz_iret 29 X.1 hr rfl hlk () ?_ (fun _ _ _ => trivial) dX3_bytesOf_29
        exact congrArg nI (by rw [hn, show i = 4 by omega]; exact nb_3 v0)
      · skip
        obtain rfl : x2 = nI (8 * (3 - i)) := zi_of (by omega)
        refine zz_iload_n 9 X.1 0 dX3_bytesOf_9 rfl ?_
        refine zz_iload_n 10 X.1 2 dX3_bytesOf_10 rfl ?_
        refine zz_iushr 11 X.1 (v := ((v0.toUInt32 >>> ((nI (8 * (3 - i))).toUInt32 &&& Int32.toUInt32 31)).toInt32)) dX3_bytesOf_11 rfl ?_
        refine zz_sipush 12 X.1 (v := nI 255) dX3_bytesOf_12 rfl ?_
        refine zz_iand 15 X.1 (v := (nI (by8 v0 (3 - i)))) dX3_bytesOf_15 (by8_ush v0 (by omega)) ?_
        refine zz_if_eq 16 22 X.1 (nI_toInt (by omega)) dX3_bytesOf_16 (by decide) (fun h16 => ?_) (fun h16 => ?_)
        · skip
          refine zz_iinc 22 X.1 2 (v := (nI (8 * (3 - i)) + (-8))) (lv' := [(2, .int (nI (8 * (3 - i)) + (-8))), (0, .int v0), (1, .int (nI n1))]) dX3_bytesOf_22 rfl rfl (by decide) rfl ?_
          refine zz_goto 25 5 X.1 dX3_bytesOf_25 (by decide) ?_
          refine zz_lvs [1, 2, 0] rfl ?_
          exact ih5 (i + 1) (nI (8 * (3 - i)) + (-8)) n1 (by omega) (by rw [zi_add (nI_toInt (by omega)) (show (-8 : Int32).toInt = -8 from rfl) (by omega) (by omega)]; omega) (by rw [hn]; first | (exact ct_t (bne_iff_ne.mpr (by omega))) | (exact ct_f (by rw [show by8 v0 (3 - i) = 0 by omega]; rfl))) (by omega)
        · skip
          refine zz_iinc 19 X.1 1 (v := (nI (n1 + 1))) (lv' := [(1, .int (nI (n1 + 1))), (0, .int v0), (2, .int (nI (8 * (3 - i))))]) dX3_bytesOf_19 rfl (nI_add n1 1) (by decide) rfl ?_
          refine zz_iinc 22 X.1 2 (v := (nI (8 * (3 - i)) + (-8))) (lv' := [(2, .int (nI (8 * (3 - i)) + (-8))), (1, .int (nI (n1 + 1))), (0, .int v0)]) dX3_bytesOf_22 rfl rfl (by decide) rfl ?_
          refine zz_goto 25 5 X.1 dX3_bytesOf_25 (by decide) ?_
          refine zz_lvs [2, 1, 0] rfl ?_
          exact ih5 (i + 1) (nI (8 * (3 - i)) + (-8)) (n1 + 1) (by omega) (by rw [zi_add (nI_toInt (by omega)) (show (-8 : Int32).toInt = -8 from rfl) (by omega) (by omega)]; omega) (by rw [hn]; first | (exact ct_t (bne_iff_ne.mpr (by omega))) | (exact ct_f (by rw [show by8 v0 (3 - i) = 0 by omega]; rfl))) (by omega)
  refine zz_lvs [2, 1, 0] rfl ?_
  exact C5 (4 - 0 + 1) 0 (nI 24) 0 (by omega) (by rw [nI_toInt (by omega)]; rfl) (rfl) (Nat.lt_succ_self _)

abbrev rm_X3_take : Room := { frames := 0, cells := 0, slots := 0, locals := 0 }
theorem yd_X3_take : yX3_take.cls = RX3 ∧ yX3_take.cls ≠ "java/lang/invoke/MethodHandle" ∧ yX3_take.cls ≠ "java/lang/invoke/VarHandle" ∧ (parseMethodDescriptor yX3_take.desc).map (fun d => d.parameters.length) = some 1 := by decide +kernel
set_option maxHeartbeats 4000000 in
set_option maxRecDepth 100000 in
theorem kt_X3_take (l : Launch) (D : va_G) (C : Nat → ClassId) (K : Nat → Nat) (hAp : DAp K) (F : Nat → Int32) (hs : Nat → Bool) (G T : Nat → Nat → Int32) (v0 : Int32) (tn : Nat) (hT : F 4 = nI tn) (htb : tn + nb v0 ≤ 400) : CMv l yX3_take wsX3_take rm_X3_take D C K (2) [.int v0] F hs G T (fun (u : CSt) => u = (upd F 4 (nI (tn + nb v0)), hs, va_up G 3 ((t4 v0 (G 3, tn)).1), T)) := by
  refine CMv_of (lv := [(0, .ref (K 2)), (1, .int v0)]) (cc := cX3_take) (maxL := 4) (ret := none) rfl (by decide +kernel) (Nat.le_of_ble_eq_true rfl) rfl ?_
  intro p e s m args below meth c X hml hr hlk
  generalize hQ : MQ below _ args s 0 0 _ = Q
  refine zz_world (P' := (DP D C K (upd F 4 (nI tn)) (WH hs) G T)) (fun H h => by rw [upd_self hT]; exact h) ?_
  refine zz_bipush 0 X.1 (v := nI 24) dX3_take_0 rfl ?_
  refine zz_istore_n 2 X.1 (lv' := [(2, .int (nI 24)), (0, .ref (K 2)), (1, .int v0)]) dX3_take_2 (by decide) rfl ?_
  have C3 : ∀ (d : Nat) (i : Nat) (x2 : Int32) (tq : Nat) (gq : Nat → Int32) (hi : i ≤ 4) (hx : x2.toInt = 24 - 8 * (i : Int)) (hg : (gq, tq) = tks v0 i (G 3, tn)) (hd : 4 - i < d), ZZ p l e rm_X3_take s m args below meth c 0 0 Q (zz_A (DAd K) s.heap.size) (DP D C K (upd F 4 (nI tq)) (WH hs) (va_up G 3 gq) T) 4 [(0, .ref (K 2)), (1, .int v0), (2, .int x2)] [] 3 := by
    intro d
    induction d with
    | zero => intro i x2 tq gq hi hx hg hd; exact absurd hd (Nat.not_lt_zero _)
    | succ d ih3 =>
      intro i x2 tq gq hi hx hg hd
      have hb8 := by8_lt (v := v0) (k := 3 - i)
      refine zz_iload_n 3 X.1 2 dX3_take_3 rfl ?_
      refine zz_if_lt 4 56 X.1 hx dX3_take_4 (by decide) (fun h4 => ?_) (fun h4 => ?_)
      · skip
        have hT4 : t4 v0 (G 3, tn) = (gq, tq) := by rw [← tks_4, show (4 : Nat) = i by omega, ← hg]
        have hT5 : tn + nb v0 = tq := by have := t4_2 (v := v0) (x := (G 3, tn)); rw [hT4] at this; exact this.symm
        rw [← hQ]
        refine zz_vret 56 X.1 hr hlk (upd F 4 (nI tq), hs, va_up G 3 gq, T) ?_ (fun _ h _ => h) dX3_take_56
        rw [hT4, hT5]
      · skip
        obtain rfl : x2 = nI (8 * (3 - i)) := zi_of (by omega)
        have hcap := tks_2 (v := v0) (x := (G 3, tn)) (i := i) (by omega)
        rw [← hg] at hcap
        replace hcap : tq + (if by8 v0 (3 - i) != 0 then 1 else 0) ≤ tn + nb v0 := hcap
        refine zz_iload_n 7 X.1 1 dX3_take_7 rfl ?_
        refine zz_iload_n 8 X.1 2 dX3_take_8 rfl ?_
        refine zz_iushr 9 X.1 (v := ((v0.toUInt32 >>> ((nI (8 * (3 - i))).toUInt32 &&& Int32.toUInt32 31)).toInt32)) dX3_take_9 rfl ?_
        refine zz_sipush 10 X.1 (v := nI 255) dX3_take_10 rfl ?_
        refine zz_iand 13 X.1 (v := (nI (by8 v0 (3 - i)))) dX3_take_13 (by8_ush v0 (by omega)) ?_
        refine zz_istore_n 14 X.1 (lv' := [(3, .int (nI (by8 v0 (3 - i)))), (0, .ref (K 2)), (1, .int v0), (2, .int (nI (8 * (3 - i))))]) dX3_take_14 (by decide) rfl ?_
        refine zz_iload_n 15 X.1 0 dX3_take_15 rfl ?_
        refine zz_if_eq 16 50 X.1 (nI_toInt (by omega)) dX3_take_16 (by decide) (fun h16 => ?_) (fun h16 => ?_)
        · skip
          refine zz_iinc 50 X.1 3 (v := (nI (8 * (3 - i)) + (-8))) (lv' := [(2, .int (nI (8 * (3 - i)) + (-8))), (3, .int (nI (by8 v0 (3 - i)))), (0, .ref (K 2)), (1, .int v0)]) dX3_take_50 rfl rfl (by decide) rfl ?_
          refine zz_goto 53 3 X.1 dX3_take_53 (by decide) ?_
          refine zz_lvs [2, 3, 0] rfl ?_
          exact ih3 (i + 1) (nI (8 * (3 - i)) + (-8)) tq gq (by omega) (by rw [zi_add (nI_toInt (by omega)) (show (-8 : Int32).toInt = -8 from rfl) (by omega) (by omega)]; omega) (by rw [tks, ← hg]; unfold t1; first | (rw [if_pos (show by8 v0 (3 - i) = 0 by omega)]; done) | (rw [if_neg (show ¬ by8 v0 (3 - i) = 0 by omega)])) (by omega)
        · skip
          rw [if_pos (bne_iff_ne.mpr (show by8 v0 (3 - i) ≠ 0 by omega))] at hcap
          refine zz_aload_n 19 X.1 1 dX3_take_19 rfl ?_
          refine dd_get2 20 X (by decide +kernel) 1 (by decide) (v := .int (nI tq)) rfl (by decide +kernel) rfl dX3_take_20 ?_
          refine zz_sipush 23 X.1 (v := nI 400) dX3_take_23 rfl ?_
          refine zz_icmp_ge 26 50 X.1 (nI_toInt (by omega)) (nI_toInt (by omega)) dX3_take_26 (by decide) (fun h26 => ?_) (fun h26 => ?_)
          · exfalso; omega
          · skip
            refine zz_aload_n 29 X.1 1 dX3_take_29 rfl ?_
            refine dd_get2 30 X (by decide +kernel) 0 (by decide) (v := .ref (K 3)) rfl (by decide +kernel) rfl dX3_take_30 ?_
            refine zz_aload_n 33 X.1 1 dX3_take_33 rfl ?_
            refine dd_get2 34 X (by decide +kernel) 1 (by decide) (v := .int (nI tq)) rfl (by decide +kernel) rfl dX3_take_34 ?_
            refine zz_iload_n 37 X.1 0 dX3_take_37 rfl ?_
            refine zz_i2c 38 X.1 (v := (nI (by8 v0 (3 - i)))) dX3_take_38 (zc_i2c (by omega)) ?_
            refine dd_cast 39 hAp X 3 3 (by decide) (x := by8 v0 (3 - i)) (by omega) (f := gq) (G' := va_up G 3 (upd gq tq (nI (by8 v0 (3 - i))))) rfl rfl (by omega) (by decide) dX3_take_39 ?_
            refine zz_aload_n 40 X.1 1 dX3_take_40 rfl ?_
            refine zz_dup 41 X.1 dX3_take_41 rfl ?_
            refine dd_get2 42 X (by decide +kernel) 1 (by decide) (v := .int (nI tq)) rfl (by decide +kernel) rfl dX3_take_42 ?_
            refine zz_iconst 45 X.1 (v := nI 1) dX3_take_45 rfl ?_
            refine zz_iadd 46 X.1 (v := (nI (tq + 1))) dX3_take_46 (nI_add _ _) ?_
            refine dd_put2 47 hAp X (by decide +kernel) 1 (by decide) (F' := upd F 4 (nI (tq + 1))) rfl (by decide +kernel) ⟨rfl, rfl⟩ (by decide +kernel) dX3_take_47 ?_
            refine zz_iinc 50 X.1 3 (v := (nI (8 * (3 - i)) + (-8))) (lv' := [(2, .int (nI (8 * (3 - i)) + (-8))), (3, .int (nI (by8 v0 (3 - i)))), (0, .ref (K 2)), (1, .int v0)]) dX3_take_50 rfl rfl (by decide) rfl ?_
            refine zz_goto 53 3 X.1 dX3_take_53 (by decide) ?_
            refine zz_lvs [2, 3, 0] rfl ?_
            exact ih3 (i + 1) (nI (8 * (3 - i)) + (-8)) (tq + 1) (upd gq tq (nI (by8 v0 (3 - i)))) (by omega) (by rw [zi_add (nI_toInt (by omega)) (show (-8 : Int32).toInt = -8 from rfl) (by omega) (by omega)]; omega) (by rw [tks, ← hg]; unfold t1; first | (rw [if_pos (show by8 v0 (3 - i) = 0 by omega)]; done) | (rw [if_neg (show ¬ by8 v0 (3 - i) = 0 by omega)])) (by omega)
  refine zz_lvs [1, 2, 0] rfl ?_
  exact C3 (4 - 0 + 1) 0 (nI 24) tn (G 3) (by omega) (by rw [nI_toInt (by omega)]; rfl) (rfl) (Nat.lt_succ_self _)

abbrev rm_X3_size : Room := { frames := 0, cells := 0, slots := 0, locals := 0 }
theorem yd_X3_size : yX3_size.cls = RX3 ∧ yX3_size.cls ≠ "java/lang/invoke/MethodHandle" ∧ yX3_size.cls ≠ "java/lang/invoke/VarHandle" ∧ (parseMethodDescriptor yX3_size.desc).map (fun d => d.parameters.length) = some 0 := by decide +kernel
set_option maxHeartbeats 4000000 in
set_option maxRecDepth 100000 in
theorem kt_X3_size (l : Launch) (D : va_G) (C : Nat → ClassId) (K : Nat → Nat) (hAp : DAp K) (F : Nat → Int32) (hs : Nat → Bool) (G T : Nat → Nat → Int32) (tn : Nat) (hT : F 4 = nI tn) : CMi l yX3_size wsX3_size rm_X3_size D C K (2) [] F hs G T (fun (r : Int32) (u : CSt) => r = (nI tn) ∧ u = (F, hs, G, T)) := by
  refine CMi_of (lv := [(0, .ref (K 2))]) (cc := cX3_size) (maxL := 1) (ret := (some .int)) rfl (by decide +kernel) (Nat.le_of_ble_eq_true rfl) rfl ?_
  intro p e s m args below meth c X hml hr hlk
  generalize hQ : MQ below _ args s 0 0 _ = Q
  refine zz_aload_n 0 X.1 0 dX3_size_0 rfl ?_
  refine dd_get2 1 X (by decide +kernel) 1 (by decide) (v := .int (F 4)) rfl (by decide +kernel) rfl dX3_size_1 ?_
  refine zz_topi (nI tn) (hT) ?_
  rw [← hQ]
  refine zz_iret 4 X.1 hr rfl hlk (F, hs, G, T) ?_ (fun _ h _ => h) dX3_size_4
  exact ⟨rfl, rfl⟩

abbrev rm_X3_sign : Room := { frames := 0, cells := 0, slots := 0, locals := 0 }
theorem yd_X3_sign : yX3_sign.cls = RX3 ∧ yX3_sign.cls ≠ "java/lang/invoke/MethodHandle" ∧ yX3_sign.cls ≠ "java/lang/invoke/VarHandle" ∧ (parseMethodDescriptor yX3_sign.desc).map (fun d => d.parameters.length) = some 1 := by decide +kernel
set_option maxHeartbeats 4000000 in
set_option maxRecDepth 100000 in
theorem kt_X3_sign (l : Launch) (D : va_G) (C : Nat → ClassId) (K : Nat → Nat) (hAp : DAp K) (F : Nat → Int32) (hs : Nat → Bool) (G T : Nat → Nat → Int32) (i0 : Nat) (tn : Nat) (hi0 : i0 < 2 ^ 31) (hT : F 4 = nI tn) (htn : tn ≤ 400) (hB : HB (G 3) tn) : CMi l yX3_sign wsX3_sign rm_X3_sign D C K (2) [.int (nI i0)] F hs G T (fun (r : Int32) (u : CSt) => r = (nI (tc (G 3) tn i0)) ∧ u = (F, hs, G, T)) := by
  refine CMi_of (lv := [(0, .ref (K 2)), (1, .int (nI i0))]) (cc := cX3_sign) (maxL := 2) (ret := (some .char)) rfl (by decide +kernel) (Nat.le_of_ble_eq_true rfl) rfl ?_
  intro p e s m args below meth c X hml hr hlk
  generalize hQ : MQ below _ args s 0 0 _ = Q
  have htc := tc_lt (i := i0) hB
  refine zz_iload_n 0 X.1 1 dX3_sign_0 rfl ?_
  refine zz_if_lt 1 28 X.1 (nI_toInt (by omega)) dX3_sign_1 (by decide) (fun h1 => ?_) (fun h1 => ?_)
  · exfalso; omega
  · skip
    refine zz_iload_n 4 X.1 1 dX3_sign_4 rfl ?_
    refine zz_aload_n 5 X.1 0 dX3_sign_5 rfl ?_
    refine dd_get2 6 X (by decide +kernel) 1 (by decide) (v := .int (F 4)) rfl (by decide +kernel) rfl dX3_sign_6 ?_
    refine zz_topi (nI tn) (hT) ?_
    refine zz_icmp_ge 9 28 X.1 (nI_toInt (by omega)) (nI_toInt (by omega)) dX3_sign_9 (by decide) (fun h9 => ?_) (fun h9 => ?_)
    · skip
      refine zz_iconst 28 X.1 (v := nI 0) dX3_sign_28 rfl ?_
      rw [← hQ]
      refine zz_iret 29 X.1 hr (zc_nar (by omega)) hlk (F, hs, G, T) ?_ (fun _ h _ => h) dX3_sign_29
      refine ⟨?_, rfl⟩
      first | rfl | (unfold tc; rw [if_neg (by omega)])
    · skip
      refine zz_iload_n 12 X.1 1 dX3_sign_12 rfl ?_
      refine zz_sipush 13 X.1 (v := nI 400) dX3_sign_13 rfl ?_
      refine zz_icmp_ge 16 28 X.1 (nI_toInt (by omega)) (nI_toInt (by omega)) dX3_sign_16 (by decide) (fun h16 => ?_) (fun h16 => ?_)
      · exfalso; omega
      · skip
        refine zz_aload_n 19 X.1 0 dX3_sign_19 rfl ?_
        refine dd_get2 20 X (by decide +kernel) 0 (by decide) (v := .ref (K 3)) rfl (by decide +kernel) rfl dX3_sign_20 ?_
        refine zz_iload_n 23 X.1 1 dX3_sign_23 rfl ?_
        refine dd_cald 24 X 3 3 (by decide) (len := 400) (f := G 3) rfl (by omega) (by decide) dX3_sign_24 ?_
        refine zz_topi (nI (tc (G 3) tn i0)) ((tc_v (by omega))) ?_
        refine zz_goto 25 29 X.1 dX3_sign_25 (by decide) ?_
        rw [← hQ]
        refine zz_iret 29 X.1 hr (zc_nar (by omega)) hlk (F, hs, G, T) ?_ (fun _ h _ => h) dX3_sign_29
        refine ⟨?_, rfl⟩
        first | rfl | (unfold tc; rw [if_neg (by omega)])

abbrev rm_X3_empty : Room := { frames := 0, cells := 0, slots := 0, locals := 0 }
theorem yd_X3_empty : yX3_empty.cls = RX3 ∧ yX3_empty.cls ≠ "java/lang/invoke/MethodHandle" ∧ yX3_empty.cls ≠ "java/lang/invoke/VarHandle" ∧ (parseMethodDescriptor yX3_empty.desc).map (fun d => d.parameters.length) = some 0 := by decide +kernel
set_option maxHeartbeats 4000000 in
set_option maxRecDepth 100000 in
theorem kt_X3_empty (l : Launch) (D : va_G) (C : Nat → ClassId) (K : Nat → Nat) (hAp : DAp K) (F : Nat → Int32) (hs : Nat → Bool) (G T : Nat → Nat → Int32)   : CMv l yX3_empty wsX3_empty rm_X3_empty D C K (2) [] F hs G T (fun (u : CSt) => u = (upd F 4 (nI 0), hs, G, T)) := by
  refine CMv_of (lv := [(0, .ref (K 2))]) (cc := cX3_empty) (maxL := 1) (ret := none) rfl (by decide +kernel) (Nat.le_of_ble_eq_true rfl) rfl ?_
  intro p e s m args below meth c X hml hr hlk
  generalize hQ : MQ below _ args s 0 0 _ = Q
  refine zz_aload_n 0 X.1 0 dX3_empty_0 rfl ?_
  refine zz_iconst 1 X.1 (v := nI 0) dX3_empty_1 rfl ?_
  refine dd_put2 2 hAp X (by decide +kernel) 1 (by decide) (F' := upd F 4 (nI 0)) rfl (by decide +kernel) ⟨rfl, rfl⟩ (by decide +kernel) dX3_empty_2 ?_
  rw [← hQ]
  refine zz_vret 5 X.1 hr hlk (upd F 4 (nI 0), hs, G, T) ?_ (fun _ h _ => h) dX3_empty_5
  exact rfl

abbrev rm_X0_becomeBytes : Room := { frames := 4, cells := 0, slots := 0, locals := 88 }
theorem yd_X0_becomeBytes : yX0_becomeBytes.cls = RX0 ∧ yX0_becomeBytes.cls ≠ "java/lang/invoke/MethodHandle" ∧ yX0_becomeBytes.cls ≠ "java/lang/invoke/VarHandle" ∧ (parseMethodDescriptor yX0_becomeBytes.desc).map (fun d => d.parameters.length) = some 1 := by decide +kernel
set_option maxHeartbeats 4000000 in
set_option maxRecDepth 100000 in
theorem kt_X0_becomeBytes (l : Launch) (D : va_G) (C : Nat → ClassId) (K : Nat → Nat) (hAp : DAp K) (F : Nat → Int32) (hs : Nat → Bool) (G T : Nat → Nat → Int32) (s0 : Nat) (tn : Nat) (hs0 : s0 < 8) (hT : F 4 = nI tn) (htn : tn ≤ 128) (hB : HB (G 3) tn) : CMv l yX0_becomeBytes wsX0_becomeBytes rm_X0_becomeBytes D C K (20 + s0) [.ref (K 2)] F hs G T (fun (u : CSt) => u = (F, sS hs s0 (pTp (G 3) tn), G, T)) := by
  refine CMv_of (lv := [(0, .ref (K (20 + s0))), (1, .ref (K 2))]) (cc := cX0_becomeBytes) (maxL := 3) (ret := none) rfl (by decide +kernel) (Nat.le_of_ble_eq_true rfl) rfl ?_
  intro p e s m args below meth c X hml hr hlk
  generalize hQ : MQ below _ args s 0 0 _ = Q
  refine zz_aload_n 0 X.1 0 dX0_becomeBytes_0 rfl ?_
  refine dd_callVv 1 X hml (th := 20 + s0) (As := []) (kt_X0_clear l D C K hAp F hs G T s0 (by first | rfl | assumption | omega)) gX0_becomeBytes_X0_clear rfl ⟨rfl, rfl⟩ (dr_M X (i := s0) (by omega)) yd_X0_clear ⟨Nat.le_of_ble_eq_true rfl, Nat.le_of_ble_eq_true rfl⟩ rfl rfl (Nat.le_of_ble_eq_true rfl) ⟨Nat.zero_le _, Nat.zero_le _⟩ dX0_becomeBytes_1 ?_
  rintro ⟨F1, hs1, G1, T1⟩ hu1
  have hv1 := hu1
  cases hv1
  refine zz_world (P' := (DP D C K F (WH (sS hs s0 (fun _ => false))) G T)) (fun _ h => h) ?_
  refine zz_iconst 4 X.1 (v := nI 0) dX0_becomeBytes_4 rfl ?_
  refine zz_istore_n 5 X.1 (lv' := [(2, .int (nI 0)), (0, .ref (K (20 + s0))), (1, .ref (K 2))]) dX0_becomeBytes_5 (by decide) rfl ?_
  have C6 : ∀ (d : Nat) (i : Nat) (hs1 : Nat → Bool) (hi : i ≤ 128) (hh : hs1 = sS hs s0 (pBy (G 3) tn i)) (hd : 128 - i < d), ZZ p l e rm_X0_becomeBytes s m args below meth c 0 0 Q (zz_A (DAd K) s.heap.size) (DP D C K F (WH hs1) G T) 3 [(0, .ref (K (20 + s0))), (1, .ref (K 2)), (2, .int (nI i))] [] 6 := by
    intro d
    induction d with
    | zero => intro i hs1 hi hh hd; exact absurd hd (Nat.not_lt_zero _)
    | succ d ih6 =>
      intro i hs1 hi hh hd
      have htc := tc_lt (i := i) hB
      refine zz_iload_n 6 X.1 2 dX0_becomeBytes_6 rfl ?_
      refine zz_sipush 7 X.1 (v := nI 128) dX0_becomeBytes_7 rfl ?_
      refine zz_icmp_ge 10 44 X.1 (nI_toInt (by omega)) (nI_toInt (by omega)) dX0_becomeBytes_10 (by decide) (fun h10 => ?_) (fun h10 => ?_)
      · skip
        refine zz_world (P' := (DP D C K F (WH (sS hs s0 (pTp (G 3) tn))) G T)) (dp_hs (hh.trans (by rw [show i = 128 by omega]; exact by_end htn))) ?_
        rw [← hQ]
        refine zz_vret 44 X.1 hr hlk (F, sS hs s0 (pTp (G 3) tn), G, T) ?_ (fun _ h _ => h) dX0_becomeBytes_44
        exact rfl
      · skip
        refine zz_aload_n 13 X.1 0 dX0_becomeBytes_13 rfl ?_
        refine dd_getM 14 X (by decide +kernel) (i := s0) (by omega) (by decide +kernel) dX0_becomeBytes_14 ?_
        refine zz_iload_n 17 X.1 2 dX0_becomeBytes_17 rfl ?_
        refine zz_iconst 18 X.1 (v := nI 3) dX0_becomeBytes_18 rfl ?_
        refine zz_ishr 19 X.1 (v := (nI (i / 8))) dX0_becomeBytes_19 (zn_shr3 (by omega)) ?_
        refine zz_dup2 20 X.1 dX0_becomeBytes_20 rfl rfl ?_
        refine dd_lld 21 X (i := s0) (k := i / 8) (by omega) (by omega) dX0_becomeBytes_21 ?_
        refine zz_aload_n 22 X.1 1 dX0_becomeBytes_22 rfl ?_
        refine zz_iload_n 23 X.1 2 dX0_becomeBytes_23 rfl ?_
        refine dd_callVi 24 X hml (th := 2) (As := [.int (nI i)]) (kt_X3_sign l D C K hAp F hs1 G T i tn (by first | rfl | assumption | omega) (hT) (by first | rfl | assumption | omega) (by first | rfl | assumption | omega)) gX0_becomeBytes_X3_sign rfl ⟨rfl, rfl⟩ (dr_2 X) yd_X3_sign ⟨Nat.le_of_ble_eq_true rfl, Nat.le_of_ble_eq_true rfl⟩ rfl rfl (Nat.le_of_ble_eq_true rfl) ⟨Nat.zero_le _, Nat.zero_le _⟩ dX0_becomeBytes_24 ?_
        rintro r2 ⟨F2, hs2, G2, T2⟩ hu2
        obtain ⟨rfl, hv2⟩ := hu2
        cases hv2
        refine zz_world (P' := (DP D C K F (WH hs1) G T)) (fun _ h => h) ?_
        refine zz_i2l 27 X.1 (v := lN (tc (G 3) tn i)) dX0_becomeBytes_27 (nI_l (by omega)) ?_
        refine zz_bipush 28 X.1 (v := nI 8) dX0_becomeBytes_28 rfl ?_
        refine zz_iload_n 30 X.1 2 dX0_becomeBytes_30 rfl ?_
        refine zz_bipush 31 X.1 (v := nI 7) dX0_becomeBytes_31 rfl ?_
        refine zz_iand 33 X.1 (v := (nI (i % 8))) dX0_becomeBytes_33 (zn_and7 (by omega)) ?_
        refine zz_imul 34 X.1 (v := (nI (8 * (i % 8)))) dX0_becomeBytes_34 (pk_mul _ _) ?_
        refine zz_lshl 35 X.1 (v := (lN (tc (G 3) tn i)) <<< ((nI (8 * (i % 8))).toInt64 &&& 63)) dX0_becomeBytes_35 rfl ?_
        refine zz_lor 36 X.1 (v := wd (pBy (G 3) tn (i + 1)) (i / 8)) dX0_becomeBytes_36 (by_wd hB (by omega) hh) ?_
        refine dd_lst 37 hAp X (i := s0) (k := i / 8) (by omega) (by omega) dX0_becomeBytes_37 ?_
        refine dd_W (W' := WH (vS hs1 s0 (i / 8) (pBy (G 3) tn (i + 1)))) (vS_W (rfl)) ?_
        refine zz_iinc 38 X.1 2 (v := (nI (i + 1))) (lv' := [(2, .int (nI (i + 1))), (0, .ref (K (20 + s0))), (1, .ref (K 2))]) dX0_becomeBytes_38 rfl (nI_add i 1) (by decide) rfl ?_
        refine zz_goto 41 6 X.1 dX0_becomeBytes_41 (by decide) ?_
        refine zz_lvs [1, 2, 0] rfl ?_
        exact ih6 (i + 1) (vS hs1 s0 (i / 8) (pBy (G 3) tn (i + 1))) (by omega) (by_st (by omega) hh) (by omega)
  refine zz_lvs [1, 2, 0] rfl ?_
  exact C6 (128 - 0 + 1) 0 (sS hs s0 (fun _ => false)) (by omega) (pBy_0) (Nat.lt_succ_self _)

abbrev rm_X4_putSign : Room := { frames := 0, cells := 0, slots := 0, locals := 0 }
theorem yd_X4_putSign : yX4_putSign.cls = RX4 ∧ yX4_putSign.cls ≠ "java/lang/invoke/MethodHandle" ∧ yX4_putSign.cls ≠ "java/lang/invoke/VarHandle" ∧ (parseMethodDescriptor yX4_putSign.desc).map (fun d => d.parameters.length) = some 1 := by decide +kernel
set_option maxHeartbeats 4000000 in
set_option maxRecDepth 100000 in
theorem kt_X4_putSign (l : Launch) (D : va_G) (C : Nat → ClassId) (K : Nat → Nat) (hAp : DAp K) (F : Nat → Int32) (hs : Nat → Bool) (G T : Nat → Nat → Int32) (w : Nat) (sg : Nat) (hw : F 20 = nI w) (hw2 : w < 5034) (hsg : sg < 65536) : CMv l yX4_putSign wsX4_putSign rm_X4_putSign D C K (11) [.int (nI sg)] F hs G T (fun (u : CSt) => u = (upd F 20 (nI (w + 1)), hs, va_up G 19 (upd (G 19) w (nI sg)), T)) := by
  refine CMv_of (lv := [(0, .ref (K 11)), (1, .int (nI sg))]) (cc := cX4_putSign) (maxL := 2) (ret := none) rfl (by decide +kernel) (Nat.le_of_ble_eq_true rfl) rfl ?_
  intro p e s m args below meth c X hml hr hlk
  generalize hQ : MQ below _ args s 0 0 _ = Q
  refine zz_aload_n 0 X.1 0 dX4_putSign_0 rfl ?_
  refine dd_get11 1 X (by decide +kernel) 1 (by decide) (v := .int (F 20)) rfl (by decide +kernel) rfl dX4_putSign_1 ?_
  refine zz_topi (nI w) (hw) ?_
  refine zz_sipush 4 X.1 (v := nI 5034) dX4_putSign_4 rfl ?_
  refine zz_icmp_ge 7 30 X.1 (nI_toInt (by omega)) (nI_toInt (by omega)) dX4_putSign_7 (by decide) (fun h7 => ?_) (fun h7 => ?_)
  · exfalso; omega
  · skip
    refine zz_aload_n 10 X.1 0 dX4_putSign_10 rfl ?_
    refine dd_get11 11 X (by decide +kernel) 0 (by decide) (v := .ref (K 12)) rfl (by decide +kernel) rfl dX4_putSign_11 ?_
    refine zz_aload_n 14 X.1 0 dX4_putSign_14 rfl ?_
    refine dd_get11 15 X (by decide +kernel) 1 (by decide) (v := .int (F 20)) rfl (by decide +kernel) rfl dX4_putSign_15 ?_
    refine zz_topi (nI w) (hw) ?_
    refine zz_iload_n 18 X.1 1 dX4_putSign_18 rfl ?_
    refine dd_cast 19 hAp X 12 12 (by decide) (x := sg) (by omega) (f := G 19) (G' := va_up G 19 (upd (G 19) w (nI sg))) rfl rfl (by omega) (by decide) dX4_putSign_19 ?_
    refine zz_aload_n 20 X.1 0 dX4_putSign_20 rfl ?_
    refine zz_dup 21 X.1 dX4_putSign_21 rfl ?_
    refine dd_get11 22 X (by decide +kernel) 1 (by decide) (v := .int (F 20)) rfl (by decide +kernel) rfl dX4_putSign_22 ?_
    refine zz_topi (nI w) (hw) ?_
    refine zz_iconst 25 X.1 (v := nI 1) dX4_putSign_25 rfl ?_
    refine zz_iadd 26 X.1 (v := (nI (w + 1))) dX4_putSign_26 (nI_add _ _) ?_
    refine dd_put11 27 hAp X (by decide +kernel) 1 (by decide) (F' := upd F 20 (nI (w + 1))) rfl (by decide +kernel) ⟨rfl, rfl⟩ (by decide +kernel) dX4_putSign_27 ?_
    rw [← hQ]
    refine zz_vret 30 X.1 hr hlk (upd F 20 (nI (w + 1)), hs, va_up G 19 (upd (G 19) w (nI sg)), T) ?_ (fun _ h _ => h) dX4_putSign_30
    exact rfl

abbrev rm_X4_putNumber : Room := { frames := 1, cells := 0, slots := 0, locals := 21 }
theorem yd_X4_putNumber : yX4_putNumber.cls = RX4 ∧ yX4_putNumber.cls ≠ "java/lang/invoke/MethodHandle" ∧ yX4_putNumber.cls ≠ "java/lang/invoke/VarHandle" ∧ (parseMethodDescriptor yX4_putNumber.desc).map (fun d => d.parameters.length) = some 1 := by decide +kernel
set_option maxHeartbeats 4000000 in
set_option maxRecDepth 100000 in
theorem kt_X4_putNumber (l : Launch) (D : va_G) (C : Nat → ClassId) (K : Nat → Nat) (hAp : DAp K) (F : Nat → Int32) (hs : Nat → Bool) (G T : Nat → Nat → Int32) (w : Nat) (v0 : Nat) (hw : F 20 = nI w) (hw2 : w ≤ 1 ∨ w + 2 + dgs v0 ≤ 5034) (hv0 : v0 < 1024) : CMv l yX4_putNumber wsX4_putNumber rm_X4_putNumber D C K (11) [.int (nI v0)] F hs G T (fun (u : CSt) => u = (upd F 20 (nI ((wM v0 (G 19, w)).2)), hs, va_up G 19 ((wM v0 (G 19, w)).1), T)) := by
  refine CMv_of (lv := [(0, .ref (K 11)), (1, .int (nI v0))]) (cc := cX4_putNumber) (maxL := 3) (ret := none) rfl (by decide +kernel) (Nat.le_of_ble_eq_true rfl) rfl ?_
  intro p e s m args below meth c X hml hr hlk
  generalize hQ : MQ below _ args s 0 0 _ = Q
  have hdg := dgs_3 hv0
  refine zz_aload_n 0 X.1 0 dX4_putNumber_0 rfl ?_
  refine dd_get11 1 X (by decide +kernel) 1 (by decide) (v := .int (F 20)) rfl (by decide +kernel) rfl dX4_putNumber_1 ?_
  refine zz_topi (nI w) (hw) ?_
  refine zz_iconst 4 X.1 (v := nI 1) dX4_putNumber_4 rfl ?_
  refine zz_icmp_le 5 20 X.1 (nI_toInt (by omega)) (nI_toInt (by omega)) dX4_putNumber_5 (by decide) (fun h5 => ?_) (fun h5 => ?_)
  · skip
    refine zz_sipush 20 X.1 (v := nI 1000) dX4_putNumber_20 rfl ?_
    refine zz_istore_n 23 X.1 (lv' := [(2, .int (nI 1000)), (0, .ref (K 11)), (1, .int (nI v0))]) dX4_putNumber_23 (by decide) rfl ?_
    refine zz_iload_n 24 X.1 0 dX4_putNumber_24 rfl ?_
    refine zz_if_le 25 60 X.1 (nI_toInt (by omega)) dX4_putNumber_25 (by decide) (fun h25 => ?_) (fun h25 => ?_)
    · exfalso; omega
    · skip
      refine zz_iload_n 28 X.1 2 dX4_putNumber_28 rfl ?_
      refine zz_iload_n 29 X.1 0 dX4_putNumber_29 rfl ?_
      refine zz_icmp_ge 30 38 X.1 (nI_toInt (by omega)) (nI_toInt (by omega)) dX4_putNumber_30 (by decide) (fun h30 => ?_) (fun h30 => ?_)
      · skip
        refine zz_aload_n 38 X.1 1 dX4_putNumber_38 rfl ?_
        refine zz_bipush 39 X.1 (v := nI 48) dX4_putNumber_39 rfl ?_
        refine zz_iload_n 41 X.1 2 dX4_putNumber_41 rfl ?_
        refine zz_iload_n 42 X.1 0 dX4_putNumber_42 rfl ?_
        refine zz_idiv 43 X.1 (v := (nI (v0 / 1000))) dX4_putNumber_43 (zn_ne0 (by omega) (by omega)) (pk_div (by omega) (by omega) (by omega)) ?_
        refine zz_bipush 44 X.1 (v := nI 10) dX4_putNumber_44 rfl ?_
        refine zz_irem 46 X.1 (v := (nI ((v0 / 1000) % 10))) dX4_putNumber_46 (zn_ne0 (by omega) (by omega)) (pk_rem (by omega) (by omega) (by omega)) ?_
        refine zz_iadd 47 X.1 (v := (nI (48 + ((v0 / 1000) % 10)))) dX4_putNumber_47 (nI_add _ _) ?_
        refine zz_i2c 48 X.1 (v := (nI (48 + ((v0 / 1000) % 10)))) dX4_putNumber_48 (zc_i2c (by omega)) ?_
        refine dd_callVv 49 X hml (th := 11) (As := [.int (nI (48 + ((v0 / 1000) % 10)))]) (kt_X4_putSign l D C K hAp F hs G T w (48 + ((v0 / 1000) % 10)) (hw) (by first | rfl | assumption | omega) (by first | rfl | assumption | omega)) gX4_putNumber_X4_putSign rfl ⟨rfl, rfl⟩ (dr_11 X) yd_X4_putSign ⟨Nat.le_of_ble_eq_true rfl, Nat.le_of_ble_eq_true rfl⟩ rfl rfl (Nat.le_of_ble_eq_true rfl) ⟨Nat.zero_le _, Nat.zero_le _⟩ dX4_putNumber_49 ?_
        rintro ⟨F1, hs1, G1, T1⟩ hu1
        have hv1 := hu1
        cases hv1
        refine zz_world (P' := (DP D C K (upd F 20 (nI (w + 1))) (WH hs) (va_up G 19 (upd (G 19) w (nI (48 + ((v0 / 1000) % 10))))) T)) (fun _ h => h) ?_
        refine zz_iload_n 52 X.1 0 dX4_putNumber_52 rfl ?_
        refine zz_bipush 53 X.1 (v := nI 10) dX4_putNumber_53 rfl ?_
        refine zz_idiv 55 X.1 (v := (nI 100)) dX4_putNumber_55 (zn_ne0 (by omega) (by omega)) (pk_div (by omega) (by omega) (by omega)) ?_
        refine zz_istore_n 56 X.1 (lv' := [(2, .int (nI 100)), (0, .ref (K 11)), (1, .int (nI v0))]) dX4_putNumber_56 (by decide) rfl ?_
        refine zz_goto 57 24 X.1 dX4_putNumber_57 (by decide) ?_
        refine zz_iload_n 24 X.1 0 dX4_putNumber_24 rfl ?_
        refine zz_if_le 25 60 X.1 (nI_toInt (by omega)) dX4_putNumber_25 (by decide) (fun h25 => ?_) (fun h25 => ?_)
        · exfalso; omega
        · skip
          refine zz_iload_n 28 X.1 2 dX4_putNumber_28 rfl ?_
          refine zz_iload_n 29 X.1 0 dX4_putNumber_29 rfl ?_
          refine zz_icmp_ge 30 38 X.1 (nI_toInt (by omega)) (nI_toInt (by omega)) dX4_putNumber_30 (by decide) (fun h30 => ?_) (fun h30 => ?_)
          · skip
            refine zz_aload_n 38 X.1 1 dX4_putNumber_38 rfl ?_
            refine zz_bipush 39 X.1 (v := nI 48) dX4_putNumber_39 rfl ?_
            refine zz_iload_n 41 X.1 2 dX4_putNumber_41 rfl ?_
            refine zz_iload_n 42 X.1 0 dX4_putNumber_42 rfl ?_
            refine zz_idiv 43 X.1 (v := (nI (v0 / 100))) dX4_putNumber_43 (zn_ne0 (by omega) (by omega)) (pk_div (by omega) (by omega) (by omega)) ?_
            refine zz_bipush 44 X.1 (v := nI 10) dX4_putNumber_44 rfl ?_
            refine zz_irem 46 X.1 (v := (nI ((v0 / 100) % 10))) dX4_putNumber_46 (zn_ne0 (by omega) (by omega)) (pk_rem (by omega) (by omega) (by omega)) ?_
            refine zz_iadd 47 X.1 (v := (nI (48 + ((v0 / 100) % 10)))) dX4_putNumber_47 (nI_add _ _) ?_
            refine zz_i2c 48 X.1 (v := (nI (48 + ((v0 / 100) % 10)))) dX4_putNumber_48 (zc_i2c (by omega)) ?_
            refine dd_callVv 49 X hml (th := 11) (As := [.int (nI (48 + ((v0 / 100) % 10)))]) (kt_X4_putSign l D C K hAp (upd F 20 (nI (w + 1))) hs (va_up G 19 (upd (G 19) w (nI (48 + ((v0 / 1000) % 10))))) T (w + 1) (48 + ((v0 / 100) % 10)) (rfl) (by first | rfl | assumption | omega) (by first | rfl | assumption | omega)) gX4_putNumber_X4_putSign rfl ⟨rfl, rfl⟩ (dr_11 X) yd_X4_putSign ⟨Nat.le_of_ble_eq_true rfl, Nat.le_of_ble_eq_true rfl⟩ rfl rfl (Nat.le_of_ble_eq_true rfl) ⟨Nat.zero_le _, Nat.zero_le _⟩ dX4_putNumber_49 ?_
            rintro ⟨F2, hs2, G2, T2⟩ hu2
            have hv2 := hu2
            cases hv2
            refine zz_world (P' := (DP D C K (upd F 20 (nI ((w + 1) + 1))) (WH hs) (va_up G 19 (upd (upd (G 19) w (nI (48 + ((v0 / 1000) % 10)))) (w + 1) (nI (48 + ((v0 / 100) % 10))))) T)) (fun _ h => h) ?_
            refine zz_iload_n 52 X.1 0 dX4_putNumber_52 rfl ?_
            refine zz_bipush 53 X.1 (v := nI 10) dX4_putNumber_53 rfl ?_
            refine zz_idiv 55 X.1 (v := (nI 10)) dX4_putNumber_55 (zn_ne0 (by omega) (by omega)) (pk_div (by omega) (by omega) (by omega)) ?_
            refine zz_istore_n 56 X.1 (lv' := [(2, .int (nI 10)), (0, .ref (K 11)), (1, .int (nI v0))]) dX4_putNumber_56 (by decide) rfl ?_
            refine zz_goto 57 24 X.1 dX4_putNumber_57 (by decide) ?_
            refine zz_iload_n 24 X.1 0 dX4_putNumber_24 rfl ?_
            refine zz_if_le 25 60 X.1 (nI_toInt (by omega)) dX4_putNumber_25 (by decide) (fun h25 => ?_) (fun h25 => ?_)
            · exfalso; omega
            · skip
              refine zz_iload_n 28 X.1 2 dX4_putNumber_28 rfl ?_
              refine zz_iload_n 29 X.1 0 dX4_putNumber_29 rfl ?_
              refine zz_icmp_ge 30 38 X.1 (nI_toInt (by omega)) (nI_toInt (by omega)) dX4_putNumber_30 (by decide) (fun h30 => ?_) (fun h30 => ?_)
              · skip
                refine zz_aload_n 38 X.1 1 dX4_putNumber_38 rfl ?_
                refine zz_bipush 39 X.1 (v := nI 48) dX4_putNumber_39 rfl ?_
                refine zz_iload_n 41 X.1 2 dX4_putNumber_41 rfl ?_
                refine zz_iload_n 42 X.1 0 dX4_putNumber_42 rfl ?_
                refine zz_idiv 43 X.1 (v := (nI (v0 / 10))) dX4_putNumber_43 (zn_ne0 (by omega) (by omega)) (pk_div (by omega) (by omega) (by omega)) ?_
                refine zz_bipush 44 X.1 (v := nI 10) dX4_putNumber_44 rfl ?_
                refine zz_irem 46 X.1 (v := (nI ((v0 / 10) % 10))) dX4_putNumber_46 (zn_ne0 (by omega) (by omega)) (pk_rem (by omega) (by omega) (by omega)) ?_
                refine zz_iadd 47 X.1 (v := (nI (48 + ((v0 / 10) % 10)))) dX4_putNumber_47 (nI_add _ _) ?_
                refine zz_i2c 48 X.1 (v := (nI (48 + ((v0 / 10) % 10)))) dX4_putNumber_48 (zc_i2c (by omega)) ?_
                refine dd_callVv 49 X hml (th := 11) (As := [.int (nI (48 + ((v0 / 10) % 10)))]) (kt_X4_putSign l D C K hAp (upd F 20 (nI ((w + 1) + 1))) hs (va_up G 19 (upd (upd (G 19) w (nI (48 + ((v0 / 1000) % 10)))) (w + 1) (nI (48 + ((v0 / 100) % 10))))) T ((w + 1) + 1) (48 + ((v0 / 10) % 10)) (rfl) (by first | rfl | assumption | omega) (by first | rfl | assumption | omega)) gX4_putNumber_X4_putSign rfl ⟨rfl, rfl⟩ (dr_11 X) yd_X4_putSign ⟨Nat.le_of_ble_eq_true rfl, Nat.le_of_ble_eq_true rfl⟩ rfl rfl (Nat.le_of_ble_eq_true rfl) ⟨Nat.zero_le _, Nat.zero_le _⟩ dX4_putNumber_49 ?_
                rintro ⟨F3, hs3, G3, T3⟩ hu3
                have hv3 := hu3
                cases hv3
                refine zz_world (P' := (DP D C K (upd F 20 (nI (((w + 1) + 1) + 1))) (WH hs) (va_up G 19 (upd (upd (upd (G 19) w (nI (48 + ((v0 / 1000) % 10)))) (w + 1) (nI (48 + ((v0 / 100) % 10)))) ((w + 1) + 1) (nI (48 + ((v0 / 10) % 10))))) T)) (fun _ h => h) ?_
                refine zz_iload_n 52 X.1 0 dX4_putNumber_52 rfl ?_
                refine zz_bipush 53 X.1 (v := nI 10) dX4_putNumber_53 rfl ?_
                refine zz_idiv 55 X.1 (v := (nI 1)) dX4_putNumber_55 (zn_ne0 (by omega) (by omega)) (pk_div (by omega) (by omega) (by omega)) ?_
                refine zz_istore_n 56 X.1 (lv' := [(2, .int (nI 1)), (0, .ref (K 11)), (1, .int (nI v0))]) dX4_putNumber_56 (by decide) rfl ?_
                refine zz_goto 57 24 X.1 dX4_putNumber_57 (by decide) ?_
                refine zz_iload_n 24 X.1 0 dX4_putNumber_24 rfl ?_
                refine zz_if_le 25 60 X.1 (nI_toInt (by omega)) dX4_putNumber_25 (by decide) (fun h25 => ?_) (fun h25 => ?_)
                · exfalso; omega
                · skip
                  refine zz_iload_n 28 X.1 2 dX4_putNumber_28 rfl ?_
                  refine zz_iload_n 29 X.1 0 dX4_putNumber_29 rfl ?_
                  refine zz_icmp_ge 30 38 X.1 (nI_toInt (by omega)) (nI_toInt (by omega)) dX4_putNumber_30 (by decide) (fun h30 => ?_) (fun h30 => ?_)
                  · skip
                    refine zz_aload_n 38 X.1 1 dX4_putNumber_38 rfl ?_
                    refine zz_bipush 39 X.1 (v := nI 48) dX4_putNumber_39 rfl ?_
                    refine zz_iload_n 41 X.1 2 dX4_putNumber_41 rfl ?_
                    refine zz_iload_n 42 X.1 0 dX4_putNumber_42 rfl ?_
                    refine zz_idiv 43 X.1 (v := (nI (v0 / 1))) dX4_putNumber_43 (zn_ne0 (by omega) (by omega)) (pk_div (by omega) (by omega) (by omega)) ?_
                    refine zz_bipush 44 X.1 (v := nI 10) dX4_putNumber_44 rfl ?_
                    refine zz_irem 46 X.1 (v := (nI ((v0 / 1) % 10))) dX4_putNumber_46 (zn_ne0 (by omega) (by omega)) (pk_rem (by omega) (by omega) (by omega)) ?_
                    refine zz_iadd 47 X.1 (v := (nI (48 + ((v0 / 1) % 10)))) dX4_putNumber_47 (nI_add _ _) ?_
                    refine zz_i2c 48 X.1 (v := (nI (48 + ((v0 / 1) % 10)))) dX4_putNumber_48 (zc_i2c (by omega)) ?_
                    refine dd_callVv 49 X hml (th := 11) (As := [.int (nI (48 + ((v0 / 1) % 10)))]) (kt_X4_putSign l D C K hAp (upd F 20 (nI (((w + 1) + 1) + 1))) hs (va_up G 19 (upd (upd (upd (G 19) w (nI (48 + ((v0 / 1000) % 10)))) (w + 1) (nI (48 + ((v0 / 100) % 10)))) ((w + 1) + 1) (nI (48 + ((v0 / 10) % 10))))) T (((w + 1) + 1) + 1) (48 + ((v0 / 1) % 10)) (rfl) (by first | rfl | assumption | omega) (by first | rfl | assumption | omega)) gX4_putNumber_X4_putSign rfl ⟨rfl, rfl⟩ (dr_11 X) yd_X4_putSign ⟨Nat.le_of_ble_eq_true rfl, Nat.le_of_ble_eq_true rfl⟩ rfl rfl (Nat.le_of_ble_eq_true rfl) ⟨Nat.zero_le _, Nat.zero_le _⟩ dX4_putNumber_49 ?_
                    rintro ⟨F4, hs4, G4, T4⟩ hu4
                    have hv4 := hu4
                    cases hv4
                    refine zz_world (P' := (DP D C K (upd F 20 (nI ((((w + 1) + 1) + 1) + 1))) (WH hs) (va_up G 19 (upd (upd (upd (upd (G 19) w (nI (48 + ((v0 / 1000) % 10)))) (w + 1) (nI (48 + ((v0 / 100) % 10)))) ((w + 1) + 1) (nI (48 + ((v0 / 10) % 10)))) (((w + 1) + 1) + 1) (nI (48 + ((v0 / 1) % 10))))) T)) (fun _ h => h) ?_
                    refine zz_iload_n 52 X.1 0 dX4_putNumber_52 rfl ?_
                    refine zz_bipush 53 X.1 (v := nI 10) dX4_putNumber_53 rfl ?_
                    refine zz_idiv 55 X.1 (v := (nI 0)) dX4_putNumber_55 (zn_ne0 (by omega) (by omega)) (pk_div (by omega) (by omega) (by omega)) ?_
                    refine zz_istore_n 56 X.1 (lv' := [(2, .int (nI 0)), (0, .ref (K 11)), (1, .int (nI v0))]) dX4_putNumber_56 (by decide) rfl ?_
                    refine zz_goto 57 24 X.1 dX4_putNumber_57 (by decide) ?_
                    refine zz_iload_n 24 X.1 0 dX4_putNumber_24 rfl ?_
                    refine zz_if_le 25 60 X.1 (nI_toInt (by omega)) dX4_putNumber_25 (by decide) (fun h25 => ?_) (fun h25 => ?_)
                    · skip
                      have hwn : wM v0 (G 19, w) = ((upd (upd (upd (upd (G 19) w (nI (48 + ((v0 / 1000) % 10)))) (w + 1) (nI (48 + ((v0 / 100) % 10)))) ((w + 1) + 1) (nI (48 + ((v0 / 10) % 10)))) (((w + 1) + 1) + 1) (nI (48 + ((v0 / 1) % 10)))), ((((w + 1) + 1) + 1) + 1)) := by
                        unfold wM wN wD w1
                        first | (simp [show 1 < w by omega, show ¬ 10 ≤ v0 by omega, show ¬ 100 ≤ v0 by omega, show ¬ 1000 ≤ v0 by omega]; done) | (simp [show 1 < w by omega, show 10 ≤ v0 by omega, show ¬ 100 ≤ v0 by omega, show ¬ 1000 ≤ v0 by omega]; done) | (simp [show 1 < w by omega, show 10 ≤ v0 by omega, show 100 ≤ v0 by omega, show ¬ 1000 ≤ v0 by omega]; done) | (simp [show 1 < w by omega, show 10 ≤ v0 by omega, show 100 ≤ v0 by omega, show 1000 ≤ v0 by omega]; done) | (simp [show ¬ 1 < w by omega, show ¬ 10 ≤ v0 by omega, show ¬ 100 ≤ v0 by omega, show ¬ 1000 ≤ v0 by omega]; done) | (simp [show ¬ 1 < w by omega, show 10 ≤ v0 by omega, show ¬ 100 ≤ v0 by omega, show ¬ 1000 ≤ v0 by omega]; done) | (simp [show ¬ 1 < w by omega, show 10 ≤ v0 by omega, show 100 ≤ v0 by omega, show ¬ 1000 ≤ v0 by omega]; done) | (simp [show ¬ 1 < w by omega, show 10 ≤ v0 by omega, show 100 ≤ v0 by omega, show 1000 ≤ v0 by omega]; done)
                      rw [← hQ]
                      refine zz_vret 60 X.1 hr hlk (upd F 20 (nI ((((w + 1) + 1) + 1) + 1)), hs, va_up G 19 (upd (upd (upd (upd (G 19) w (nI (48 + ((v0 / 1000) % 10)))) (w + 1) (nI (48 + ((v0 / 100) % 10)))) ((w + 1) + 1) (nI (48 + ((v0 / 10) % 10)))) (((w + 1) + 1) + 1) (nI (48 + ((v0 / 1) % 10)))), T) ?_ (fun _ h _ => h) dX4_putNumber_60
                      rw [hwn]
                    · exfalso; omega
                  · exfalso; omega
              · exfalso; omega
          · exfalso; omega
      · skip
        refine zz_iload_n 33 X.1 0 dX4_putNumber_33 rfl ?_
        refine zz_iconst 34 X.1 (v := nI 1) dX4_putNumber_34 rfl ?_
        refine zz_icmp_ne 35 52 X.1 (nI_toInt (by omega)) (nI_toInt (by omega)) dX4_putNumber_35 (by decide) (fun h35 => ?_) (fun h35 => ?_)
        · skip
          refine zz_iload_n 52 X.1 0 dX4_putNumber_52 rfl ?_
          refine zz_bipush 53 X.1 (v := nI 10) dX4_putNumber_53 rfl ?_
          refine zz_idiv 55 X.1 (v := (nI 100)) dX4_putNumber_55 (zn_ne0 (by omega) (by omega)) (pk_div (by omega) (by omega) (by omega)) ?_
          refine zz_istore_n 56 X.1 (lv' := [(2, .int (nI 100)), (0, .ref (K 11)), (1, .int (nI v0))]) dX4_putNumber_56 (by decide) rfl ?_
          refine zz_goto 57 24 X.1 dX4_putNumber_57 (by decide) ?_
          refine zz_iload_n 24 X.1 0 dX4_putNumber_24 rfl ?_
          refine zz_if_le 25 60 X.1 (nI_toInt (by omega)) dX4_putNumber_25 (by decide) (fun h25 => ?_) (fun h25 => ?_)
          · exfalso; omega
          · skip
            refine zz_iload_n 28 X.1 2 dX4_putNumber_28 rfl ?_
            refine zz_iload_n 29 X.1 0 dX4_putNumber_29 rfl ?_
            refine zz_icmp_ge 30 38 X.1 (nI_toInt (by omega)) (nI_toInt (by omega)) dX4_putNumber_30 (by decide) (fun h30 => ?_) (fun h30 => ?_)
            · skip
              refine zz_aload_n 38 X.1 1 dX4_putNumber_38 rfl ?_
              refine zz_bipush 39 X.1 (v := nI 48) dX4_putNumber_39 rfl ?_
              refine zz_iload_n 41 X.1 2 dX4_putNumber_41 rfl ?_
              refine zz_iload_n 42 X.1 0 dX4_putNumber_42 rfl ?_
              refine zz_idiv 43 X.1 (v := (nI (v0 / 100))) dX4_putNumber_43 (zn_ne0 (by omega) (by omega)) (pk_div (by omega) (by omega) (by omega)) ?_
              refine zz_bipush 44 X.1 (v := nI 10) dX4_putNumber_44 rfl ?_
              refine zz_irem 46 X.1 (v := (nI ((v0 / 100) % 10))) dX4_putNumber_46 (zn_ne0 (by omega) (by omega)) (pk_rem (by omega) (by omega) (by omega)) ?_
              refine zz_iadd 47 X.1 (v := (nI (48 + ((v0 / 100) % 10)))) dX4_putNumber_47 (nI_add _ _) ?_
              refine zz_i2c 48 X.1 (v := (nI (48 + ((v0 / 100) % 10)))) dX4_putNumber_48 (zc_i2c (by omega)) ?_
              refine dd_callVv 49 X hml (th := 11) (As := [.int (nI (48 + ((v0 / 100) % 10)))]) (kt_X4_putSign l D C K hAp F hs G T w (48 + ((v0 / 100) % 10)) (hw) (by first | rfl | assumption | omega) (by first | rfl | assumption | omega)) gX4_putNumber_X4_putSign rfl ⟨rfl, rfl⟩ (dr_11 X) yd_X4_putSign ⟨Nat.le_of_ble_eq_true rfl, Nat.le_of_ble_eq_true rfl⟩ rfl rfl (Nat.le_of_ble_eq_true rfl) ⟨Nat.zero_le _, Nat.zero_le _⟩ dX4_putNumber_49 ?_
              rintro ⟨F5, hs5, G5, T5⟩ hu5
              have hv5 := hu5
              cases hv5
              refine zz_world (P' := (DP D C K (upd F 20 (nI (w + 1))) (WH hs) (va_up G 19 (upd (G 19) w (nI (48 + ((v0 / 100) % 10))))) T)) (fun _ h => h) ?_
              refine zz_iload_n 52 X.1 0 dX4_putNumber_52 rfl ?_
              refine zz_bipush 53 X.1 (v := nI 10) dX4_putNumber_53 rfl ?_
              refine zz_idiv 55 X.1 (v := (nI 10)) dX4_putNumber_55 (zn_ne0 (by omega) (by omega)) (pk_div (by omega) (by omega) (by omega)) ?_
              refine zz_istore_n 56 X.1 (lv' := [(2, .int (nI 10)), (0, .ref (K 11)), (1, .int (nI v0))]) dX4_putNumber_56 (by decide) rfl ?_
              refine zz_goto 57 24 X.1 dX4_putNumber_57 (by decide) ?_
              refine zz_iload_n 24 X.1 0 dX4_putNumber_24 rfl ?_
              refine zz_if_le 25 60 X.1 (nI_toInt (by omega)) dX4_putNumber_25 (by decide) (fun h25 => ?_) (fun h25 => ?_)
              · exfalso; omega
              · skip
                refine zz_iload_n 28 X.1 2 dX4_putNumber_28 rfl ?_
                refine zz_iload_n 29 X.1 0 dX4_putNumber_29 rfl ?_
                refine zz_icmp_ge 30 38 X.1 (nI_toInt (by omega)) (nI_toInt (by omega)) dX4_putNumber_30 (by decide) (fun h30 => ?_) (fun h30 => ?_)
                · skip
                  refine zz_aload_n 38 X.1 1 dX4_putNumber_38 rfl ?_
                  refine zz_bipush 39 X.1 (v := nI 48) dX4_putNumber_39 rfl ?_
                  refine zz_iload_n 41 X.1 2 dX4_putNumber_41 rfl ?_
                  refine zz_iload_n 42 X.1 0 dX4_putNumber_42 rfl ?_
                  refine zz_idiv 43 X.1 (v := (nI (v0 / 10))) dX4_putNumber_43 (zn_ne0 (by omega) (by omega)) (pk_div (by omega) (by omega) (by omega)) ?_
                  refine zz_bipush 44 X.1 (v := nI 10) dX4_putNumber_44 rfl ?_
                  refine zz_irem 46 X.1 (v := (nI ((v0 / 10) % 10))) dX4_putNumber_46 (zn_ne0 (by omega) (by omega)) (pk_rem (by omega) (by omega) (by omega)) ?_
                  refine zz_iadd 47 X.1 (v := (nI (48 + ((v0 / 10) % 10)))) dX4_putNumber_47 (nI_add _ _) ?_
                  refine zz_i2c 48 X.1 (v := (nI (48 + ((v0 / 10) % 10)))) dX4_putNumber_48 (zc_i2c (by omega)) ?_
                  refine dd_callVv 49 X hml (th := 11) (As := [.int (nI (48 + ((v0 / 10) % 10)))]) (kt_X4_putSign l D C K hAp (upd F 20 (nI (w + 1))) hs (va_up G 19 (upd (G 19) w (nI (48 + ((v0 / 100) % 10))))) T (w + 1) (48 + ((v0 / 10) % 10)) (rfl) (by first | rfl | assumption | omega) (by first | rfl | assumption | omega)) gX4_putNumber_X4_putSign rfl ⟨rfl, rfl⟩ (dr_11 X) yd_X4_putSign ⟨Nat.le_of_ble_eq_true rfl, Nat.le_of_ble_eq_true rfl⟩ rfl rfl (Nat.le_of_ble_eq_true rfl) ⟨Nat.zero_le _, Nat.zero_le _⟩ dX4_putNumber_49 ?_
                  rintro ⟨F6, hs6, G6, T6⟩ hu6
                  have hv6 := hu6
                  cases hv6
                  refine zz_world (P' := (DP D C K (upd F 20 (nI ((w + 1) + 1))) (WH hs) (va_up G 19 (upd (upd (G 19) w (nI (48 + ((v0 / 100) % 10)))) (w + 1) (nI (48 + ((v0 / 10) % 10))))) T)) (fun _ h => h) ?_
                  refine zz_iload_n 52 X.1 0 dX4_putNumber_52 rfl ?_
                  refine zz_bipush 53 X.1 (v := nI 10) dX4_putNumber_53 rfl ?_
                  refine zz_idiv 55 X.1 (v := (nI 1)) dX4_putNumber_55 (zn_ne0 (by omega) (by omega)) (pk_div (by omega) (by omega) (by omega)) ?_
                  refine zz_istore_n 56 X.1 (lv' := [(2, .int (nI 1)), (0, .ref (K 11)), (1, .int (nI v0))]) dX4_putNumber_56 (by decide) rfl ?_
                  refine zz_goto 57 24 X.1 dX4_putNumber_57 (by decide) ?_
                  refine zz_iload_n 24 X.1 0 dX4_putNumber_24 rfl ?_
                  refine zz_if_le 25 60 X.1 (nI_toInt (by omega)) dX4_putNumber_25 (by decide) (fun h25 => ?_) (fun h25 => ?_)
                  · exfalso; omega
                  · skip
                    refine zz_iload_n 28 X.1 2 dX4_putNumber_28 rfl ?_
                    refine zz_iload_n 29 X.1 0 dX4_putNumber_29 rfl ?_
                    refine zz_icmp_ge 30 38 X.1 (nI_toInt (by omega)) (nI_toInt (by omega)) dX4_putNumber_30 (by decide) (fun h30 => ?_) (fun h30 => ?_)
                    · skip
                      refine zz_aload_n 38 X.1 1 dX4_putNumber_38 rfl ?_
                      refine zz_bipush 39 X.1 (v := nI 48) dX4_putNumber_39 rfl ?_
                      refine zz_iload_n 41 X.1 2 dX4_putNumber_41 rfl ?_
                      refine zz_iload_n 42 X.1 0 dX4_putNumber_42 rfl ?_
                      refine zz_idiv 43 X.1 (v := (nI (v0 / 1))) dX4_putNumber_43 (zn_ne0 (by omega) (by omega)) (pk_div (by omega) (by omega) (by omega)) ?_
                      refine zz_bipush 44 X.1 (v := nI 10) dX4_putNumber_44 rfl ?_
                      refine zz_irem 46 X.1 (v := (nI ((v0 / 1) % 10))) dX4_putNumber_46 (zn_ne0 (by omega) (by omega)) (pk_rem (by omega) (by omega) (by omega)) ?_
                      refine zz_iadd 47 X.1 (v := (nI (48 + ((v0 / 1) % 10)))) dX4_putNumber_47 (nI_add _ _) ?_
                      refine zz_i2c 48 X.1 (v := (nI (48 + ((v0 / 1) % 10)))) dX4_putNumber_48 (zc_i2c (by omega)) ?_
                      refine dd_callVv 49 X hml (th := 11) (As := [.int (nI (48 + ((v0 / 1) % 10)))]) (kt_X4_putSign l D C K hAp (upd F 20 (nI ((w + 1) + 1))) hs (va_up G 19 (upd (upd (G 19) w (nI (48 + ((v0 / 100) % 10)))) (w + 1) (nI (48 + ((v0 / 10) % 10))))) T ((w + 1) + 1) (48 + ((v0 / 1) % 10)) (rfl) (by first | rfl | assumption | omega) (by first | rfl | assumption | omega)) gX4_putNumber_X4_putSign rfl ⟨rfl, rfl⟩ (dr_11 X) yd_X4_putSign ⟨Nat.le_of_ble_eq_true rfl, Nat.le_of_ble_eq_true rfl⟩ rfl rfl (Nat.le_of_ble_eq_true rfl) ⟨Nat.zero_le _, Nat.zero_le _⟩ dX4_putNumber_49 ?_
                      rintro ⟨F7, hs7, G7, T7⟩ hu7
                      have hv7 := hu7
                      cases hv7
                      refine zz_world (P' := (DP D C K (upd F 20 (nI (((w + 1) + 1) + 1))) (WH hs) (va_up G 19 (upd (upd (upd (G 19) w (nI (48 + ((v0 / 100) % 10)))) (w + 1) (nI (48 + ((v0 / 10) % 10)))) ((w + 1) + 1) (nI (48 + ((v0 / 1) % 10))))) T)) (fun _ h => h) ?_
                      refine zz_iload_n 52 X.1 0 dX4_putNumber_52 rfl ?_
                      refine zz_bipush 53 X.1 (v := nI 10) dX4_putNumber_53 rfl ?_
                      refine zz_idiv 55 X.1 (v := (nI 0)) dX4_putNumber_55 (zn_ne0 (by omega) (by omega)) (pk_div (by omega) (by omega) (by omega)) ?_
                      refine zz_istore_n 56 X.1 (lv' := [(2, .int (nI 0)), (0, .ref (K 11)), (1, .int (nI v0))]) dX4_putNumber_56 (by decide) rfl ?_
                      refine zz_goto 57 24 X.1 dX4_putNumber_57 (by decide) ?_
                      refine zz_iload_n 24 X.1 0 dX4_putNumber_24 rfl ?_
                      refine zz_if_le 25 60 X.1 (nI_toInt (by omega)) dX4_putNumber_25 (by decide) (fun h25 => ?_) (fun h25 => ?_)
                      · skip
                        have hwn : wM v0 (G 19, w) = ((upd (upd (upd (G 19) w (nI (48 + ((v0 / 100) % 10)))) (w + 1) (nI (48 + ((v0 / 10) % 10)))) ((w + 1) + 1) (nI (48 + ((v0 / 1) % 10)))), (((w + 1) + 1) + 1)) := by
                          unfold wM wN wD w1
                          first | (simp [show 1 < w by omega, show ¬ 10 ≤ v0 by omega, show ¬ 100 ≤ v0 by omega, show ¬ 1000 ≤ v0 by omega]; done) | (simp [show 1 < w by omega, show 10 ≤ v0 by omega, show ¬ 100 ≤ v0 by omega, show ¬ 1000 ≤ v0 by omega]; done) | (simp [show 1 < w by omega, show 10 ≤ v0 by omega, show 100 ≤ v0 by omega, show ¬ 1000 ≤ v0 by omega]; done) | (simp [show 1 < w by omega, show 10 ≤ v0 by omega, show 100 ≤ v0 by omega, show 1000 ≤ v0 by omega]; done) | (simp [show ¬ 1 < w by omega, show ¬ 10 ≤ v0 by omega, show ¬ 100 ≤ v0 by omega, show ¬ 1000 ≤ v0 by omega]; done) | (simp [show ¬ 1 < w by omega, show 10 ≤ v0 by omega, show ¬ 100 ≤ v0 by omega, show ¬ 1000 ≤ v0 by omega]; done) | (simp [show ¬ 1 < w by omega, show 10 ≤ v0 by omega, show 100 ≤ v0 by omega, show ¬ 1000 ≤ v0 by omega]; done) | (simp [show ¬ 1 < w by omega, show 10 ≤ v0 by omega, show 100 ≤ v0 by omega, show 1000 ≤ v0 by omega]; done)
                        rw [← hQ]
                        refine zz_vret 60 X.1 hr hlk (upd F 20 (nI (((w + 1) + 1) + 1)), hs, va_up G 19 (upd (upd (upd (G 19) w (nI (48 + ((v0 / 100) % 10)))) (w + 1) (nI (48 + ((v0 / 10) % 10)))) ((w + 1) + 1) (nI (48 + ((v0 / 1) % 10)))), T) ?_ (fun _ h _ => h) dX4_putNumber_60
                        rw [hwn]
                      · exfalso; omega
                    · exfalso; omega
                · exfalso; omega
            · skip
              refine zz_iload_n 33 X.1 0 dX4_putNumber_33 rfl ?_
              refine zz_iconst 34 X.1 (v := nI 1) dX4_putNumber_34 rfl ?_
              refine zz_icmp_ne 35 52 X.1 (nI_toInt (by omega)) (nI_toInt (by omega)) dX4_putNumber_35 (by decide) (fun h35 => ?_) (fun h35 => ?_)
              · skip
                refine zz_iload_n 52 X.1 0 dX4_putNumber_52 rfl ?_
                refine zz_bipush 53 X.1 (v := nI 10) dX4_putNumber_53 rfl ?_
                refine zz_idiv 55 X.1 (v := (nI 10)) dX4_putNumber_55 (zn_ne0 (by omega) (by omega)) (pk_div (by omega) (by omega) (by omega)) ?_
                refine zz_istore_n 56 X.1 (lv' := [(2, .int (nI 10)), (0, .ref (K 11)), (1, .int (nI v0))]) dX4_putNumber_56 (by decide) rfl ?_
                refine zz_goto 57 24 X.1 dX4_putNumber_57 (by decide) ?_
                refine zz_iload_n 24 X.1 0 dX4_putNumber_24 rfl ?_
                refine zz_if_le 25 60 X.1 (nI_toInt (by omega)) dX4_putNumber_25 (by decide) (fun h25 => ?_) (fun h25 => ?_)
                · exfalso; omega
                · skip
                  refine zz_iload_n 28 X.1 2 dX4_putNumber_28 rfl ?_
                  refine zz_iload_n 29 X.1 0 dX4_putNumber_29 rfl ?_
                  refine zz_icmp_ge 30 38 X.1 (nI_toInt (by omega)) (nI_toInt (by omega)) dX4_putNumber_30 (by decide) (fun h30 => ?_) (fun h30 => ?_)
                  · skip
                    refine zz_aload_n 38 X.1 1 dX4_putNumber_38 rfl ?_
                    refine zz_bipush 39 X.1 (v := nI 48) dX4_putNumber_39 rfl ?_
                    refine zz_iload_n 41 X.1 2 dX4_putNumber_41 rfl ?_
                    refine zz_iload_n 42 X.1 0 dX4_putNumber_42 rfl ?_
                    refine zz_idiv 43 X.1 (v := (nI (v0 / 10))) dX4_putNumber_43 (zn_ne0 (by omega) (by omega)) (pk_div (by omega) (by omega) (by omega)) ?_
                    refine zz_bipush 44 X.1 (v := nI 10) dX4_putNumber_44 rfl ?_
                    refine zz_irem 46 X.1 (v := (nI ((v0 / 10) % 10))) dX4_putNumber_46 (zn_ne0 (by omega) (by omega)) (pk_rem (by omega) (by omega) (by omega)) ?_
                    refine zz_iadd 47 X.1 (v := (nI (48 + ((v0 / 10) % 10)))) dX4_putNumber_47 (nI_add _ _) ?_
                    refine zz_i2c 48 X.1 (v := (nI (48 + ((v0 / 10) % 10)))) dX4_putNumber_48 (zc_i2c (by omega)) ?_
                    refine dd_callVv 49 X hml (th := 11) (As := [.int (nI (48 + ((v0 / 10) % 10)))]) (kt_X4_putSign l D C K hAp F hs G T w (48 + ((v0 / 10) % 10)) (hw) (by first | rfl | assumption | omega) (by first | rfl | assumption | omega)) gX4_putNumber_X4_putSign rfl ⟨rfl, rfl⟩ (dr_11 X) yd_X4_putSign ⟨Nat.le_of_ble_eq_true rfl, Nat.le_of_ble_eq_true rfl⟩ rfl rfl (Nat.le_of_ble_eq_true rfl) ⟨Nat.zero_le _, Nat.zero_le _⟩ dX4_putNumber_49 ?_
                    rintro ⟨F8, hs8, G8, T8⟩ hu8
                    have hv8 := hu8
                    cases hv8
                    refine zz_world (P' := (DP D C K (upd F 20 (nI (w + 1))) (WH hs) (va_up G 19 (upd (G 19) w (nI (48 + ((v0 / 10) % 10))))) T)) (fun _ h => h) ?_
                    refine zz_iload_n 52 X.1 0 dX4_putNumber_52 rfl ?_
                    refine zz_bipush 53 X.1 (v := nI 10) dX4_putNumber_53 rfl ?_
                    refine zz_idiv 55 X.1 (v := (nI 1)) dX4_putNumber_55 (zn_ne0 (by omega) (by omega)) (pk_div (by omega) (by omega) (by omega)) ?_
                    refine zz_istore_n 56 X.1 (lv' := [(2, .int (nI 1)), (0, .ref (K 11)), (1, .int (nI v0))]) dX4_putNumber_56 (by decide) rfl ?_
                    refine zz_goto 57 24 X.1 dX4_putNumber_57 (by decide) ?_
                    refine zz_iload_n 24 X.1 0 dX4_putNumber_24 rfl ?_
                    refine zz_if_le 25 60 X.1 (nI_toInt (by omega)) dX4_putNumber_25 (by decide) (fun h25 => ?_) (fun h25 => ?_)
                    · exfalso; omega
                    · skip
                      refine zz_iload_n 28 X.1 2 dX4_putNumber_28 rfl ?_
                      refine zz_iload_n 29 X.1 0 dX4_putNumber_29 rfl ?_
                      refine zz_icmp_ge 30 38 X.1 (nI_toInt (by omega)) (nI_toInt (by omega)) dX4_putNumber_30 (by decide) (fun h30 => ?_) (fun h30 => ?_)
                      · skip
                        refine zz_aload_n 38 X.1 1 dX4_putNumber_38 rfl ?_
                        refine zz_bipush 39 X.1 (v := nI 48) dX4_putNumber_39 rfl ?_
                        refine zz_iload_n 41 X.1 2 dX4_putNumber_41 rfl ?_
                        refine zz_iload_n 42 X.1 0 dX4_putNumber_42 rfl ?_
                        refine zz_idiv 43 X.1 (v := (nI (v0 / 1))) dX4_putNumber_43 (zn_ne0 (by omega) (by omega)) (pk_div (by omega) (by omega) (by omega)) ?_
                        refine zz_bipush 44 X.1 (v := nI 10) dX4_putNumber_44 rfl ?_
                        refine zz_irem 46 X.1 (v := (nI ((v0 / 1) % 10))) dX4_putNumber_46 (zn_ne0 (by omega) (by omega)) (pk_rem (by omega) (by omega) (by omega)) ?_
                        refine zz_iadd 47 X.1 (v := (nI (48 + ((v0 / 1) % 10)))) dX4_putNumber_47 (nI_add _ _) ?_
                        refine zz_i2c 48 X.1 (v := (nI (48 + ((v0 / 1) % 10)))) dX4_putNumber_48 (zc_i2c (by omega)) ?_
                        refine dd_callVv 49 X hml (th := 11) (As := [.int (nI (48 + ((v0 / 1) % 10)))]) (kt_X4_putSign l D C K hAp (upd F 20 (nI (w + 1))) hs (va_up G 19 (upd (G 19) w (nI (48 + ((v0 / 10) % 10))))) T (w + 1) (48 + ((v0 / 1) % 10)) (rfl) (by first | rfl | assumption | omega) (by first | rfl | assumption | omega)) gX4_putNumber_X4_putSign rfl ⟨rfl, rfl⟩ (dr_11 X) yd_X4_putSign ⟨Nat.le_of_ble_eq_true rfl, Nat.le_of_ble_eq_true rfl⟩ rfl rfl (Nat.le_of_ble_eq_true rfl) ⟨Nat.zero_le _, Nat.zero_le _⟩ dX4_putNumber_49 ?_
                        rintro ⟨F9, hs9, G9, T9⟩ hu9
                        have hv9 := hu9
                        cases hv9
                        refine zz_world (P' := (DP D C K (upd F 20 (nI ((w + 1) + 1))) (WH hs) (va_up G 19 (upd (upd (G 19) w (nI (48 + ((v0 / 10) % 10)))) (w + 1) (nI (48 + ((v0 / 1) % 10))))) T)) (fun _ h => h) ?_
                        refine zz_iload_n 52 X.1 0 dX4_putNumber_52 rfl ?_
                        refine zz_bipush 53 X.1 (v := nI 10) dX4_putNumber_53 rfl ?_
                        refine zz_idiv 55 X.1 (v := (nI 0)) dX4_putNumber_55 (zn_ne0 (by omega) (by omega)) (pk_div (by omega) (by omega) (by omega)) ?_
                        refine zz_istore_n 56 X.1 (lv' := [(2, .int (nI 0)), (0, .ref (K 11)), (1, .int (nI v0))]) dX4_putNumber_56 (by decide) rfl ?_
                        refine zz_goto 57 24 X.1 dX4_putNumber_57 (by decide) ?_
                        refine zz_iload_n 24 X.1 0 dX4_putNumber_24 rfl ?_
                        refine zz_if_le 25 60 X.1 (nI_toInt (by omega)) dX4_putNumber_25 (by decide) (fun h25 => ?_) (fun h25 => ?_)
                        · skip
                          have hwn : wM v0 (G 19, w) = ((upd (upd (G 19) w (nI (48 + ((v0 / 10) % 10)))) (w + 1) (nI (48 + ((v0 / 1) % 10)))), ((w + 1) + 1)) := by
                            unfold wM wN wD w1
                            first | (simp [show 1 < w by omega, show ¬ 10 ≤ v0 by omega, show ¬ 100 ≤ v0 by omega, show ¬ 1000 ≤ v0 by omega]; done) | (simp [show 1 < w by omega, show 10 ≤ v0 by omega, show ¬ 100 ≤ v0 by omega, show ¬ 1000 ≤ v0 by omega]; done) | (simp [show 1 < w by omega, show 10 ≤ v0 by omega, show 100 ≤ v0 by omega, show ¬ 1000 ≤ v0 by omega]; done) | (simp [show 1 < w by omega, show 10 ≤ v0 by omega, show 100 ≤ v0 by omega, show 1000 ≤ v0 by omega]; done) | (simp [show ¬ 1 < w by omega, show ¬ 10 ≤ v0 by omega, show ¬ 100 ≤ v0 by omega, show ¬ 1000 ≤ v0 by omega]; done) | (simp [show ¬ 1 < w by omega, show 10 ≤ v0 by omega, show ¬ 100 ≤ v0 by omega, show ¬ 1000 ≤ v0 by omega]; done) | (simp [show ¬ 1 < w by omega, show 10 ≤ v0 by omega, show 100 ≤ v0 by omega, show ¬ 1000 ≤ v0 by omega]; done) | (simp [show ¬ 1 < w by omega, show 10 ≤ v0 by omega, show 100 ≤ v0 by omega, show 1000 ≤ v0 by omega]; done)
                          rw [← hQ]
                          refine zz_vret 60 X.1 hr hlk (upd F 20 (nI ((w + 1) + 1)), hs, va_up G 19 (upd (upd (G 19) w (nI (48 + ((v0 / 10) % 10)))) (w + 1) (nI (48 + ((v0 / 1) % 10)))), T) ?_ (fun _ h _ => h) dX4_putNumber_60
                          rw [hwn]
                        · exfalso; omega
                      · exfalso; omega
                  · skip
                    refine zz_iload_n 33 X.1 0 dX4_putNumber_33 rfl ?_
                    refine zz_iconst 34 X.1 (v := nI 1) dX4_putNumber_34 rfl ?_
                    refine zz_icmp_ne 35 52 X.1 (nI_toInt (by omega)) (nI_toInt (by omega)) dX4_putNumber_35 (by decide) (fun h35 => ?_) (fun h35 => ?_)
                    · skip
                      refine zz_iload_n 52 X.1 0 dX4_putNumber_52 rfl ?_
                      refine zz_bipush 53 X.1 (v := nI 10) dX4_putNumber_53 rfl ?_
                      refine zz_idiv 55 X.1 (v := (nI 1)) dX4_putNumber_55 (zn_ne0 (by omega) (by omega)) (pk_div (by omega) (by omega) (by omega)) ?_
                      refine zz_istore_n 56 X.1 (lv' := [(2, .int (nI 1)), (0, .ref (K 11)), (1, .int (nI v0))]) dX4_putNumber_56 (by decide) rfl ?_
                      refine zz_goto 57 24 X.1 dX4_putNumber_57 (by decide) ?_
                      refine zz_iload_n 24 X.1 0 dX4_putNumber_24 rfl ?_
                      refine zz_if_le 25 60 X.1 (nI_toInt (by omega)) dX4_putNumber_25 (by decide) (fun h25 => ?_) (fun h25 => ?_)
                      · exfalso; omega
                      · skip
                        refine zz_iload_n 28 X.1 2 dX4_putNumber_28 rfl ?_
                        refine zz_iload_n 29 X.1 0 dX4_putNumber_29 rfl ?_
                        refine zz_icmp_ge 30 38 X.1 (nI_toInt (by omega)) (nI_toInt (by omega)) dX4_putNumber_30 (by decide) (fun h30 => ?_) (fun h30 => ?_)
                        · skip
                          refine zz_aload_n 38 X.1 1 dX4_putNumber_38 rfl ?_
                          refine zz_bipush 39 X.1 (v := nI 48) dX4_putNumber_39 rfl ?_
                          refine zz_iload_n 41 X.1 2 dX4_putNumber_41 rfl ?_
                          refine zz_iload_n 42 X.1 0 dX4_putNumber_42 rfl ?_
                          refine zz_idiv 43 X.1 (v := (nI (v0 / 1))) dX4_putNumber_43 (zn_ne0 (by omega) (by omega)) (pk_div (by omega) (by omega) (by omega)) ?_
                          refine zz_bipush 44 X.1 (v := nI 10) dX4_putNumber_44 rfl ?_
                          refine zz_irem 46 X.1 (v := (nI ((v0 / 1) % 10))) dX4_putNumber_46 (zn_ne0 (by omega) (by omega)) (pk_rem (by omega) (by omega) (by omega)) ?_
                          refine zz_iadd 47 X.1 (v := (nI (48 + ((v0 / 1) % 10)))) dX4_putNumber_47 (nI_add _ _) ?_
                          refine zz_i2c 48 X.1 (v := (nI (48 + ((v0 / 1) % 10)))) dX4_putNumber_48 (zc_i2c (by omega)) ?_
                          refine dd_callVv 49 X hml (th := 11) (As := [.int (nI (48 + ((v0 / 1) % 10)))]) (kt_X4_putSign l D C K hAp F hs G T w (48 + ((v0 / 1) % 10)) (hw) (by first | rfl | assumption | omega) (by first | rfl | assumption | omega)) gX4_putNumber_X4_putSign rfl ⟨rfl, rfl⟩ (dr_11 X) yd_X4_putSign ⟨Nat.le_of_ble_eq_true rfl, Nat.le_of_ble_eq_true rfl⟩ rfl rfl (Nat.le_of_ble_eq_true rfl) ⟨Nat.zero_le _, Nat.zero_le _⟩ dX4_putNumber_49 ?_
                          rintro ⟨F10, hs10, G10, T10⟩ hu10
                          have hv10 := hu10
                          cases hv10
                          refine zz_world (P' := (DP D C K (upd F 20 (nI (w + 1))) (WH hs) (va_up G 19 (upd (G 19) w (nI (48 + ((v0 / 1) % 10))))) T)) (fun _ h => h) ?_
                          refine zz_iload_n 52 X.1 0 dX4_putNumber_52 rfl ?_
                          refine zz_bipush 53 X.1 (v := nI 10) dX4_putNumber_53 rfl ?_
                          refine zz_idiv 55 X.1 (v := (nI 0)) dX4_putNumber_55 (zn_ne0 (by omega) (by omega)) (pk_div (by omega) (by omega) (by omega)) ?_
                          refine zz_istore_n 56 X.1 (lv' := [(2, .int (nI 0)), (0, .ref (K 11)), (1, .int (nI v0))]) dX4_putNumber_56 (by decide) rfl ?_
                          refine zz_goto 57 24 X.1 dX4_putNumber_57 (by decide) ?_
                          refine zz_iload_n 24 X.1 0 dX4_putNumber_24 rfl ?_
                          refine zz_if_le 25 60 X.1 (nI_toInt (by omega)) dX4_putNumber_25 (by decide) (fun h25 => ?_) (fun h25 => ?_)
                          · skip
                            have hwn : wM v0 (G 19, w) = ((upd (G 19) w (nI (48 + ((v0 / 1) % 10)))), (w + 1)) := by
                              unfold wM wN wD w1
                              first | (simp [show 1 < w by omega, show ¬ 10 ≤ v0 by omega, show ¬ 100 ≤ v0 by omega, show ¬ 1000 ≤ v0 by omega]; done) | (simp [show 1 < w by omega, show 10 ≤ v0 by omega, show ¬ 100 ≤ v0 by omega, show ¬ 1000 ≤ v0 by omega]; done) | (simp [show 1 < w by omega, show 10 ≤ v0 by omega, show 100 ≤ v0 by omega, show ¬ 1000 ≤ v0 by omega]; done) | (simp [show 1 < w by omega, show 10 ≤ v0 by omega, show 100 ≤ v0 by omega, show 1000 ≤ v0 by omega]; done) | (simp [show ¬ 1 < w by omega, show ¬ 10 ≤ v0 by omega, show ¬ 100 ≤ v0 by omega, show ¬ 1000 ≤ v0 by omega]; done) | (simp [show ¬ 1 < w by omega, show 10 ≤ v0 by omega, show ¬ 100 ≤ v0 by omega, show ¬ 1000 ≤ v0 by omega]; done) | (simp [show ¬ 1 < w by omega, show 10 ≤ v0 by omega, show 100 ≤ v0 by omega, show ¬ 1000 ≤ v0 by omega]; done) | (simp [show ¬ 1 < w by omega, show 10 ≤ v0 by omega, show 100 ≤ v0 by omega, show 1000 ≤ v0 by omega]; done)
                            rw [← hQ]
                            refine zz_vret 60 X.1 hr hlk (upd F 20 (nI (w + 1)), hs, va_up G 19 (upd (G 19) w (nI (48 + ((v0 / 1) % 10)))), T) ?_ (fun _ h _ => h) dX4_putNumber_60
                            rw [hwn]
                          · exfalso; omega
                        · skip
                          refine zz_iload_n 33 X.1 0 dX4_putNumber_33 rfl ?_
                          refine zz_iconst 34 X.1 (v := nI 1) dX4_putNumber_34 rfl ?_
                          refine zz_icmp_ne 35 52 X.1 (nI_toInt (by omega)) (nI_toInt (by omega)) dX4_putNumber_35 (by decide) (fun h35 => ?_) (fun h35 => ?_)
                          · exfalso; omega
                          · skip
                            refine zz_aload_n 38 X.1 1 dX4_putNumber_38 rfl ?_
                            refine zz_bipush 39 X.1 (v := nI 48) dX4_putNumber_39 rfl ?_
                            refine zz_iload_n 41 X.1 2 dX4_putNumber_41 rfl ?_
                            refine zz_iload_n 42 X.1 0 dX4_putNumber_42 rfl ?_
                            refine zz_idiv 43 X.1 (v := (nI (v0 / 1))) dX4_putNumber_43 (zn_ne0 (by omega) (by omega)) (pk_div (by omega) (by omega) (by omega)) ?_
                            refine zz_bipush 44 X.1 (v := nI 10) dX4_putNumber_44 rfl ?_
                            refine zz_irem 46 X.1 (v := (nI ((v0 / 1) % 10))) dX4_putNumber_46 (zn_ne0 (by omega) (by omega)) (pk_rem (by omega) (by omega) (by omega)) ?_
                            refine zz_iadd 47 X.1 (v := (nI (48 + ((v0 / 1) % 10)))) dX4_putNumber_47 (nI_add _ _) ?_
                            refine zz_i2c 48 X.1 (v := (nI (48 + ((v0 / 1) % 10)))) dX4_putNumber_48 (zc_i2c (by omega)) ?_
                            refine dd_callVv 49 X hml (th := 11) (As := [.int (nI (48 + ((v0 / 1) % 10)))]) (kt_X4_putSign l D C K hAp F hs G T w (48 + ((v0 / 1) % 10)) (hw) (by first | rfl | assumption | omega) (by first | rfl | assumption | omega)) gX4_putNumber_X4_putSign rfl ⟨rfl, rfl⟩ (dr_11 X) yd_X4_putSign ⟨Nat.le_of_ble_eq_true rfl, Nat.le_of_ble_eq_true rfl⟩ rfl rfl (Nat.le_of_ble_eq_true rfl) ⟨Nat.zero_le _, Nat.zero_le _⟩ dX4_putNumber_49 ?_
                            rintro ⟨F11, hs11, G11, T11⟩ hu11
                            have hv11 := hu11
                            cases hv11
                            refine zz_world (P' := (DP D C K (upd F 20 (nI (w + 1))) (WH hs) (va_up G 19 (upd (G 19) w (nI (48 + ((v0 / 1) % 10))))) T)) (fun _ h => h) ?_
                            refine zz_iload_n 52 X.1 0 dX4_putNumber_52 rfl ?_
                            refine zz_bipush 53 X.1 (v := nI 10) dX4_putNumber_53 rfl ?_
                            refine zz_idiv 55 X.1 (v := (nI 0)) dX4_putNumber_55 (zn_ne0 (by omega) (by omega)) (pk_div (by omega) (by omega) (by omega)) ?_
                            refine zz_istore_n 56 X.1 (lv' := [(2, .int (nI 0)), (0, .ref (K 11)), (1, .int (nI v0))]) dX4_putNumber_56 (by decide) rfl ?_
                            refine zz_goto 57 24 X.1 dX4_putNumber_57 (by decide) ?_
                            refine zz_iload_n 24 X.1 0 dX4_putNumber_24 rfl ?_
                            refine zz_if_le 25 60 X.1 (nI_toInt (by omega)) dX4_putNumber_25 (by decide) (fun h25 => ?_) (fun h25 => ?_)
                            · skip
                              have hwn : wM v0 (G 19, w) = ((upd (G 19) w (nI (48 + ((v0 / 1) % 10)))), (w + 1)) := by
                                unfold wM wN wD w1
                                first | (simp [show 1 < w by omega, show ¬ 10 ≤ v0 by omega, show ¬ 100 ≤ v0 by omega, show ¬ 1000 ≤ v0 by omega]; done) | (simp [show 1 < w by omega, show 10 ≤ v0 by omega, show ¬ 100 ≤ v0 by omega, show ¬ 1000 ≤ v0 by omega]; done) | (simp [show 1 < w by omega, show 10 ≤ v0 by omega, show 100 ≤ v0 by omega, show ¬ 1000 ≤ v0 by omega]; done) | (simp [show 1 < w by omega, show 10 ≤ v0 by omega, show 100 ≤ v0 by omega, show 1000 ≤ v0 by omega]; done) | (simp [show ¬ 1 < w by omega, show ¬ 10 ≤ v0 by omega, show ¬ 100 ≤ v0 by omega, show ¬ 1000 ≤ v0 by omega]; done) | (simp [show ¬ 1 < w by omega, show 10 ≤ v0 by omega, show ¬ 100 ≤ v0 by omega, show ¬ 1000 ≤ v0 by omega]; done) | (simp [show ¬ 1 < w by omega, show 10 ≤ v0 by omega, show 100 ≤ v0 by omega, show ¬ 1000 ≤ v0 by omega]; done) | (simp [show ¬ 1 < w by omega, show 10 ≤ v0 by omega, show 100 ≤ v0 by omega, show 1000 ≤ v0 by omega]; done)
                              rw [← hQ]
                              refine zz_vret 60 X.1 hr hlk (upd F 20 (nI (w + 1)), hs, va_up G 19 (upd (G 19) w (nI (48 + ((v0 / 1) % 10)))), T) ?_ (fun _ h _ => h) dX4_putNumber_60
                              rw [hwn]
                            · exfalso; omega
                    · exfalso; omega
              · exfalso; omega
        · exfalso; omega
  · skip
    refine zz_aload_n 8 X.1 0 dX4_putNumber_8 rfl ?_
    refine zz_bipush 9 X.1 (v := nI 44) dX4_putNumber_9 rfl ?_
    refine dd_callVv 11 X hml (th := 11) (As := [.int (nI 44)]) (kt_X4_putSign l D C K hAp F hs G T w 44 (hw) (by first | rfl | assumption | omega) (by first | rfl | assumption | omega)) gX4_putNumber_X4_putSign rfl ⟨rfl, rfl⟩ (dr_11 X) yd_X4_putSign ⟨Nat.le_of_ble_eq_true rfl, Nat.le_of_ble_eq_true rfl⟩ rfl rfl (Nat.le_of_ble_eq_true rfl) ⟨Nat.zero_le _, Nat.zero_le _⟩ dX4_putNumber_11 ?_
    rintro ⟨F12, hs12, G12, T12⟩ hu12
    have hv12 := hu12
    cases hv12
    refine zz_world (P' := (DP D C K (upd F 20 (nI (w + 1))) (WH hs) (va_up G 19 (upd (G 19) w (nI 44))) T)) (fun _ h => h) ?_
    refine zz_aload_n 14 X.1 0 dX4_putNumber_14 rfl ?_
    refine zz_bipush 15 X.1 (v := nI 32) dX4_putNumber_15 rfl ?_
    refine dd_callVv 17 X hml (th := 11) (As := [.int (nI 32)]) (kt_X4_putSign l D C K hAp (upd F 20 (nI (w + 1))) hs (va_up G 19 (upd (G 19) w (nI 44))) T (w + 1) 32 (rfl) (by first | rfl | assumption | omega) (by first | rfl | assumption | omega)) gX4_putNumber_X4_putSign rfl ⟨rfl, rfl⟩ (dr_11 X) yd_X4_putSign ⟨Nat.le_of_ble_eq_true rfl, Nat.le_of_ble_eq_true rfl⟩ rfl rfl (Nat.le_of_ble_eq_true rfl) ⟨Nat.zero_le _, Nat.zero_le _⟩ dX4_putNumber_17 ?_
    rintro ⟨F13, hs13, G13, T13⟩ hu13
    have hv13 := hu13
    cases hv13
    refine zz_world (P' := (DP D C K (upd F 20 (nI ((w + 1) + 1))) (WH hs) (va_up G 19 (upd (upd (G 19) w (nI 44)) (w + 1) (nI 32))) T)) (fun _ h => h) ?_
    refine zz_sipush 20 X.1 (v := nI 1000) dX4_putNumber_20 rfl ?_
    refine zz_istore_n 23 X.1 (lv' := [(2, .int (nI 1000)), (0, .ref (K 11)), (1, .int (nI v0))]) dX4_putNumber_23 (by decide) rfl ?_
    refine zz_iload_n 24 X.1 0 dX4_putNumber_24 rfl ?_
    refine zz_if_le 25 60 X.1 (nI_toInt (by omega)) dX4_putNumber_25 (by decide) (fun h25 => ?_) (fun h25 => ?_)
    · exfalso; omega
    · skip
      refine zz_iload_n 28 X.1 2 dX4_putNumber_28 rfl ?_
      refine zz_iload_n 29 X.1 0 dX4_putNumber_29 rfl ?_
      refine zz_icmp_ge 30 38 X.1 (nI_toInt (by omega)) (nI_toInt (by omega)) dX4_putNumber_30 (by decide) (fun h30 => ?_) (fun h30 => ?_)
      · skip
        refine zz_aload_n 38 X.1 1 dX4_putNumber_38 rfl ?_
        refine zz_bipush 39 X.1 (v := nI 48) dX4_putNumber_39 rfl ?_
        refine zz_iload_n 41 X.1 2 dX4_putNumber_41 rfl ?_
        refine zz_iload_n 42 X.1 0 dX4_putNumber_42 rfl ?_
        refine zz_idiv 43 X.1 (v := (nI (v0 / 1000))) dX4_putNumber_43 (zn_ne0 (by omega) (by omega)) (pk_div (by omega) (by omega) (by omega)) ?_
        refine zz_bipush 44 X.1 (v := nI 10) dX4_putNumber_44 rfl ?_
        refine zz_irem 46 X.1 (v := (nI ((v0 / 1000) % 10))) dX4_putNumber_46 (zn_ne0 (by omega) (by omega)) (pk_rem (by omega) (by omega) (by omega)) ?_
        refine zz_iadd 47 X.1 (v := (nI (48 + ((v0 / 1000) % 10)))) dX4_putNumber_47 (nI_add _ _) ?_
        refine zz_i2c 48 X.1 (v := (nI (48 + ((v0 / 1000) % 10)))) dX4_putNumber_48 (zc_i2c (by omega)) ?_
        refine dd_callVv 49 X hml (th := 11) (As := [.int (nI (48 + ((v0 / 1000) % 10)))]) (kt_X4_putSign l D C K hAp (upd F 20 (nI ((w + 1) + 1))) hs (va_up G 19 (upd (upd (G 19) w (nI 44)) (w + 1) (nI 32))) T ((w + 1) + 1) (48 + ((v0 / 1000) % 10)) (rfl) (by first | rfl | assumption | omega) (by first | rfl | assumption | omega)) gX4_putNumber_X4_putSign rfl ⟨rfl, rfl⟩ (dr_11 X) yd_X4_putSign ⟨Nat.le_of_ble_eq_true rfl, Nat.le_of_ble_eq_true rfl⟩ rfl rfl (Nat.le_of_ble_eq_true rfl) ⟨Nat.zero_le _, Nat.zero_le _⟩ dX4_putNumber_49 ?_
        rintro ⟨F14, hs14, G14, T14⟩ hu14
        have hv14 := hu14
        cases hv14
        refine zz_world (P' := (DP D C K (upd F 20 (nI (((w + 1) + 1) + 1))) (WH hs) (va_up G 19 (upd (upd (upd (G 19) w (nI 44)) (w + 1) (nI 32)) ((w + 1) + 1) (nI (48 + ((v0 / 1000) % 10))))) T)) (fun _ h => h) ?_
        refine zz_iload_n 52 X.1 0 dX4_putNumber_52 rfl ?_
        refine zz_bipush 53 X.1 (v := nI 10) dX4_putNumber_53 rfl ?_
        refine zz_idiv 55 X.1 (v := (nI 100)) dX4_putNumber_55 (zn_ne0 (by omega) (by omega)) (pk_div (by omega) (by omega) (by omega)) ?_
        refine zz_istore_n 56 X.1 (lv' := [(2, .int (nI 100)), (0, .ref (K 11)), (1, .int (nI v0))]) dX4_putNumber_56 (by decide) rfl ?_
        refine zz_goto 57 24 X.1 dX4_putNumber_57 (by decide) ?_
        refine zz_iload_n 24 X.1 0 dX4_putNumber_24 rfl ?_
        refine zz_if_le 25 60 X.1 (nI_toInt (by omega)) dX4_putNumber_25 (by decide) (fun h25 => ?_) (fun h25 => ?_)
        · exfalso; omega
        · skip
          refine zz_iload_n 28 X.1 2 dX4_putNumber_28 rfl ?_
          refine zz_iload_n 29 X.1 0 dX4_putNumber_29 rfl ?_
          refine zz_icmp_ge 30 38 X.1 (nI_toInt (by omega)) (nI_toInt (by omega)) dX4_putNumber_30 (by decide) (fun h30 => ?_) (fun h30 => ?_)
          · skip
            refine zz_aload_n 38 X.1 1 dX4_putNumber_38 rfl ?_
            refine zz_bipush 39 X.1 (v := nI 48) dX4_putNumber_39 rfl ?_
            refine zz_iload_n 41 X.1 2 dX4_putNumber_41 rfl ?_
            refine zz_iload_n 42 X.1 0 dX4_putNumber_42 rfl ?_
            refine zz_idiv 43 X.1 (v := (nI (v0 / 100))) dX4_putNumber_43 (zn_ne0 (by omega) (by omega)) (pk_div (by omega) (by omega) (by omega)) ?_
            refine zz_bipush 44 X.1 (v := nI 10) dX4_putNumber_44 rfl ?_
            refine zz_irem 46 X.1 (v := (nI ((v0 / 100) % 10))) dX4_putNumber_46 (zn_ne0 (by omega) (by omega)) (pk_rem (by omega) (by omega) (by omega)) ?_
            refine zz_iadd 47 X.1 (v := (nI (48 + ((v0 / 100) % 10)))) dX4_putNumber_47 (nI_add _ _) ?_
            refine zz_i2c 48 X.1 (v := (nI (48 + ((v0 / 100) % 10)))) dX4_putNumber_48 (zc_i2c (by omega)) ?_
            refine dd_callVv 49 X hml (th := 11) (As := [.int (nI (48 + ((v0 / 100) % 10)))]) (kt_X4_putSign l D C K hAp (upd F 20 (nI (((w + 1) + 1) + 1))) hs (va_up G 19 (upd (upd (upd (G 19) w (nI 44)) (w + 1) (nI 32)) ((w + 1) + 1) (nI (48 + ((v0 / 1000) % 10))))) T (((w + 1) + 1) + 1) (48 + ((v0 / 100) % 10)) (rfl) (by first | rfl | assumption | omega) (by first | rfl | assumption | omega)) gX4_putNumber_X4_putSign rfl ⟨rfl, rfl⟩ (dr_11 X) yd_X4_putSign ⟨Nat.le_of_ble_eq_true rfl, Nat.le_of_ble_eq_true rfl⟩ rfl rfl (Nat.le_of_ble_eq_true rfl) ⟨Nat.zero_le _, Nat.zero_le _⟩ dX4_putNumber_49 ?_
            rintro ⟨F15, hs15, G15, T15⟩ hu15
            have hv15 := hu15
            cases hv15
            refine zz_world (P' := (DP D C K (upd F 20 (nI ((((w + 1) + 1) + 1) + 1))) (WH hs) (va_up G 19 (upd (upd (upd (upd (G 19) w (nI 44)) (w + 1) (nI 32)) ((w + 1) + 1) (nI (48 + ((v0 / 1000) % 10)))) (((w + 1) + 1) + 1) (nI (48 + ((v0 / 100) % 10))))) T)) (fun _ h => h) ?_
            refine zz_iload_n 52 X.1 0 dX4_putNumber_52 rfl ?_
            refine zz_bipush 53 X.1 (v := nI 10) dX4_putNumber_53 rfl ?_
            refine zz_idiv 55 X.1 (v := (nI 10)) dX4_putNumber_55 (zn_ne0 (by omega) (by omega)) (pk_div (by omega) (by omega) (by omega)) ?_
            refine zz_istore_n 56 X.1 (lv' := [(2, .int (nI 10)), (0, .ref (K 11)), (1, .int (nI v0))]) dX4_putNumber_56 (by decide) rfl ?_
            refine zz_goto 57 24 X.1 dX4_putNumber_57 (by decide) ?_
            refine zz_iload_n 24 X.1 0 dX4_putNumber_24 rfl ?_
            refine zz_if_le 25 60 X.1 (nI_toInt (by omega)) dX4_putNumber_25 (by decide) (fun h25 => ?_) (fun h25 => ?_)
            · exfalso; omega
            · skip
              refine zz_iload_n 28 X.1 2 dX4_putNumber_28 rfl ?_
              refine zz_iload_n 29 X.1 0 dX4_putNumber_29 rfl ?_
              refine zz_icmp_ge 30 38 X.1 (nI_toInt (by omega)) (nI_toInt (by omega)) dX4_putNumber_30 (by decide) (fun h30 => ?_) (fun h30 => ?_)
              · skip
                refine zz_aload_n 38 X.1 1 dX4_putNumber_38 rfl ?_
                refine zz_bipush 39 X.1 (v := nI 48) dX4_putNumber_39 rfl ?_
                refine zz_iload_n 41 X.1 2 dX4_putNumber_41 rfl ?_
                refine zz_iload_n 42 X.1 0 dX4_putNumber_42 rfl ?_
                refine zz_idiv 43 X.1 (v := (nI (v0 / 10))) dX4_putNumber_43 (zn_ne0 (by omega) (by omega)) (pk_div (by omega) (by omega) (by omega)) ?_
                refine zz_bipush 44 X.1 (v := nI 10) dX4_putNumber_44 rfl ?_
                refine zz_irem 46 X.1 (v := (nI ((v0 / 10) % 10))) dX4_putNumber_46 (zn_ne0 (by omega) (by omega)) (pk_rem (by omega) (by omega) (by omega)) ?_
                refine zz_iadd 47 X.1 (v := (nI (48 + ((v0 / 10) % 10)))) dX4_putNumber_47 (nI_add _ _) ?_
                refine zz_i2c 48 X.1 (v := (nI (48 + ((v0 / 10) % 10)))) dX4_putNumber_48 (zc_i2c (by omega)) ?_
                refine dd_callVv 49 X hml (th := 11) (As := [.int (nI (48 + ((v0 / 10) % 10)))]) (kt_X4_putSign l D C K hAp (upd F 20 (nI ((((w + 1) + 1) + 1) + 1))) hs (va_up G 19 (upd (upd (upd (upd (G 19) w (nI 44)) (w + 1) (nI 32)) ((w + 1) + 1) (nI (48 + ((v0 / 1000) % 10)))) (((w + 1) + 1) + 1) (nI (48 + ((v0 / 100) % 10))))) T ((((w + 1) + 1) + 1) + 1) (48 + ((v0 / 10) % 10)) (rfl) (by first | rfl | assumption | omega) (by first | rfl | assumption | omega)) gX4_putNumber_X4_putSign rfl ⟨rfl, rfl⟩ (dr_11 X) yd_X4_putSign ⟨Nat.le_of_ble_eq_true rfl, Nat.le_of_ble_eq_true rfl⟩ rfl rfl (Nat.le_of_ble_eq_true rfl) ⟨Nat.zero_le _, Nat.zero_le _⟩ dX4_putNumber_49 ?_
                rintro ⟨F16, hs16, G16, T16⟩ hu16
                have hv16 := hu16
                cases hv16
                refine zz_world (P' := (DP D C K (upd F 20 (nI (((((w + 1) + 1) + 1) + 1) + 1))) (WH hs) (va_up G 19 (upd (upd (upd (upd (upd (G 19) w (nI 44)) (w + 1) (nI 32)) ((w + 1) + 1) (nI (48 + ((v0 / 1000) % 10)))) (((w + 1) + 1) + 1) (nI (48 + ((v0 / 100) % 10)))) ((((w + 1) + 1) + 1) + 1) (nI (48 + ((v0 / 10) % 10))))) T)) (fun _ h => h) ?_
                refine zz_iload_n 52 X.1 0 dX4_putNumber_52 rfl ?_
                refine zz_bipush 53 X.1 (v := nI 10) dX4_putNumber_53 rfl ?_
                refine zz_idiv 55 X.1 (v := (nI 1)) dX4_putNumber_55 (zn_ne0 (by omega) (by omega)) (pk_div (by omega) (by omega) (by omega)) ?_
                refine zz_istore_n 56 X.1 (lv' := [(2, .int (nI 1)), (0, .ref (K 11)), (1, .int (nI v0))]) dX4_putNumber_56 (by decide) rfl ?_
                refine zz_goto 57 24 X.1 dX4_putNumber_57 (by decide) ?_
                refine zz_iload_n 24 X.1 0 dX4_putNumber_24 rfl ?_
                refine zz_if_le 25 60 X.1 (nI_toInt (by omega)) dX4_putNumber_25 (by decide) (fun h25 => ?_) (fun h25 => ?_)
                · exfalso; omega
                · skip
                  refine zz_iload_n 28 X.1 2 dX4_putNumber_28 rfl ?_
                  refine zz_iload_n 29 X.1 0 dX4_putNumber_29 rfl ?_
                  refine zz_icmp_ge 30 38 X.1 (nI_toInt (by omega)) (nI_toInt (by omega)) dX4_putNumber_30 (by decide) (fun h30 => ?_) (fun h30 => ?_)
                  · skip
                    refine zz_aload_n 38 X.1 1 dX4_putNumber_38 rfl ?_
                    refine zz_bipush 39 X.1 (v := nI 48) dX4_putNumber_39 rfl ?_
                    refine zz_iload_n 41 X.1 2 dX4_putNumber_41 rfl ?_
                    refine zz_iload_n 42 X.1 0 dX4_putNumber_42 rfl ?_
                    refine zz_idiv 43 X.1 (v := (nI (v0 / 1))) dX4_putNumber_43 (zn_ne0 (by omega) (by omega)) (pk_div (by omega) (by omega) (by omega)) ?_
                    refine zz_bipush 44 X.1 (v := nI 10) dX4_putNumber_44 rfl ?_
                    refine zz_irem 46 X.1 (v := (nI ((v0 / 1) % 10))) dX4_putNumber_46 (zn_ne0 (by omega) (by omega)) (pk_rem (by omega) (by omega) (by omega)) ?_
                    refine zz_iadd 47 X.1 (v := (nI (48 + ((v0 / 1) % 10)))) dX4_putNumber_47 (nI_add _ _) ?_
                    refine zz_i2c 48 X.1 (v := (nI (48 + ((v0 / 1) % 10)))) dX4_putNumber_48 (zc_i2c (by omega)) ?_
                    refine dd_callVv 49 X hml (th := 11) (As := [.int (nI (48 + ((v0 / 1) % 10)))]) (kt_X4_putSign l D C K hAp (upd F 20 (nI (((((w + 1) + 1) + 1) + 1) + 1))) hs (va_up G 19 (upd (upd (upd (upd (upd (G 19) w (nI 44)) (w + 1) (nI 32)) ((w + 1) + 1) (nI (48 + ((v0 / 1000) % 10)))) (((w + 1) + 1) + 1) (nI (48 + ((v0 / 100) % 10)))) ((((w + 1) + 1) + 1) + 1) (nI (48 + ((v0 / 10) % 10))))) T (((((w + 1) + 1) + 1) + 1) + 1) (48 + ((v0 / 1) % 10)) (rfl) (by first | rfl | assumption | omega) (by first | rfl | assumption | omega)) gX4_putNumber_X4_putSign rfl ⟨rfl, rfl⟩ (dr_11 X) yd_X4_putSign ⟨Nat.le_of_ble_eq_true rfl, Nat.le_of_ble_eq_true rfl⟩ rfl rfl (Nat.le_of_ble_eq_true rfl) ⟨Nat.zero_le _, Nat.zero_le _⟩ dX4_putNumber_49 ?_
                    rintro ⟨F17, hs17, G17, T17⟩ hu17
                    have hv17 := hu17
                    cases hv17
                    refine zz_world (P' := (DP D C K (upd F 20 (nI ((((((w + 1) + 1) + 1) + 1) + 1) + 1))) (WH hs) (va_up G 19 (upd (upd (upd (upd (upd (upd (G 19) w (nI 44)) (w + 1) (nI 32)) ((w + 1) + 1) (nI (48 + ((v0 / 1000) % 10)))) (((w + 1) + 1) + 1) (nI (48 + ((v0 / 100) % 10)))) ((((w + 1) + 1) + 1) + 1) (nI (48 + ((v0 / 10) % 10)))) (((((w + 1) + 1) + 1) + 1) + 1) (nI (48 + ((v0 / 1) % 10))))) T)) (fun _ h => h) ?_
                    refine zz_iload_n 52 X.1 0 dX4_putNumber_52 rfl ?_
                    refine zz_bipush 53 X.1 (v := nI 10) dX4_putNumber_53 rfl ?_
                    refine zz_idiv 55 X.1 (v := (nI 0)) dX4_putNumber_55 (zn_ne0 (by omega) (by omega)) (pk_div (by omega) (by omega) (by omega)) ?_
                    refine zz_istore_n 56 X.1 (lv' := [(2, .int (nI 0)), (0, .ref (K 11)), (1, .int (nI v0))]) dX4_putNumber_56 (by decide) rfl ?_
                    refine zz_goto 57 24 X.1 dX4_putNumber_57 (by decide) ?_
                    refine zz_iload_n 24 X.1 0 dX4_putNumber_24 rfl ?_
                    refine zz_if_le 25 60 X.1 (nI_toInt (by omega)) dX4_putNumber_25 (by decide) (fun h25 => ?_) (fun h25 => ?_)
                    · skip
                      have hwn : wM v0 (G 19, w) = ((upd (upd (upd (upd (upd (upd (G 19) w (nI 44)) (w + 1) (nI 32)) ((w + 1) + 1) (nI (48 + ((v0 / 1000) % 10)))) (((w + 1) + 1) + 1) (nI (48 + ((v0 / 100) % 10)))) ((((w + 1) + 1) + 1) + 1) (nI (48 + ((v0 / 10) % 10)))) (((((w + 1) + 1) + 1) + 1) + 1) (nI (48 + ((v0 / 1) % 10)))), ((((((w + 1) + 1) + 1) + 1) + 1) + 1)) := by
                        unfold wM wN wD w1
                        first | (simp [show 1 < w by omega, show ¬ 10 ≤ v0 by omega, show ¬ 100 ≤ v0 by omega, show ¬ 1000 ≤ v0 by omega]; done) | (simp [show 1 < w by omega, show 10 ≤ v0 by omega, show ¬ 100 ≤ v0 by omega, show ¬ 1000 ≤ v0 by omega]; done) | (simp [show 1 < w by omega, show 10 ≤ v0 by omega, show 100 ≤ v0 by omega, show ¬ 1000 ≤ v0 by omega]; done) | (simp [show 1 < w by omega, show 10 ≤ v0 by omega, show 100 ≤ v0 by omega, show 1000 ≤ v0 by omega]; done) | (simp [show ¬ 1 < w by omega, show ¬ 10 ≤ v0 by omega, show ¬ 100 ≤ v0 by omega, show ¬ 1000 ≤ v0 by omega]; done) | (simp [show ¬ 1 < w by omega, show 10 ≤ v0 by omega, show ¬ 100 ≤ v0 by omega, show ¬ 1000 ≤ v0 by omega]; done) | (simp [show ¬ 1 < w by omega, show 10 ≤ v0 by omega, show 100 ≤ v0 by omega, show ¬ 1000 ≤ v0 by omega]; done) | (simp [show ¬ 1 < w by omega, show 10 ≤ v0 by omega, show 100 ≤ v0 by omega, show 1000 ≤ v0 by omega]; done)
                      rw [← hQ]
                      refine zz_vret 60 X.1 hr hlk (upd F 20 (nI ((((((w + 1) + 1) + 1) + 1) + 1) + 1)), hs, va_up G 19 (upd (upd (upd (upd (upd (upd (G 19) w (nI 44)) (w + 1) (nI 32)) ((w + 1) + 1) (nI (48 + ((v0 / 1000) % 10)))) (((w + 1) + 1) + 1) (nI (48 + ((v0 / 100) % 10)))) ((((w + 1) + 1) + 1) + 1) (nI (48 + ((v0 / 10) % 10)))) (((((w + 1) + 1) + 1) + 1) + 1) (nI (48 + ((v0 / 1) % 10)))), T) ?_ (fun _ h _ => h) dX4_putNumber_60
                      rw [hwn]
                    · exfalso; omega
                  · exfalso; omega
              · exfalso; omega
          · exfalso; omega
      · skip
        refine zz_iload_n 33 X.1 0 dX4_putNumber_33 rfl ?_
        refine zz_iconst 34 X.1 (v := nI 1) dX4_putNumber_34 rfl ?_
        refine zz_icmp_ne 35 52 X.1 (nI_toInt (by omega)) (nI_toInt (by omega)) dX4_putNumber_35 (by decide) (fun h35 => ?_) (fun h35 => ?_)
        · skip
          refine zz_iload_n 52 X.1 0 dX4_putNumber_52 rfl ?_
          refine zz_bipush 53 X.1 (v := nI 10) dX4_putNumber_53 rfl ?_
          refine zz_idiv 55 X.1 (v := (nI 100)) dX4_putNumber_55 (zn_ne0 (by omega) (by omega)) (pk_div (by omega) (by omega) (by omega)) ?_
          refine zz_istore_n 56 X.1 (lv' := [(2, .int (nI 100)), (0, .ref (K 11)), (1, .int (nI v0))]) dX4_putNumber_56 (by decide) rfl ?_
          refine zz_goto 57 24 X.1 dX4_putNumber_57 (by decide) ?_
          refine zz_iload_n 24 X.1 0 dX4_putNumber_24 rfl ?_
          refine zz_if_le 25 60 X.1 (nI_toInt (by omega)) dX4_putNumber_25 (by decide) (fun h25 => ?_) (fun h25 => ?_)
          · exfalso; omega
          · skip
            refine zz_iload_n 28 X.1 2 dX4_putNumber_28 rfl ?_
            refine zz_iload_n 29 X.1 0 dX4_putNumber_29 rfl ?_
            refine zz_icmp_ge 30 38 X.1 (nI_toInt (by omega)) (nI_toInt (by omega)) dX4_putNumber_30 (by decide) (fun h30 => ?_) (fun h30 => ?_)
            · skip
              refine zz_aload_n 38 X.1 1 dX4_putNumber_38 rfl ?_
              refine zz_bipush 39 X.1 (v := nI 48) dX4_putNumber_39 rfl ?_
              refine zz_iload_n 41 X.1 2 dX4_putNumber_41 rfl ?_
              refine zz_iload_n 42 X.1 0 dX4_putNumber_42 rfl ?_
              refine zz_idiv 43 X.1 (v := (nI (v0 / 100))) dX4_putNumber_43 (zn_ne0 (by omega) (by omega)) (pk_div (by omega) (by omega) (by omega)) ?_
              refine zz_bipush 44 X.1 (v := nI 10) dX4_putNumber_44 rfl ?_
              refine zz_irem 46 X.1 (v := (nI ((v0 / 100) % 10))) dX4_putNumber_46 (zn_ne0 (by omega) (by omega)) (pk_rem (by omega) (by omega) (by omega)) ?_
              refine zz_iadd 47 X.1 (v := (nI (48 + ((v0 / 100) % 10)))) dX4_putNumber_47 (nI_add _ _) ?_
              refine zz_i2c 48 X.1 (v := (nI (48 + ((v0 / 100) % 10)))) dX4_putNumber_48 (zc_i2c (by omega)) ?_
              refine dd_callVv 49 X hml (th := 11) (As := [.int (nI (48 + ((v0 / 100) % 10)))]) (kt_X4_putSign l D C K hAp (upd F 20 (nI ((w + 1) + 1))) hs (va_up G 19 (upd (upd (G 19) w (nI 44)) (w + 1) (nI 32))) T ((w + 1) + 1) (48 + ((v0 / 100) % 10)) (rfl) (by first | rfl | assumption | omega) (by first | rfl | assumption | omega)) gX4_putNumber_X4_putSign rfl ⟨rfl, rfl⟩ (dr_11 X) yd_X4_putSign ⟨Nat.le_of_ble_eq_true rfl, Nat.le_of_ble_eq_true rfl⟩ rfl rfl (Nat.le_of_ble_eq_true rfl) ⟨Nat.zero_le _, Nat.zero_le _⟩ dX4_putNumber_49 ?_
              rintro ⟨F18, hs18, G18, T18⟩ hu18
              have hv18 := hu18
              cases hv18
              refine zz_world (P' := (DP D C K (upd F 20 (nI (((w + 1) + 1) + 1))) (WH hs) (va_up G 19 (upd (upd (upd (G 19) w (nI 44)) (w + 1) (nI 32)) ((w + 1) + 1) (nI (48 + ((v0 / 100) % 10))))) T)) (fun _ h => h) ?_
              refine zz_iload_n 52 X.1 0 dX4_putNumber_52 rfl ?_
              refine zz_bipush 53 X.1 (v := nI 10) dX4_putNumber_53 rfl ?_
              refine zz_idiv 55 X.1 (v := (nI 10)) dX4_putNumber_55 (zn_ne0 (by omega) (by omega)) (pk_div (by omega) (by omega) (by omega)) ?_
              refine zz_istore_n 56 X.1 (lv' := [(2, .int (nI 10)), (0, .ref (K 11)), (1, .int (nI v0))]) dX4_putNumber_56 (by decide) rfl ?_
              refine zz_goto 57 24 X.1 dX4_putNumber_57 (by decide) ?_
              refine zz_iload_n 24 X.1 0 dX4_putNumber_24 rfl ?_
              refine zz_if_le 25 60 X.1 (nI_toInt (by omega)) dX4_putNumber_25 (by decide) (fun h25 => ?_) (fun h25 => ?_)
              · exfalso; omega
              · skip
                refine zz_iload_n 28 X.1 2 dX4_putNumber_28 rfl ?_
                refine zz_iload_n 29 X.1 0 dX4_putNumber_29 rfl ?_
                refine zz_icmp_ge 30 38 X.1 (nI_toInt (by omega)) (nI_toInt (by omega)) dX4_putNumber_30 (by decide) (fun h30 => ?_) (fun h30 => ?_)
                · skip
                  refine zz_aload_n 38 X.1 1 dX4_putNumber_38 rfl ?_
                  refine zz_bipush 39 X.1 (v := nI 48) dX4_putNumber_39 rfl ?_
                  refine zz_iload_n 41 X.1 2 dX4_putNumber_41 rfl ?_
                  refine zz_iload_n 42 X.1 0 dX4_putNumber_42 rfl ?_
                  refine zz_idiv 43 X.1 (v := (nI (v0 / 10))) dX4_putNumber_43 (zn_ne0 (by omega) (by omega)) (pk_div (by omega) (by omega) (by omega)) ?_
                  refine zz_bipush 44 X.1 (v := nI 10) dX4_putNumber_44 rfl ?_
                  refine zz_irem 46 X.1 (v := (nI ((v0 / 10) % 10))) dX4_putNumber_46 (zn_ne0 (by omega) (by omega)) (pk_rem (by omega) (by omega) (by omega)) ?_
                  refine zz_iadd 47 X.1 (v := (nI (48 + ((v0 / 10) % 10)))) dX4_putNumber_47 (nI_add _ _) ?_
                  refine zz_i2c 48 X.1 (v := (nI (48 + ((v0 / 10) % 10)))) dX4_putNumber_48 (zc_i2c (by omega)) ?_
                  refine dd_callVv 49 X hml (th := 11) (As := [.int (nI (48 + ((v0 / 10) % 10)))]) (kt_X4_putSign l D C K hAp (upd F 20 (nI (((w + 1) + 1) + 1))) hs (va_up G 19 (upd (upd (upd (G 19) w (nI 44)) (w + 1) (nI 32)) ((w + 1) + 1) (nI (48 + ((v0 / 100) % 10))))) T (((w + 1) + 1) + 1) (48 + ((v0 / 10) % 10)) (rfl) (by first | rfl | assumption | omega) (by first | rfl | assumption | omega)) gX4_putNumber_X4_putSign rfl ⟨rfl, rfl⟩ (dr_11 X) yd_X4_putSign ⟨Nat.le_of_ble_eq_true rfl, Nat.le_of_ble_eq_true rfl⟩ rfl rfl (Nat.le_of_ble_eq_true rfl) ⟨Nat.zero_le _, Nat.zero_le _⟩ dX4_putNumber_49 ?_
                  rintro ⟨F19, hs19, G19, T19⟩ hu19
                  have hv19 := hu19
                  cases hv19
                  refine zz_world (P' := (DP D C K (upd F 20 (nI ((((w + 1) + 1) + 1) + 1))) (WH hs) (va_up G 19 (upd (upd (upd (upd (G 19) w (nI 44)) (w + 1) (nI 32)) ((w + 1) + 1) (nI (48 + ((v0 / 100) % 10)))) (((w + 1) + 1) + 1) (nI (48 + ((v0 / 10) % 10))))) T)) (fun _ h => h) ?_
                  refine zz_iload_n 52 X.1 0 dX4_putNumber_52 rfl ?_
                  refine zz_bipush 53 X.1 (v := nI 10) dX4_putNumber_53 rfl ?_
                  refine zz_idiv 55 X.1 (v := (nI 1)) dX4_putNumber_55 (zn_ne0 (by omega) (by omega)) (pk_div (by omega) (by omega) (by omega)) ?_
                  refine zz_istore_n 56 X.1 (lv' := [(2, .int (nI 1)), (0, .ref (K 11)), (1, .int (nI v0))]) dX4_putNumber_56 (by decide) rfl ?_
                  refine zz_goto 57 24 X.1 dX4_putNumber_57 (by decide) ?_
                  refine zz_iload_n 24 X.1 0 dX4_putNumber_24 rfl ?_
                  refine zz_if_le 25 60 X.1 (nI_toInt (by omega)) dX4_putNumber_25 (by decide) (fun h25 => ?_) (fun h25 => ?_)
                  · exfalso; omega
                  · skip
                    refine zz_iload_n 28 X.1 2 dX4_putNumber_28 rfl ?_
                    refine zz_iload_n 29 X.1 0 dX4_putNumber_29 rfl ?_
                    refine zz_icmp_ge 30 38 X.1 (nI_toInt (by omega)) (nI_toInt (by omega)) dX4_putNumber_30 (by decide) (fun h30 => ?_) (fun h30 => ?_)
                    · skip
                      refine zz_aload_n 38 X.1 1 dX4_putNumber_38 rfl ?_
                      refine zz_bipush 39 X.1 (v := nI 48) dX4_putNumber_39 rfl ?_
                      refine zz_iload_n 41 X.1 2 dX4_putNumber_41 rfl ?_
                      refine zz_iload_n 42 X.1 0 dX4_putNumber_42 rfl ?_
                      refine zz_idiv 43 X.1 (v := (nI (v0 / 1))) dX4_putNumber_43 (zn_ne0 (by omega) (by omega)) (pk_div (by omega) (by omega) (by omega)) ?_
                      refine zz_bipush 44 X.1 (v := nI 10) dX4_putNumber_44 rfl ?_
                      refine zz_irem 46 X.1 (v := (nI ((v0 / 1) % 10))) dX4_putNumber_46 (zn_ne0 (by omega) (by omega)) (pk_rem (by omega) (by omega) (by omega)) ?_
                      refine zz_iadd 47 X.1 (v := (nI (48 + ((v0 / 1) % 10)))) dX4_putNumber_47 (nI_add _ _) ?_
                      refine zz_i2c 48 X.1 (v := (nI (48 + ((v0 / 1) % 10)))) dX4_putNumber_48 (zc_i2c (by omega)) ?_
                      refine dd_callVv 49 X hml (th := 11) (As := [.int (nI (48 + ((v0 / 1) % 10)))]) (kt_X4_putSign l D C K hAp (upd F 20 (nI ((((w + 1) + 1) + 1) + 1))) hs (va_up G 19 (upd (upd (upd (upd (G 19) w (nI 44)) (w + 1) (nI 32)) ((w + 1) + 1) (nI (48 + ((v0 / 100) % 10)))) (((w + 1) + 1) + 1) (nI (48 + ((v0 / 10) % 10))))) T ((((w + 1) + 1) + 1) + 1) (48 + ((v0 / 1) % 10)) (rfl) (by first | rfl | assumption | omega) (by first | rfl | assumption | omega)) gX4_putNumber_X4_putSign rfl ⟨rfl, rfl⟩ (dr_11 X) yd_X4_putSign ⟨Nat.le_of_ble_eq_true rfl, Nat.le_of_ble_eq_true rfl⟩ rfl rfl (Nat.le_of_ble_eq_true rfl) ⟨Nat.zero_le _, Nat.zero_le _⟩ dX4_putNumber_49 ?_
                      rintro ⟨F20, hs20, G20, T20⟩ hu20
                      have hv20 := hu20
                      cases hv20
                      refine zz_world (P' := (DP D C K (upd F 20 (nI (((((w + 1) + 1) + 1) + 1) + 1))) (WH hs) (va_up G 19 (upd (upd (upd (upd (upd (G 19) w (nI 44)) (w + 1) (nI 32)) ((w + 1) + 1) (nI (48 + ((v0 / 100) % 10)))) (((w + 1) + 1) + 1) (nI (48 + ((v0 / 10) % 10)))) ((((w + 1) + 1) + 1) + 1) (nI (48 + ((v0 / 1) % 10))))) T)) (fun _ h => h) ?_
                      refine zz_iload_n 52 X.1 0 dX4_putNumber_52 rfl ?_
                      refine zz_bipush 53 X.1 (v := nI 10) dX4_putNumber_53 rfl ?_
                      refine zz_idiv 55 X.1 (v := (nI 0)) dX4_putNumber_55 (zn_ne0 (by omega) (by omega)) (pk_div (by omega) (by omega) (by omega)) ?_
                      refine zz_istore_n 56 X.1 (lv' := [(2, .int (nI 0)), (0, .ref (K 11)), (1, .int (nI v0))]) dX4_putNumber_56 (by decide) rfl ?_
                      refine zz_goto 57 24 X.1 dX4_putNumber_57 (by decide) ?_
                      refine zz_iload_n 24 X.1 0 dX4_putNumber_24 rfl ?_
                      refine zz_if_le 25 60 X.1 (nI_toInt (by omega)) dX4_putNumber_25 (by decide) (fun h25 => ?_) (fun h25 => ?_)
                      · skip
                        have hwn : wM v0 (G 19, w) = ((upd (upd (upd (upd (upd (G 19) w (nI 44)) (w + 1) (nI 32)) ((w + 1) + 1) (nI (48 + ((v0 / 100) % 10)))) (((w + 1) + 1) + 1) (nI (48 + ((v0 / 10) % 10)))) ((((w + 1) + 1) + 1) + 1) (nI (48 + ((v0 / 1) % 10)))), (((((w + 1) + 1) + 1) + 1) + 1)) := by
                          unfold wM wN wD w1
                          first | (simp [show 1 < w by omega, show ¬ 10 ≤ v0 by omega, show ¬ 100 ≤ v0 by omega, show ¬ 1000 ≤ v0 by omega]; done) | (simp [show 1 < w by omega, show 10 ≤ v0 by omega, show ¬ 100 ≤ v0 by omega, show ¬ 1000 ≤ v0 by omega]; done) | (simp [show 1 < w by omega, show 10 ≤ v0 by omega, show 100 ≤ v0 by omega, show ¬ 1000 ≤ v0 by omega]; done) | (simp [show 1 < w by omega, show 10 ≤ v0 by omega, show 100 ≤ v0 by omega, show 1000 ≤ v0 by omega]; done) | (simp [show ¬ 1 < w by omega, show ¬ 10 ≤ v0 by omega, show ¬ 100 ≤ v0 by omega, show ¬ 1000 ≤ v0 by omega]; done) | (simp [show ¬ 1 < w by omega, show 10 ≤ v0 by omega, show ¬ 100 ≤ v0 by omega, show ¬ 1000 ≤ v0 by omega]; done) | (simp [show ¬ 1 < w by omega, show 10 ≤ v0 by omega, show 100 ≤ v0 by omega, show ¬ 1000 ≤ v0 by omega]; done) | (simp [show ¬ 1 < w by omega, show 10 ≤ v0 by omega, show 100 ≤ v0 by omega, show 1000 ≤ v0 by omega]; done)
                        rw [← hQ]
                        refine zz_vret 60 X.1 hr hlk (upd F 20 (nI (((((w + 1) + 1) + 1) + 1) + 1)), hs, va_up G 19 (upd (upd (upd (upd (upd (G 19) w (nI 44)) (w + 1) (nI 32)) ((w + 1) + 1) (nI (48 + ((v0 / 100) % 10)))) (((w + 1) + 1) + 1) (nI (48 + ((v0 / 10) % 10)))) ((((w + 1) + 1) + 1) + 1) (nI (48 + ((v0 / 1) % 10)))), T) ?_ (fun _ h _ => h) dX4_putNumber_60
                        rw [hwn]
                      · exfalso; omega
                    · exfalso; omega
                · exfalso; omega
            · skip
              refine zz_iload_n 33 X.1 0 dX4_putNumber_33 rfl ?_
              refine zz_iconst 34 X.1 (v := nI 1) dX4_putNumber_34 rfl ?_
              refine zz_icmp_ne 35 52 X.1 (nI_toInt (by omega)) (nI_toInt (by omega)) dX4_putNumber_35 (by decide) (fun h35 => ?_) (fun h35 => ?_)
              · skip
                refine zz_iload_n 52 X.1 0 dX4_putNumber_52 rfl ?_
                refine zz_bipush 53 X.1 (v := nI 10) dX4_putNumber_53 rfl ?_
                refine zz_idiv 55 X.1 (v := (nI 10)) dX4_putNumber_55 (zn_ne0 (by omega) (by omega)) (pk_div (by omega) (by omega) (by omega)) ?_
                refine zz_istore_n 56 X.1 (lv' := [(2, .int (nI 10)), (0, .ref (K 11)), (1, .int (nI v0))]) dX4_putNumber_56 (by decide) rfl ?_
                refine zz_goto 57 24 X.1 dX4_putNumber_57 (by decide) ?_
                refine zz_iload_n 24 X.1 0 dX4_putNumber_24 rfl ?_
                refine zz_if_le 25 60 X.1 (nI_toInt (by omega)) dX4_putNumber_25 (by decide) (fun h25 => ?_) (fun h25 => ?_)
                · exfalso; omega
                · skip
                  refine zz_iload_n 28 X.1 2 dX4_putNumber_28 rfl ?_
                  refine zz_iload_n 29 X.1 0 dX4_putNumber_29 rfl ?_
                  refine zz_icmp_ge 30 38 X.1 (nI_toInt (by omega)) (nI_toInt (by omega)) dX4_putNumber_30 (by decide) (fun h30 => ?_) (fun h30 => ?_)
                  · skip
                    refine zz_aload_n 38 X.1 1 dX4_putNumber_38 rfl ?_
                    refine zz_bipush 39 X.1 (v := nI 48) dX4_putNumber_39 rfl ?_
                    refine zz_iload_n 41 X.1 2 dX4_putNumber_41 rfl ?_
                    refine zz_iload_n 42 X.1 0 dX4_putNumber_42 rfl ?_
                    refine zz_idiv 43 X.1 (v := (nI (v0 / 10))) dX4_putNumber_43 (zn_ne0 (by omega) (by omega)) (pk_div (by omega) (by omega) (by omega)) ?_
                    refine zz_bipush 44 X.1 (v := nI 10) dX4_putNumber_44 rfl ?_
                    refine zz_irem 46 X.1 (v := (nI ((v0 / 10) % 10))) dX4_putNumber_46 (zn_ne0 (by omega) (by omega)) (pk_rem (by omega) (by omega) (by omega)) ?_
                    refine zz_iadd 47 X.1 (v := (nI (48 + ((v0 / 10) % 10)))) dX4_putNumber_47 (nI_add _ _) ?_
                    refine zz_i2c 48 X.1 (v := (nI (48 + ((v0 / 10) % 10)))) dX4_putNumber_48 (zc_i2c (by omega)) ?_
                    refine dd_callVv 49 X hml (th := 11) (As := [.int (nI (48 + ((v0 / 10) % 10)))]) (kt_X4_putSign l D C K hAp (upd F 20 (nI ((w + 1) + 1))) hs (va_up G 19 (upd (upd (G 19) w (nI 44)) (w + 1) (nI 32))) T ((w + 1) + 1) (48 + ((v0 / 10) % 10)) (rfl) (by first | rfl | assumption | omega) (by first | rfl | assumption | omega)) gX4_putNumber_X4_putSign rfl ⟨rfl, rfl⟩ (dr_11 X) yd_X4_putSign ⟨Nat.le_of_ble_eq_true rfl, Nat.le_of_ble_eq_true rfl⟩ rfl rfl (Nat.le_of_ble_eq_true rfl) ⟨Nat.zero_le _, Nat.zero_le _⟩ dX4_putNumber_49 ?_
                    rintro ⟨F21, hs21, G21, T21⟩ hu21
                    have hv21 := hu21
                    cases hv21
                    refine zz_world (P' := (DP D C K (upd F 20 (nI (((w + 1) + 1) + 1))) (WH hs) (va_up G 19 (upd (upd (upd (G 19) w (nI 44)) (w + 1) (nI 32)) ((w + 1) + 1) (nI (48 + ((v0 / 10) % 10))))) T)) (fun _ h => h) ?_
                    refine zz_iload_n 52 X.1 0 dX4_putNumber_52 rfl ?_
                    refine zz_bipush 53 X.1 (v := nI 10) dX4_putNumber_53 rfl ?_
                    refine zz_idiv 55 X.1 (v := (nI 1)) dX4_putNumber_55 (zn_ne0 (by omega) (by omega)) (pk_div (by omega) (by omega) (by omega)) ?_
                    refine zz_istore_n 56 X.1 (lv' := [(2, .int (nI 1)), (0, .ref (K 11)), (1, .int (nI v0))]) dX4_putNumber_56 (by decide) rfl ?_
                    refine zz_goto 57 24 X.1 dX4_putNumber_57 (by decide) ?_
                    refine zz_iload_n 24 X.1 0 dX4_putNumber_24 rfl ?_
                    refine zz_if_le 25 60 X.1 (nI_toInt (by omega)) dX4_putNumber_25 (by decide) (fun h25 => ?_) (fun h25 => ?_)
                    · exfalso; omega
                    · skip
                      refine zz_iload_n 28 X.1 2 dX4_putNumber_28 rfl ?_
                      refine zz_iload_n 29 X.1 0 dX4_putNumber_29 rfl ?_
                      refine zz_icmp_ge 30 38 X.1 (nI_toInt (by omega)) (nI_toInt (by omega)) dX4_putNumber_30 (by decide) (fun h30 => ?_) (fun h30 => ?_)
                      · skip
                        refine zz_aload_n 38 X.1 1 dX4_putNumber_38 rfl ?_
                        refine zz_bipush 39 X.1 (v := nI 48) dX4_putNumber_39 rfl ?_
                        refine zz_iload_n 41 X.1 2 dX4_putNumber_41 rfl ?_
                        refine zz_iload_n 42 X.1 0 dX4_putNumber_42 rfl ?_
                        refine zz_idiv 43 X.1 (v := (nI (v0 / 1))) dX4_putNumber_43 (zn_ne0 (by omega) (by omega)) (pk_div (by omega) (by omega) (by omega)) ?_
                        refine zz_bipush 44 X.1 (v := nI 10) dX4_putNumber_44 rfl ?_
                        refine zz_irem 46 X.1 (v := (nI ((v0 / 1) % 10))) dX4_putNumber_46 (zn_ne0 (by omega) (by omega)) (pk_rem (by omega) (by omega) (by omega)) ?_
                        refine zz_iadd 47 X.1 (v := (nI (48 + ((v0 / 1) % 10)))) dX4_putNumber_47 (nI_add _ _) ?_
                        refine zz_i2c 48 X.1 (v := (nI (48 + ((v0 / 1) % 10)))) dX4_putNumber_48 (zc_i2c (by omega)) ?_
                        refine dd_callVv 49 X hml (th := 11) (As := [.int (nI (48 + ((v0 / 1) % 10)))]) (kt_X4_putSign l D C K hAp (upd F 20 (nI (((w + 1) + 1) + 1))) hs (va_up G 19 (upd (upd (upd (G 19) w (nI 44)) (w + 1) (nI 32)) ((w + 1) + 1) (nI (48 + ((v0 / 10) % 10))))) T (((w + 1) + 1) + 1) (48 + ((v0 / 1) % 10)) (rfl) (by first | rfl | assumption | omega) (by first | rfl | assumption | omega)) gX4_putNumber_X4_putSign rfl ⟨rfl, rfl⟩ (dr_11 X) yd_X4_putSign ⟨Nat.le_of_ble_eq_true rfl, Nat.le_of_ble_eq_true rfl⟩ rfl rfl (Nat.le_of_ble_eq_true rfl) ⟨Nat.zero_le _, Nat.zero_le _⟩ dX4_putNumber_49 ?_
                        rintro ⟨F22, hs22, G22, T22⟩ hu22
                        have hv22 := hu22
                        cases hv22
                        refine zz_world (P' := (DP D C K (upd F 20 (nI ((((w + 1) + 1) + 1) + 1))) (WH hs) (va_up G 19 (upd (upd (upd (upd (G 19) w (nI 44)) (w + 1) (nI 32)) ((w + 1) + 1) (nI (48 + ((v0 / 10) % 10)))) (((w + 1) + 1) + 1) (nI (48 + ((v0 / 1) % 10))))) T)) (fun _ h => h) ?_
                        refine zz_iload_n 52 X.1 0 dX4_putNumber_52 rfl ?_
                        refine zz_bipush 53 X.1 (v := nI 10) dX4_putNumber_53 rfl ?_
                        refine zz_idiv 55 X.1 (v := (nI 0)) dX4_putNumber_55 (zn_ne0 (by omega) (by omega)) (pk_div (by omega) (by omega) (by omega)) ?_
                        refine zz_istore_n 56 X.1 (lv' := [(2, .int (nI 0)), (0, .ref (K 11)), (1, .int (nI v0))]) dX4_putNumber_56 (by decide) rfl ?_
                        refine zz_goto 57 24 X.1 dX4_putNumber_57 (by decide) ?_
                        refine zz_iload_n 24 X.1 0 dX4_putNumber_24 rfl ?_
                        refine zz_if_le 25 60 X.1 (nI_toInt (by omega)) dX4_putNumber_25 (by decide) (fun h25 => ?_) (fun h25 => ?_)
                        · skip
                          have hwn : wM v0 (G 19, w) = ((upd (upd (upd (upd (G 19) w (nI 44)) (w + 1) (nI 32)) ((w + 1) + 1) (nI (48 + ((v0 / 10) % 10)))) (((w + 1) + 1) + 1) (nI (48 + ((v0 / 1) % 10)))), ((((w + 1) + 1) + 1) + 1)) := by
                            unfold wM wN wD w1
                            first | (simp [show 1 < w by omega, show ¬ 10 ≤ v0 by omega, show ¬ 100 ≤ v0 by omega, show ¬ 1000 ≤ v0 by omega]; done) | (simp [show 1 < w by omega, show 10 ≤ v0 by omega, show ¬ 100 ≤ v0 by omega, show ¬ 1000 ≤ v0 by omega]; done) | (simp [show 1 < w by omega, show 10 ≤ v0 by omega, show 100 ≤ v0 by omega, show ¬ 1000 ≤ v0 by omega]; done) | (simp [show 1 < w by omega, show 10 ≤ v0 by omega, show 100 ≤ v0 by omega, show 1000 ≤ v0 by omega]; done) | (simp [show ¬ 1 < w by omega, show ¬ 10 ≤ v0 by omega, show ¬ 100 ≤ v0 by omega, show ¬ 1000 ≤ v0 by omega]; done) | (simp [show ¬ 1 < w by omega, show 10 ≤ v0 by omega, show ¬ 100 ≤ v0 by omega, show ¬ 1000 ≤ v0 by omega]; done) | (simp [show ¬ 1 < w by omega, show 10 ≤ v0 by omega, show 100 ≤ v0 by omega, show ¬ 1000 ≤ v0 by omega]; done) | (simp [show ¬ 1 < w by omega, show 10 ≤ v0 by omega, show 100 ≤ v0 by omega, show 1000 ≤ v0 by omega]; done)
                          rw [← hQ]
                          refine zz_vret 60 X.1 hr hlk (upd F 20 (nI ((((w + 1) + 1) + 1) + 1)), hs, va_up G 19 (upd (upd (upd (upd (G 19) w (nI 44)) (w + 1) (nI 32)) ((w + 1) + 1) (nI (48 + ((v0 / 10) % 10)))) (((w + 1) + 1) + 1) (nI (48 + ((v0 / 1) % 10)))), T) ?_ (fun _ h _ => h) dX4_putNumber_60
                          rw [hwn]
                        · exfalso; omega
                      · exfalso; omega
                  · skip
                    refine zz_iload_n 33 X.1 0 dX4_putNumber_33 rfl ?_
                    refine zz_iconst 34 X.1 (v := nI 1) dX4_putNumber_34 rfl ?_
                    refine zz_icmp_ne 35 52 X.1 (nI_toInt (by omega)) (nI_toInt (by omega)) dX4_putNumber_35 (by decide) (fun h35 => ?_) (fun h35 => ?_)
                    · skip
                      refine zz_iload_n 52 X.1 0 dX4_putNumber_52 rfl ?_
                      refine zz_bipush 53 X.1 (v := nI 10) dX4_putNumber_53 rfl ?_
                      refine zz_idiv 55 X.1 (v := (nI 1)) dX4_putNumber_55 (zn_ne0 (by omega) (by omega)) (pk_div (by omega) (by omega) (by omega)) ?_
                      refine zz_istore_n 56 X.1 (lv' := [(2, .int (nI 1)), (0, .ref (K 11)), (1, .int (nI v0))]) dX4_putNumber_56 (by decide) rfl ?_
                      refine zz_goto 57 24 X.1 dX4_putNumber_57 (by decide) ?_
                      refine zz_iload_n 24 X.1 0 dX4_putNumber_24 rfl ?_
                      refine zz_if_le 25 60 X.1 (nI_toInt (by omega)) dX4_putNumber_25 (by decide) (fun h25 => ?_) (fun h25 => ?_)
                      · exfalso; omega
                      · skip
                        refine zz_iload_n 28 X.1 2 dX4_putNumber_28 rfl ?_
                        refine zz_iload_n 29 X.1 0 dX4_putNumber_29 rfl ?_
                        refine zz_icmp_ge 30 38 X.1 (nI_toInt (by omega)) (nI_toInt (by omega)) dX4_putNumber_30 (by decide) (fun h30 => ?_) (fun h30 => ?_)
                        · skip
                          refine zz_aload_n 38 X.1 1 dX4_putNumber_38 rfl ?_
                          refine zz_bipush 39 X.1 (v := nI 48) dX4_putNumber_39 rfl ?_
                          refine zz_iload_n 41 X.1 2 dX4_putNumber_41 rfl ?_
                          refine zz_iload_n 42 X.1 0 dX4_putNumber_42 rfl ?_
                          refine zz_idiv 43 X.1 (v := (nI (v0 / 1))) dX4_putNumber_43 (zn_ne0 (by omega) (by omega)) (pk_div (by omega) (by omega) (by omega)) ?_
                          refine zz_bipush 44 X.1 (v := nI 10) dX4_putNumber_44 rfl ?_
                          refine zz_irem 46 X.1 (v := (nI ((v0 / 1) % 10))) dX4_putNumber_46 (zn_ne0 (by omega) (by omega)) (pk_rem (by omega) (by omega) (by omega)) ?_
                          refine zz_iadd 47 X.1 (v := (nI (48 + ((v0 / 1) % 10)))) dX4_putNumber_47 (nI_add _ _) ?_
                          refine zz_i2c 48 X.1 (v := (nI (48 + ((v0 / 1) % 10)))) dX4_putNumber_48 (zc_i2c (by omega)) ?_
                          refine dd_callVv 49 X hml (th := 11) (As := [.int (nI (48 + ((v0 / 1) % 10)))]) (kt_X4_putSign l D C K hAp (upd F 20 (nI ((w + 1) + 1))) hs (va_up G 19 (upd (upd (G 19) w (nI 44)) (w + 1) (nI 32))) T ((w + 1) + 1) (48 + ((v0 / 1) % 10)) (rfl) (by first | rfl | assumption | omega) (by first | rfl | assumption | omega)) gX4_putNumber_X4_putSign rfl ⟨rfl, rfl⟩ (dr_11 X) yd_X4_putSign ⟨Nat.le_of_ble_eq_true rfl, Nat.le_of_ble_eq_true rfl⟩ rfl rfl (Nat.le_of_ble_eq_true rfl) ⟨Nat.zero_le _, Nat.zero_le _⟩ dX4_putNumber_49 ?_
                          rintro ⟨F23, hs23, G23, T23⟩ hu23
                          have hv23 := hu23
                          cases hv23
                          refine zz_world (P' := (DP D C K (upd F 20 (nI (((w + 1) + 1) + 1))) (WH hs) (va_up G 19 (upd (upd (upd (G 19) w (nI 44)) (w + 1) (nI 32)) ((w + 1) + 1) (nI (48 + ((v0 / 1) % 10))))) T)) (fun _ h => h) ?_
                          refine zz_iload_n 52 X.1 0 dX4_putNumber_52 rfl ?_
                          refine zz_bipush 53 X.1 (v := nI 10) dX4_putNumber_53 rfl ?_
                          refine zz_idiv 55 X.1 (v := (nI 0)) dX4_putNumber_55 (zn_ne0 (by omega) (by omega)) (pk_div (by omega) (by omega) (by omega)) ?_
                          refine zz_istore_n 56 X.1 (lv' := [(2, .int (nI 0)), (0, .ref (K 11)), (1, .int (nI v0))]) dX4_putNumber_56 (by decide) rfl ?_
                          refine zz_goto 57 24 X.1 dX4_putNumber_57 (by decide) ?_
                          refine zz_iload_n 24 X.1 0 dX4_putNumber_24 rfl ?_
                          refine zz_if_le 25 60 X.1 (nI_toInt (by omega)) dX4_putNumber_25 (by decide) (fun h25 => ?_) (fun h25 => ?_)
                          · skip
                            have hwn : wM v0 (G 19, w) = ((upd (upd (upd (G 19) w (nI 44)) (w + 1) (nI 32)) ((w + 1) + 1) (nI (48 + ((v0 / 1) % 10)))), (((w + 1) + 1) + 1)) := by
                              unfold wM wN wD w1
                              first | (simp [show 1 < w by omega, show ¬ 10 ≤ v0 by omega, show ¬ 100 ≤ v0 by omega, show ¬ 1000 ≤ v0 by omega]; done) | (simp [show 1 < w by omega, show 10 ≤ v0 by omega, show ¬ 100 ≤ v0 by omega, show ¬ 1000 ≤ v0 by omega]; done) | (simp [show 1 < w by omega, show 10 ≤ v0 by omega, show 100 ≤ v0 by omega, show ¬ 1000 ≤ v0 by omega]; done) | (simp [show 1 < w by omega, show 10 ≤ v0 by omega, show 100 ≤ v0 by omega, show 1000 ≤ v0 by omega]; done) | (simp [show ¬ 1 < w by omega, show ¬ 10 ≤ v0 by omega, show ¬ 100 ≤ v0 by omega, show ¬ 1000 ≤ v0 by omega]; done) | (simp [show ¬ 1 < w by omega, show 10 ≤ v0 by omega, show ¬ 100 ≤ v0 by omega, show ¬ 1000 ≤ v0 by omega]; done) | (simp [show ¬ 1 < w by omega, show 10 ≤ v0 by omega, show 100 ≤ v0 by omega, show ¬ 1000 ≤ v0 by omega]; done) | (simp [show ¬ 1 < w by omega, show 10 ≤ v0 by omega, show 100 ≤ v0 by omega, show 1000 ≤ v0 by omega]; done)
                            rw [← hQ]
                            refine zz_vret 60 X.1 hr hlk (upd F 20 (nI (((w + 1) + 1) + 1)), hs, va_up G 19 (upd (upd (upd (G 19) w (nI 44)) (w + 1) (nI 32)) ((w + 1) + 1) (nI (48 + ((v0 / 1) % 10)))), T) ?_ (fun _ h _ => h) dX4_putNumber_60
                            rw [hwn]
                          · exfalso; omega
                        · skip
                          refine zz_iload_n 33 X.1 0 dX4_putNumber_33 rfl ?_
                          refine zz_iconst 34 X.1 (v := nI 1) dX4_putNumber_34 rfl ?_
                          refine zz_icmp_ne 35 52 X.1 (nI_toInt (by omega)) (nI_toInt (by omega)) dX4_putNumber_35 (by decide) (fun h35 => ?_) (fun h35 => ?_)
                          · exfalso; omega
                          · skip
                            refine zz_aload_n 38 X.1 1 dX4_putNumber_38 rfl ?_
                            refine zz_bipush 39 X.1 (v := nI 48) dX4_putNumber_39 rfl ?_
                            refine zz_iload_n 41 X.1 2 dX4_putNumber_41 rfl ?_
                            refine zz_iload_n 42 X.1 0 dX4_putNumber_42 rfl ?_
                            refine zz_idiv 43 X.1 (v := (nI (v0 / 1))) dX4_putNumber_43 (zn_ne0 (by omega) (by omega)) (pk_div (by omega) (by omega) (by omega)) ?_
                            refine zz_bipush 44 X.1 (v := nI 10) dX4_putNumber_44 rfl ?_
                            refine zz_irem 46 X.1 (v := (nI ((v0 / 1) % 10))) dX4_putNumber_46 (zn_ne0 (by omega) (by omega)) (pk_rem (by omega) (by omega) (by omega)) ?_
                            refine zz_iadd 47 X.1 (v := (nI (48 + ((v0 / 1) % 10)))) dX4_putNumber_47 (nI_add _ _) ?_
                            refine zz_i2c 48 X.1 (v := (nI (48 + ((v0 / 1) % 10)))) dX4_putNumber_48 (zc_i2c (by omega)) ?_
                            refine dd_callVv 49 X hml (th := 11) (As := [.int (nI (48 + ((v0 / 1) % 10)))]) (kt_X4_putSign l D C K hAp (upd F 20 (nI ((w + 1) + 1))) hs (va_up G 19 (upd (upd (G 19) w (nI 44)) (w + 1) (nI 32))) T ((w + 1) + 1) (48 + ((v0 / 1) % 10)) (rfl) (by first | rfl | assumption | omega) (by first | rfl | assumption | omega)) gX4_putNumber_X4_putSign rfl ⟨rfl, rfl⟩ (dr_11 X) yd_X4_putSign ⟨Nat.le_of_ble_eq_true rfl, Nat.le_of_ble_eq_true rfl⟩ rfl rfl (Nat.le_of_ble_eq_true rfl) ⟨Nat.zero_le _, Nat.zero_le _⟩ dX4_putNumber_49 ?_
                            rintro ⟨F24, hs24, G24, T24⟩ hu24
                            have hv24 := hu24
                            cases hv24
                            refine zz_world (P' := (DP D C K (upd F 20 (nI (((w + 1) + 1) + 1))) (WH hs) (va_up G 19 (upd (upd (upd (G 19) w (nI 44)) (w + 1) (nI 32)) ((w + 1) + 1) (nI (48 + ((v0 / 1) % 10))))) T)) (fun _ h => h) ?_
                            refine zz_iload_n 52 X.1 0 dX4_putNumber_52 rfl ?_
                            refine zz_bipush 53 X.1 (v := nI 10) dX4_putNumber_53 rfl ?_
                            refine zz_idiv 55 X.1 (v := (nI 0)) dX4_putNumber_55 (zn_ne0 (by omega) (by omega)) (pk_div (by omega) (by omega) (by omega)) ?_
                            refine zz_istore_n 56 X.1 (lv' := [(2, .int (nI 0)), (0, .ref (K 11)), (1, .int (nI v0))]) dX4_putNumber_56 (by decide) rfl ?_
                            refine zz_goto 57 24 X.1 dX4_putNumber_57 (by decide) ?_
                            refine zz_iload_n 24 X.1 0 dX4_putNumber_24 rfl ?_
                            refine zz_if_le 25 60 X.1 (nI_toInt (by omega)) dX4_putNumber_25 (by decide) (fun h25 => ?_) (fun h25 => ?_)
                            · skip
                              have hwn : wM v0 (G 19, w) = ((upd (upd (upd (G 19) w (nI 44)) (w + 1) (nI 32)) ((w + 1) + 1) (nI (48 + ((v0 / 1) % 10)))), (((w + 1) + 1) + 1)) := by
                                unfold wM wN wD w1
                                first | (simp [show 1 < w by omega, show ¬ 10 ≤ v0 by omega, show ¬ 100 ≤ v0 by omega, show ¬ 1000 ≤ v0 by omega]; done) | (simp [show 1 < w by omega, show 10 ≤ v0 by omega, show ¬ 100 ≤ v0 by omega, show ¬ 1000 ≤ v0 by omega]; done) | (simp [show 1 < w by omega, show 10 ≤ v0 by omega, show 100 ≤ v0 by omega, show ¬ 1000 ≤ v0 by omega]; done) | (simp [show 1 < w by omega, show 10 ≤ v0 by omega, show 100 ≤ v0 by omega, show 1000 ≤ v0 by omega]; done) | (simp [show ¬ 1 < w by omega, show ¬ 10 ≤ v0 by omega, show ¬ 100 ≤ v0 by omega, show ¬ 1000 ≤ v0 by omega]; done) | (simp [show ¬ 1 < w by omega, show 10 ≤ v0 by omega, show ¬ 100 ≤ v0 by omega, show ¬ 1000 ≤ v0 by omega]; done) | (simp [show ¬ 1 < w by omega, show 10 ≤ v0 by omega, show 100 ≤ v0 by omega, show ¬ 1000 ≤ v0 by omega]; done) | (simp [show ¬ 1 < w by omega, show 10 ≤ v0 by omega, show 100 ≤ v0 by omega, show 1000 ≤ v0 by omega]; done)
                              rw [← hQ]
                              refine zz_vret 60 X.1 hr hlk (upd F 20 (nI (((w + 1) + 1) + 1)), hs, va_up G 19 (upd (upd (upd (G 19) w (nI 44)) (w + 1) (nI 32)) ((w + 1) + 1) (nI (48 + ((v0 / 1) % 10)))), T) ?_ (fun _ h _ => h) dX4_putNumber_60
                              rw [hwn]
                            · exfalso; omega
                    · exfalso; omega
              · exfalso; omega
        · exfalso; omega

abbrev rm_X4_size : Room := { frames := 0, cells := 0, slots := 0, locals := 0 }
theorem yd_X4_size : yX4_size.cls = RX4 ∧ yX4_size.cls ≠ "java/lang/invoke/MethodHandle" ∧ yX4_size.cls ≠ "java/lang/invoke/VarHandle" ∧ (parseMethodDescriptor yX4_size.desc).map (fun d => d.parameters.length) = some 0 := by decide +kernel
set_option maxHeartbeats 4000000 in
set_option maxRecDepth 100000 in
theorem kt_X4_size (l : Launch) (D : va_G) (C : Nat → ClassId) (K : Nat → Nat) (hAp : DAp K) (F : Nat → Int32) (hs : Nat → Bool) (G T : Nat → Nat → Int32) (w : Nat) (hw : F 20 = nI w) : CMi l yX4_size wsX4_size rm_X4_size D C K (11) [] F hs G T (fun (r : Int32) (u : CSt) => r = (nI w) ∧ u = (F, hs, G, T)) := by
  refine CMi_of (lv := [(0, .ref (K 11))]) (cc := cX4_size) (maxL := 1) (ret := (some .int)) rfl (by decide +kernel) (Nat.le_of_ble_eq_true rfl) rfl ?_
  intro p e s m args below meth c X hml hr hlk
  generalize hQ : MQ below _ args s 0 0 _ = Q
  refine zz_aload_n 0 X.1 0 dX4_size_0 rfl ?_
  refine dd_get11 1 X (by decide +kernel) 1 (by decide) (v := .int (F 20)) rfl (by decide +kernel) rfl dX4_size_1 ?_
  refine zz_topi (nI w) (hw) ?_
  rw [← hQ]
  refine zz_iret 4 X.1 hr rfl hlk (F, hs, G, T) ?_ (fun _ h _ => h) dX4_size_4
  exact ⟨rfl, rfl⟩

abbrev rm_X4_sign : Room := { frames := 0, cells := 0, slots := 0, locals := 0 }
theorem yd_X4_sign : yX4_sign.cls = RX4 ∧ yX4_sign.cls ≠ "java/lang/invoke/MethodHandle" ∧ yX4_sign.cls ≠ "java/lang/invoke/VarHandle" ∧ (parseMethodDescriptor yX4_sign.desc).map (fun d => d.parameters.length) = some 1 := by decide +kernel
set_option maxHeartbeats 4000000 in
set_option maxRecDepth 100000 in
theorem kt_X4_sign (l : Launch) (D : va_G) (C : Nat → ClassId) (K : Nat → Nat) (hAp : DAp K) (F : Nat → Int32) (hs : Nat → Bool) (G T : Nat → Nat → Int32) (w : Nat) (i0 : Nat) (hw : F 20 = nI w) (hw2 : w ≤ 5034) (hi0 : i0 < w) : CMi l yX4_sign wsX4_sign rm_X4_sign D C K (11) [.int (nI i0)] F hs G T (fun (r : Int32) (u : CSt) => r = (G 19 i0) ∧ u = (F, hs, G, T)) := by
  refine CMi_of (lv := [(0, .ref (K 11)), (1, .int (nI i0))]) (cc := cX4_sign) (maxL := 2) (ret := (some .int)) rfl (by decide +kernel) (Nat.le_of_ble_eq_true rfl) rfl ?_
  intro p e s m args below meth c X hml hr hlk
  generalize hQ : MQ below _ args s 0 0 _ = Q
  refine zz_iload_n 0 X.1 1 dX4_sign_0 rfl ?_
  refine zz_if_lt 1 28 X.1 (nI_toInt (by omega)) dX4_sign_1 (by decide) (fun h1 => ?_) (fun h1 => ?_)
  · exfalso; omega
  · skip
    refine zz_iload_n 4 X.1 1 dX4_sign_4 rfl ?_
    refine zz_aload_n 5 X.1 0 dX4_sign_5 rfl ?_
    refine dd_get11 6 X (by decide +kernel) 1 (by decide) (v := .int (F 20)) rfl (by decide +kernel) rfl dX4_sign_6 ?_
    refine zz_topi (nI w) (hw) ?_
    refine zz_icmp_ge 9 28 X.1 (nI_toInt (by omega)) (nI_toInt (by omega)) dX4_sign_9 (by decide) (fun h9 => ?_) (fun h9 => ?_)
    · exfalso; omega
    · skip
      refine zz_iload_n 12 X.1 1 dX4_sign_12 rfl ?_
      refine zz_sipush 13 X.1 (v := nI 5034) dX4_sign_13 rfl ?_
      refine zz_icmp_ge 16 28 X.1 (nI_toInt (by omega)) (nI_toInt (by omega)) dX4_sign_16 (by decide) (fun h16 => ?_) (fun h16 => ?_)
      · exfalso; omega
      · skip
        refine zz_aload_n 19 X.1 0 dX4_sign_19 rfl ?_
        refine dd_get11 20 X (by decide +kernel) 0 (by decide) (v := .ref (K 12)) rfl (by decide +kernel) rfl dX4_sign_20 ?_
        refine zz_iload_n 23 X.1 1 dX4_sign_23 rfl ?_
        refine dd_cald 24 X 12 12 (by decide) (len := 5034) (f := G 19) rfl (by omega) (by decide) dX4_sign_24 ?_
        refine zz_goto 25 29 X.1 dX4_sign_25 (by decide) ?_
        rw [← hQ]
        refine zz_iret 29 X.1 hr rfl hlk (F, hs, G, T) ?_ (fun _ h _ => h) dX4_sign_29
        exact ⟨rfl, rfl⟩

abbrev rm_X4_tell : Room := { frames := 4, cells := 0, slots := 0, locals := 90 }
theorem yd_X4_tell : yX4_tell.cls = RX4 ∧ yX4_tell.cls ≠ "java/lang/invoke/MethodHandle" ∧ yX4_tell.cls ≠ "java/lang/invoke/VarHandle" ∧ (parseMethodDescriptor yX4_tell.desc).map (fun d => d.parameters.length) = some 1 := by decide +kernel
set_option maxHeartbeats 4000000 in
set_option maxRecDepth 100000 in
theorem kt_X4_tell (l : Launch) (D : va_G) (C : Nat → ClassId) (K : Nat → Nat) (hAp : DAp K) (F : Nat → Int32) (hs : Nat → Bool) (G T : Nat → Nat → Int32) (s0 : Nat) (hs0 : s0 < 8) : CMv l yX4_tell wsX4_tell rm_X4_tell D C K (11) [.ref (K (20 + s0))] F hs G T (fun (u : CSt) => u = (upd F 20 (nI ((wT (hM hs s0) (G 19)).2)), hs, va_up G 19 ((wT (hM hs s0) (G 19)).1), T)) := by
  refine CMv_of (lv := [(0, .ref (K 11)), (1, .ref (K (20 + s0)))]) (cc := cX4_tell) (maxL := 4) (ret := none) rfl (by decide +kernel) (Nat.le_of_ble_eq_true rfl) rfl ?_
  intro p e s m args below meth c X hml hr hlk
  generalize hQ : MQ below _ args s 0 0 _ = Q
  refine zz_aload_n 0 X.1 0 dX4_tell_0 rfl ?_
  refine zz_iconst 1 X.1 (v := nI 0) dX4_tell_1 rfl ?_
  refine dd_put11 2 hAp X (by decide +kernel) 1 (by decide) (F' := upd F 20 (nI 0)) rfl (by decide +kernel) ⟨rfl, rfl⟩ (by decide +kernel) dX4_tell_2 ?_
  refine zz_aload_n 5 X.1 0 dX4_tell_5 rfl ?_
  refine zz_bipush 6 X.1 (v := nI 123) dX4_tell_6 rfl ?_
  refine dd_callVv 8 X hml (th := 11) (As := [.int (nI 123)]) (kt_X4_putSign l D C K hAp (upd F 20 (nI 0)) hs G T 0 123 (rfl) (by first | rfl | assumption | omega) (by first | rfl | assumption | omega)) gX4_tell_X4_putSign rfl ⟨rfl, rfl⟩ (dr_11 X) yd_X4_putSign ⟨Nat.le_of_ble_eq_true rfl, Nat.le_of_ble_eq_true rfl⟩ rfl rfl (Nat.le_of_ble_eq_true rfl) ⟨Nat.zero_le _, Nat.zero_le _⟩ dX4_tell_8 ?_
  rintro ⟨F1, hs1, G1, T1⟩ hu1
  have hv1 := hu1
  cases hv1
  refine zz_world (P' := (DP D C K (upd F 20 (nI (0 + 1))) (WH hs) (va_up G 19 (upd (G 19) 0 (nI 123))) T)) (fun _ h => h) ?_
  refine zz_aload_n 11 X.1 1 dX4_tell_11 rfl ?_
  refine dd_callVi 12 X hml (th := 20 + s0) (As := []) (kt_X0_end l D C K hAp (upd F 20 (nI (0 + 1))) hs (va_up G 19 (upd (G 19) 0 (nI 123))) T s0 (by first | rfl | assumption | omega)) gX4_tell_X0_end rfl ⟨rfl, rfl⟩ (dr_M X (i := s0) (by omega)) yd_X0_end ⟨Nat.le_of_ble_eq_true rfl, Nat.le_of_ble_eq_true rfl⟩ rfl rfl (Nat.le_of_ble_eq_true rfl) ⟨Nat.zero_le _, Nat.zero_le _⟩ dX4_tell_12 ?_
  rintro r2 ⟨F2, hs2, G2, T2⟩ hu2
  obtain ⟨rfl, hv2⟩ := hu2
  cases hv2
  refine zz_world (P' := (DP D C K (upd F 20 (nI (0 + 1))) (WH hs) (va_up G 19 (upd (G 19) 0 (nI 123))) T)) (fun _ h => h) ?_
  have hl := ln_le (hM hs s0) 1024
  refine zz_istore_n 15 X.1 (lv' := [(2, .int (nI (ln (hM hs s0) 1024))), (0, .ref (K 11)), (1, .ref (K (20 + s0)))]) dX4_tell_15 (by decide) rfl ?_
  refine zz_iconst 16 X.1 (v := nI 0) dX4_tell_16 rfl ?_
  refine zz_istore_n 17 X.1 (lv' := [(3, .int (nI 0)), (2, .int (nI (ln (hM hs s0) 1024))), (0, .ref (K 11)), (1, .ref (K (20 + s0)))]) dX4_tell_17 (by decide) rfl ?_
  have C18 : ∀ (d : Nat) (i : Nat) (wq : Nat) (gq : Nat → Int32) (hi : i ≤ ln (hM hs s0) 1024) (hg : (gq, wq) = wS (hM hs s0) i (upd (G 19) 0 (nI 123), 1)) (hd : ln (hM hs s0) 1024 - i < d), ZZ p l e rm_X4_tell s m args below meth c 0 0 Q (zz_A (DAd K) s.heap.size) (DP D C K (upd F 20 (nI wq)) (WH hs) (va_up G 19 gq) T) 4 [(0, .ref (K 11)), (1, .ref (K (20 + s0))), (2, .int (nI (ln (hM hs s0) 1024))), (3, .int (nI i))] [] 18 := by
    intro d
    induction d with
    | zero => intro i wq gq hi hg hd; exact absurd hd (Nat.not_lt_zero _)
    | succ d ih18 =>
      intro i wq gq hi hg hd
      have hwb1 := wS_1 (q := hM hs s0) (g := upd (G 19) 0 (nI 123)) i
      have hwb2 := wS_3 (q := hM hs s0) (g := upd (G 19) 0 (nI 123)) i
      rw [← hg] at hwb1 hwb2
      replace hwb1 : 1 ≤ wq := hwb1
      replace hwb2 : wq = 1 ∨ wq + 2 ≤ wB i := hwb2
      have hwb3 : wB i ≤ 5035 := by
        unfold wB; omega
      refine zz_iload_n 18 X.1 3 dX4_tell_18 rfl ?_
      refine zz_iload_n 19 X.1 2 dX4_tell_19 rfl ?_
      refine zz_icmp_ge 20 42 X.1 (nI_toInt (by omega)) (nI_toInt (by omega)) dX4_tell_20 (by decide) (fun h20 => ?_) (fun h20 => ?_)
      · skip
        refine zz_aload_n 42 X.1 0 dX4_tell_42 rfl ?_
        refine zz_bipush 43 X.1 (v := nI 125) dX4_tell_43 rfl ?_
        refine dd_callVv 45 X hml (th := 11) (As := [.int (nI 125)]) (kt_X4_putSign l D C K hAp (upd F 20 (nI wq)) hs (va_up G 19 gq) T wq 125 (rfl) (by first | rfl | assumption | omega) (by first | rfl | assumption | omega)) gX4_tell_X4_putSign rfl ⟨rfl, rfl⟩ (dr_11 X) yd_X4_putSign ⟨Nat.le_of_ble_eq_true rfl, Nat.le_of_ble_eq_true rfl⟩ rfl rfl (Nat.le_of_ble_eq_true rfl) ⟨Nat.zero_le _, Nat.zero_le _⟩ dX4_tell_45 ?_
        rintro ⟨F3, hs3, G3, T3⟩ hu3
        have hv3 := hu3
        cases hv3
        refine zz_world (P' := (DP D C K (upd F 20 (nI (wq + 1))) (WH hs) (va_up G 19 (upd gq wq (nI 125))) T)) (fun _ h => h) ?_
        have hT : wT (hM hs s0) (G 19) = (upd gq wq (nI 125), wq + 1) := by
          unfold wT
          rw [show w1 (G 19, 0) 123 = (upd (G 19) 0 (nI 123), 1) from rfl, ← wS_ln, show ln (hM hs s0) 1024 = i by omega, ← hg]
          rfl
        rw [← hQ]
        refine zz_vret 48 X.1 hr hlk (upd F 20 (nI (wq + 1)), hs, va_up G 19 (upd gq wq (nI 125)), T) ?_ (fun _ h _ => h) dX4_tell_48
        rw [hT]
      · skip
        refine zz_aload_n 23 X.1 1 dX4_tell_23 rfl ?_
        refine zz_iload_n 24 X.1 3 dX4_tell_24 rfl ?_
        refine dd_callVi 25 X hml (th := 20 + s0) (As := [.int (nI i)]) (kt_X0_holds l D C K hAp (upd F 20 (nI wq)) hs (va_up G 19 gq) T s0 (nI i) ((i : Nat) : Int) (nI_toInt (by omega)) (by first | rfl | assumption | omega)) gX4_tell_X0_holds rfl ⟨rfl, rfl⟩ (dr_M X (i := s0) (by omega)) yd_X0_holds ⟨Nat.le_of_ble_eq_true rfl, Nat.le_of_ble_eq_true rfl⟩ rfl rfl (Nat.le_of_ble_eq_true rfl) ⟨Nat.zero_le _, Nat.zero_le _⟩ dX4_tell_25 ?_
        rintro r4 ⟨F4, hs4, G4, T4⟩ hu4
        obtain ⟨rfl, hv4⟩ := hu4
        cases hv4
        refine zz_world (P' := (DP D C K (upd F 20 (nI wq)) (WH hs) (va_up G 19 gq) T)) (fun _ h => h) ?_
        refine zz_ifB_eq 28 36 X.1 dX4_tell_28 (by decide) (fun h28 => ?_) (fun h28 => ?_)
        · skip
          refine zz_iinc 36 X.1 3 (v := (nI (i + 1))) (lv' := [(3, .int (nI (i + 1))), (0, .ref (K 11)), (1, .ref (K (20 + s0))), (2, .int (nI (ln (hM hs s0) 1024)))]) dX4_tell_36 rfl (nI_add i 1) (by decide) rfl ?_
          refine zz_goto 39 18 X.1 dX4_tell_39 (by decide) ?_
          refine zz_lvs [1, 2, 3, 0] rfl ?_
          exact ih18 (i + 1) wq gq (by omega) (by first | (rw [wS, ← hg, if_neg (by rw [(hz_lt (by omega)).symm.trans h28]; decide)]; done) | (rw [wS, ← hg, if_pos ((hz_lt (by omega)).symm.trans h28)])) (by omega)
        · skip
          have hwb4 := (wB_le (i := i) (by omega)).1
          refine zz_aload_n 31 X.1 0 dX4_tell_31 rfl ?_
          refine zz_iload_n 32 X.1 3 dX4_tell_32 rfl ?_
          refine dd_callVv 33 X hml (th := 11) (As := [.int (nI i)]) (kt_X4_putNumber l D C K hAp (upd F 20 (nI wq)) hs (va_up G 19 gq) T wq i (rfl) (by first | rfl | assumption | omega) (by first | rfl | assumption | omega)) gX4_tell_X4_putNumber rfl ⟨rfl, rfl⟩ (dr_11 X) yd_X4_putNumber ⟨Nat.le_of_ble_eq_true rfl, Nat.le_of_ble_eq_true rfl⟩ rfl rfl (Nat.le_of_ble_eq_true rfl) ⟨Nat.zero_le _, Nat.zero_le _⟩ dX4_tell_33 ?_
          rintro ⟨F5, hs5, G5, T5⟩ hu5
          have hv5 := hu5
          cases hv5
          refine zz_world (P' := (DP D C K (upd F 20 (nI ((wM i (gq, wq)).2))) (WH hs) (va_up G 19 ((wM i (gq, wq)).1)) T)) (fun _ h => h) ?_
          refine zz_iinc 36 X.1 3 (v := (nI (i + 1))) (lv' := [(3, .int (nI (i + 1))), (0, .ref (K 11)), (1, .ref (K (20 + s0))), (2, .int (nI (ln (hM hs s0) 1024)))]) dX4_tell_36 rfl (nI_add i 1) (by decide) rfl ?_
          refine zz_goto 39 18 X.1 dX4_tell_39 (by decide) ?_
          refine zz_lvs [1, 2, 3, 0] rfl ?_
          exact ih18 (i + 1) ((wM i (gq, wq)).2) ((wM i (gq, wq)).1) (by omega) (by first | (rw [wS, ← hg, if_neg (by rw [(hz_lt (by omega)).symm.trans h28]; decide)]; done) | (rw [wS, ← hg, if_pos ((hz_lt (by omega)).symm.trans h28)])) (by omega)
  refine zz_lvs [2, 3, 1, 0] rfl ?_
  exact C18 (ln (hM hs s0) 1024 - 0 + 1) 0 (0 + 1) (upd (G 19) 0 (nI 123)) (by omega) (rfl) (Nat.lt_succ_self _)
