/-! A text read as a whole. -/
theorem liR_bd {K : Nat → Nat} {n : Nat} (hn : ∀ j, K j ≠ 0 → j < n) : ∀ d i, i ≤ n → (liR K d i).2 ≤ n
  | 0, i, h => h
  | d + 1, i, h => by
    unfold liR
    by_cases h1 : K i ≠ 3
    · rw [if_pos h1]; exact h
    · rw [if_neg h1]
      have h0 := hn i (by omega)
      by_cases h2 : K (i + 1) = 44
      · rw [if_pos h2]
        have := hn (i + 1) (by omega)
        exact liR_bd hn d (i + 2) (by omega)
      · rw [if_neg h2]
        by_cases h3 : K (i + 1) = 93
        · rw [if_pos h3]
          have := hn (i + 1) (by omega)
          show i + 2 ≤ n
          omega
        · rw [if_neg h3]; exact h0
theorem acR_bd {K : Nat → Nat} {n : Nat} (hn : ∀ j, K j ≠ 0 → j < n) {i : Nat} (h : i ≤ n) : (acR K i).2 ≤ n := by
  unfold acR
  by_cases h1 : K i = 43 ∨ K i = 45 ∨ K i = 94
  · rw [if_pos h1]
    have h0 := hn i (by omega)
    unfold rgR
    by_cases g1 : K (i + 1) ≠ 3
    · rw [if_pos g1]; exact h0
    · rw [if_neg g1]
      have h2 := hn (i + 1) (by omega)
      by_cases g2 : K (i + 1 + 1) ≠ 4
      · rw [if_pos g2]; exact h2
      · rw [if_neg g2]
        have h3 := hn (i + 1 + 1) (by omega)
        by_cases g3 : K (i + 1 + 2) ≠ 3
        · rw [if_pos g3]; exact h3
        · rw [if_neg g3]; exact hn (i + 1 + 2) (by omega)
  · rw [if_neg h1]
    by_cases h2 : K i = 61 ∧ K (i + 1) = 91
    · rw [if_pos h2]
      have h0 := hn (i + 1) (by omega)
      unfold roR
      by_cases h3 : K (i + 2) = 93
      · rw [if_pos h3]; exact hn (i + 2) (by omega)
      · rw [if_neg h3]; exact liR_bd hn _ _ h0
    · rw [if_neg h2]
      by_cases h4 : K i = 38 ∨ K i = 124 ∨ K i = 126 ∨ K i = 33 ∨ K i = 61
      · rw [if_pos h4]
        have h0 := hn i (by omega)
        unfold seR
        by_cases g1 : K (i + 1) ≠ 2
        · rw [if_pos g1]; exact h0
        · rw [if_neg g1]; exact hn (i + 1) (by omega)
      · rw [if_neg h4]; exact h
theorem stR_bd {K : Nat → Nat} {n : Nat} (hn : ∀ j, K j ≠ 0 → j < n) {i : Nat} (h : i ≤ n) : (stR K i).2 ≤ n := by
  unfold stR
  by_cases h1 : K i ≠ 2
  · rw [if_pos h1]; exact h
  · rw [if_neg h1]
    have h0 := hn i (by omega)
    by_cases h2 : (acR K (i + 1)).1 = false
    · rw [if_pos h2]; exact acR_bd hn h0
    · rw [if_neg h2]
      by_cases h3 : K (acR K (i + 1)).2 = 59
      · rw [if_pos h3]; exact hn _ (by omega)
      · rw [if_neg h3]; exact acR_bd hn h0
theorem stR_cases {K : Nat → Nat} {m k : Nat} (h : okS K m) (hk : k < m) : (stR K (sI K k)).1 = true := (h k hk).2
abbrev rm_X1_read : Room := { frames := 10, cells := 0, slots := 0, locals := 225 }
theorem yd_X1_read : yX1_read.cls = RX1 ∧ yX1_read.cls ≠ "java/lang/invoke/MethodHandle" ∧ yX1_read.cls ≠ "java/lang/invoke/VarHandle" ∧ (parseMethodDescriptor yX1_read.desc).map (fun d => d.parameters.length) = some 1 := by decide +kernel
set_option maxHeartbeats 4000000 in
set_option maxRecDepth 100000 in
theorem kt_X1_read_ok (l : Launch) (D : va_G) (C : Nat → ClassId) (K : Nat → Nat) (adK adV : Nat → Nat) (hAp : DAp K) (F : Nat → Int32) (hs : Nat → Bool) (G T : Nat → Nat → Int32) (KK : Nat → Nat) (VV : Nat → Nat) (SS : Nat → Nat) (m0 : Nat) (tn : Nat) (hT : F 4 = nI tn) (htn : tn ≤ 400) (hHB : HB (G 3) tn) (hKK : KK = tK (tc (G 3) tn) tn) (hVV : VV = tV (tc (G 3) tn) tn) (hSS : SS = tS (tc (G 3) tn) tn) (hok : okS KK m0) (hend : KK (sI KK m0) = 0) : CAi l yX1_read wsX1_read rm_X1_read D C K adK adV (4) [.ref (K 2)] F hs G T (fun (r : Int32) (u : CSt) => ∃ (T1 : Nat → Nat → Int32) (gl : Nat → Int32) (c1 : Nat) (ix : Nat) (nt : Nat) (g40 : Nat → Int32) (g41 : Nat → Int32) (g42 : Nat → Int32), r = (-1) ∧ u = (upd (upd (upd (upd (upd F 30 (nI m0)) 31 (nI c1)) 32 (nI nt)) 33 (nI ix)) 34 (nI tn), hs, va_up (va_up (va_up (va_up G 40 g40) 41 g41) 42 g42) 43 gl, T1) ∧ STB KK VV m0 T1 gl) := by
  refine CAi_of (lv := [(0, .ref (K 4)), (1, .ref (K 2))]) (cc := cX1_read) (maxL := 3) (ret := (some .int)) rfl (by decide +kernel) (Nat.le_of_ble_eq_true rfl) rfl ?_
  intro p e s m args below meth c X hB hml hr hlk
  generalize hQ : MQ below _ args s 0 0 _ = Q
  refine zz_aload_n 0 X.1 0 dX1_read_0 rfl ?_
  refine zz_iconst 1 X.1 (v := nI 0) dX1_read_1 rfl ?_
  refine dd_put4 2 hAp X (by decide +kernel) 3 (by decide) (F' := upd F 30 (nI 0)) rfl (by decide +kernel) ⟨rfl, rfl⟩ (by decide +kernel) dX1_read_2 ?_
  refine zz_aload_n 5 X.1 0 dX1_read_5 rfl ?_
  refine zz_iconst 6 X.1 (v := nI 0) dX1_read_6 rfl ?_
  refine dd_put4 7 hAp X (by decide +kernel) 4 (by decide) (F' := upd (upd F 30 (nI 0)) 31 (nI 0)) rfl (by decide +kernel) ⟨rfl, rfl⟩ (by decide +kernel) dX1_read_7 ?_
  refine zz_aload_n 10 X.1 0 dX1_read_10 rfl ?_
  refine dd_get4 11 X (by decide +kernel) 0 (by decide) (v := .ref (K 5)) rfl (by decide +kernel) rfl dX1_read_11 ?_
  refine zz_aload_n 14 X.1 1 dX1_read_14 rfl ?_
  refine dd_callAv 15 X hB hml (th := 5) (As := [.ref (K 2)]) (kt_X5_readAll l D C K adK adV hAp (upd (upd F 30 (nI 0)) 31 (nI 0)) hs G T tn (hT) (by first | rfl | assumption | omega) (by first | rfl | assumption | omega)) gX1_read_X5_readAll rfl ⟨rfl, rfl⟩ (dr_5 X) yd_X5_readAll ⟨Nat.le_of_ble_eq_true rfl, Nat.le_of_ble_eq_true rfl⟩ rfl rfl (Nat.le_of_ble_eq_true rfl) ⟨Nat.zero_le _, Nat.zero_le _⟩ dX1_read_15 ?_
  rintro ⟨F1, hs1, G1, T1⟩ hu1
  obtain ⟨nt_1, g40_1, g41_1, g42_1, hv1, hf1_0⟩ := hu1
  cases hv1
  refine zz_world (P' := (DP D C K (upd (upd (upd (upd (upd F 30 (nI 0)) 31 (nI 0)) 32 (nI nt_1)) 33 (nI 0)) 34 (nI tn)) (WH hs) (va_up (va_up (va_up G 40 g40_1) 41 g41_1) 42 g42_1) T)) (fun _ h => h) ?_
  refine zz_world (P' := (DP D C K (upd (upd (upd (upd (upd F 30 (nI 0)) 31 (nI 0)) 32 (nI nt_1)) 33 (nI 0)) 34 (nI tn)) (WH hs) (va_up (va_up (va_up (va_up G 40 g40_1) 41 g41_1) 42 g42_1) 43 (G 43)) T)) (dp_G (va_up_id (f := va_up (va_up (va_up G 40 g40_1) 41 g41_1) 42 g42_1) (k := 43)).symm) ?_
  have hTK : TKc KK VV SS nt_1 tn (g40_1) (g41_1) (g42_1) := by rw [hKK, hVV, hSS]; assumption
  have hn400 := hTK.1
  have hlt0 : ∀ i, KK i ≠ 0 → i < nt_1 := fun i hi => hTK.lt hi
  refine zz_iconst 18 X.1 (v := nI 0) dX1_read_18 rfl ?_
  refine zz_istore_n 19 X.1 (lv' := [(2, .int (nI 0)), (0, .ref (K 4)), (1, .ref (K 2))]) dX1_read_19 (by decide) rfl ?_
  have C20 : ∀ (d : Nat) (kq : Nat) (gq : Nat → Int32) (Tq : Nat → Nat → Int32) (hkq : kq ≤ m0) (hST : STB KK VV kq Tq gq) (hd : m0 + 1 - kq < d), ZZ p l e rm_X1_read s m args below meth c 0 0 Q (zz_A (DAd K) s.heap.size) (DP D C K (upd (upd (upd (upd (upd F 30 (nI kq)) 31 (nI (sC KK kq))) 32 (nI nt_1)) 33 (nI (sI KK kq))) 34 (nI tn)) (WH hs) (va_up (va_up (va_up (va_up G 40 g40_1) 41 g41_1) 42 g42_1) 43 gq) Tq) 3 [(0, .ref (K 4)), (1, .ref (K 2)), (2, .int (nI kq))] [] 20 := by
    intro d
    induction d with
    | zero => intro kq gq Tq hkq hST hd; exact absurd hd (Nat.not_lt_zero _)
    | succ d ih20 =>
      intro kq gq Tq hkq hST hd
      have hge := sI_ge kq (fun q hq => hok q (by omega))
      have hle := sI_le (K := KK) hlt0 kq (fun q hq => hok q (by omega))
      refine zz_iload_n 20 X.1 2 dX1_read_20 rfl ?_
      refine zz_bipush 21 X.1 (v := nI 100) dX1_read_21 rfl ?_
      refine zz_icmp_ge 23 73 X.1 (nI_toInt (by omega)) (nI_toInt (by omega)) dX1_read_23 (by decide) (fun h23 => ?_) (fun h23 => ?_)
      · skip
        refine zz_iconst 73 X.1 (v := (-1)) dX1_read_73 (by decide) ?_
        rw [← hQ]
        refine zz_iret 74 X.1 hr rfl hlk (upd (upd (upd (upd (upd F 30 (nI kq)) 31 (nI (sC KK kq))) 32 (nI nt_1)) 33 (nI (sI KK kq))) 34 (nI tn), hs, va_up (va_up (va_up (va_up G 40 g40_1) 41 g41_1) 42 g42_1) 43 gq, Tq) ?_ (fun _ h _ => h) dX1_read_74
        have e0 : kq = m0 := by
          rcases Nat.lt_or_ge kq m0 with z | z
          · exfalso
            have q1 := hok kq z
            have q2 := sI_ge kq (fun q hq => hok q (by omega))
            have q3 := hlt0 _ q1.1
            have q4 := q1.1
            omega
          · omega
        subst e0
        exact ⟨Tq, gq, sC KK kq, sI KK kq, nt_1, g40_1, g41_1, g42_1, rfl, rfl, hST⟩
      · skip
        have hkb := hTK.2.2.2 (sI KK kq)
        refine zz_aload_n 26 X.1 0 dX1_read_26 rfl ?_
        refine dd_get4 27 X (by decide +kernel) 0 (by decide) (v := .ref (K 5)) rfl (by decide +kernel) rfl dX1_read_27 ?_
        refine dd_callVi 30 X hml (th := 5) (As := []) (kt_X5_kind l D C K hAp (upd (upd (upd (upd (upd F 30 (nI kq)) 31 (nI (sC KK kq))) 32 (nI nt_1)) 33 (nI (sI KK kq))) 34 (nI tn)) hs (va_up (va_up (va_up (va_up G 40 g40_1) 41 g41_1) 42 g42_1) 43 gq) Tq KK VV SS nt_1 tn (sI KK kq) (by first | rfl | assumption | omega) (rfl) (rfl) (by first | rfl | assumption | omega)) gX1_read_X5_kind rfl ⟨rfl, rfl⟩ (dr_5 X) yd_X5_kind ⟨Nat.le_of_ble_eq_true rfl, Nat.le_of_ble_eq_true rfl⟩ rfl rfl (Nat.le_of_ble_eq_true rfl) ⟨Nat.zero_le _, Nat.zero_le _⟩ dX1_read_30 ?_
        rintro r2 ⟨F2, hs2, G2, T2⟩ hu2
        obtain ⟨rfl, hv2⟩ := hu2
        cases hv2
        refine zz_world (P' := (DP D C K (upd (upd (upd (upd (upd F 30 (nI kq)) 31 (nI (sC KK kq))) 32 (nI nt_1)) 33 (nI (sI KK kq))) 34 (nI tn)) (WH hs) (va_up (va_up (va_up (va_up G 40 g40_1) 41 g41_1) 42 g42_1) 43 gq) Tq)) (fun _ h => h) ?_
        refine zz_if_eq 33 73 X.1 (nI_toInt (by omega)) dX1_read_33 (by decide) (fun h33 => ?_) (fun h33 => ?_)
        · skip
          refine zz_iconst 73 X.1 (v := (-1)) dX1_read_73 (by decide) ?_
          rw [← hQ]
          refine zz_iret 74 X.1 hr rfl hlk (upd (upd (upd (upd (upd F 30 (nI kq)) 31 (nI (sC KK kq))) 32 (nI nt_1)) 33 (nI (sI KK kq))) 34 (nI tn), hs, va_up (va_up (va_up (va_up G 40 g40_1) 41 g41_1) 42 g42_1) 43 gq, Tq) ?_ (fun _ h _ => h) dX1_read_74
          have e0 : kq = m0 := by
            rcases Nat.lt_or_ge kq m0 with z | z
            · exfalso
              have q1 := hok kq z
              have q2 := sI_ge kq (fun q hq => hok q (by omega))
              have q3 := hlt0 _ q1.1
              have q4 := q1.1
              omega
            · omega
          subst e0
          exact ⟨Tq, gq, sC KK kq, sI KK kq, nt_1, g40_1, g41_1, g42_1, rfl, rfl, hST⟩
        · skip
          have hkm : kq < m0 := by
            rcases Nat.lt_or_ge kq m0 with z | z
            · exact z
            · exfalso; have e0 : kq = m0 := by omega
              rw [e0] at h33; omega
          refine zz_aload_n 36 X.1 0 dX1_read_36 rfl ?_
          refine zz_aload_n 37 X.1 0 dX1_read_37 rfl ?_
          refine dd_get4 38 X (by decide +kernel) 1 (by decide) (v := .ref (K 9)) rfl (by decide +kernel) rfl dX1_read_38 ?_
          refine zz_iload_n 41 X.1 2 dX1_read_41 rfl ?_
          refine dd_ald9 42 X (i := kq) (by omega) dX1_read_42 ?_
          refine dd_callVi 43 X hml (th := 4) (As := [.ref (K (100 + kq))]) (kt_X1_readStatement l D C K hAp (upd (upd (upd (upd (upd F 30 (nI kq)) 31 (nI (sC KK kq))) 32 (nI nt_1)) 33 (nI (sI KK kq))) 34 (nI tn)) hs (va_up (va_up (va_up (va_up G 40 g40_1) 41 g41_1) 42 g42_1) 43 gq) Tq KK VV SS nt_1 tn (sI KK kq) kq (sC KK kq) (by first | rfl | assumption | omega) (rfl) (by first | rfl | assumption | omega) (by first | rfl | assumption | omega) (by first | rfl | assumption | omega) (rfl) (by first | rfl | assumption | omega)) gX1_read_X1_readStatement rfl ⟨rfl, rfl⟩ (dr_4 X) yd_X1_readStatement ⟨Nat.le_of_ble_eq_true rfl, Nat.le_of_ble_eq_true rfl⟩ rfl rfl (Nat.le_of_ble_eq_true rfl) ⟨Nat.zero_le _, Nat.zero_le _⟩ dX1_read_43 ?_
          rintro r3 ⟨F3, hs3, G3, T3⟩ hu3
          obtain ⟨T1_3, g43_3, c1_3, rfl, hv3, hf3_0, hf3_1, hf3_2⟩ := hu3
          cases hv3
          refine zz_world (P' := (DP D C K (upd (upd (upd (upd (upd F 30 (nI kq)) 31 (nI c1_3)) 32 (nI nt_1)) 33 (nI ((stR KK (sI KK kq)).2))) 34 (nI tn)) (WH hs) (va_up (va_up (va_up (va_up G 40 g40_1) 41 g41_1) 42 g42_1) 43 g43_3) T3)) (fun _ h => h) ?_
          refine zz_ifB_ne 46 57 X.1 dX1_read_46 (by decide) (fun h46 => ?_) (fun h46 => ?_)
          · skip
            have hz := hf3_2 h46
            have hc1 : c1_3 = sC KK (kq + 1) := hz.2.2.2.2.1
            subst hc1
            refine zz_aload_n 57 X.1 0 dX1_read_57 rfl ?_
            refine zz_dup 58 X.1 dX1_read_58 rfl ?_
            refine dd_get4 59 X (by decide +kernel) 3 (by decide) (v := .int (nI kq)) rfl (by decide +kernel) rfl dX1_read_59 ?_
            refine zz_iconst 62 X.1 (v := nI 1) dX1_read_62 rfl ?_
            refine zz_iadd 63 X.1 (v := (nI (kq + 1))) dX1_read_63 (nI_add _ _) ?_
            refine dd_put4 64 hAp X (by decide +kernel) 3 (by decide) (F' := upd (upd (upd (upd (upd F 30 (nI (kq + 1))) 31 (nI (sC KK (kq + 1)))) 32 (nI nt_1)) 33 (nI ((stR KK (sI KK kq)).2))) 34 (nI tn)) rfl (by decide +kernel) ⟨rfl, rfl⟩ (by decide +kernel) dX1_read_64 ?_
            refine zz_iinc 67 X.1 2 (v := (nI (kq + 1))) (lv' := [(2, .int (nI (kq + 1))), (0, .ref (K 4)), (1, .ref (K 2))]) dX1_read_67 rfl (nI_add kq 1) (by decide) rfl ?_
            refine zz_goto 70 20 X.1 dX1_read_70 (by decide) ?_
            refine zz_lvs [1, 2, 0] rfl ?_
            exact ih20 (kq + 1) g43_3 T3 (by omega) (STB_up hST hf3_0 hf3_1 ⟨hz.1, hz.2.1, hz.2.2.1, hz.2.2.2.1⟩ hz.2.2.2.2.2) (by omega)
          · exfalso; exact absurd ((stR_cases hok hkm).symm.trans h46) (by decide)
  refine zz_lvs [1, 2, 0] rfl ?_
  exact C20 (m0 + 1 - 0 + 1) 0 (G 43) T (by omega) (STB_0) (Nat.lt_succ_self _)
