/-! The class's rows, actions, statements. -/
theorem liR_hi {K : Nat → Nat} {n : Nat} (hn : ∀ j, K j ≠ 0 → j < n) : ∀ d i, (liR K d i).1 = true → (liR K d i).2 ≤ n
  | 0, i, h => Bool.noConfusion h
  | d + 1, i, h => by
    unfold liR at h ⊢
    by_cases h1 : K i ≠ 3
    · rw [if_pos h1] at h; exact Bool.noConfusion h
    · rw [if_neg h1] at h ⊢
      by_cases h2 : K (i + 1) = 44
      · rw [if_pos h2] at h ⊢; exact liR_hi hn d (i + 2) h
      · rw [if_neg h2] at h ⊢
        by_cases h3 : K (i + 1) = 93
        · rw [if_pos h3]
          have := hn (i + 1) (by omega)
          show i + 2 ≤ n
          omega
        · rw [if_neg h3] at h; exact Bool.noConfusion h
theorem seR_hi {K : Nat → Nat} {n : Nat} (hn : ∀ j, K j ≠ 0 → j < n) {i : Nat} (h : (seR K i).1 = true) : (seR K i).2 ≤ n := by
  unfold seR at h ⊢
  by_cases h1 : K i ≠ 2
  · rw [if_pos h1] at h; exact Bool.noConfusion h
  · rw [if_neg h1]
    exact hn i (by omega)
theorem rgR_hi {K : Nat → Nat} {n : Nat} (hn : ∀ j, K j ≠ 0 → j < n) {i : Nat} (h : (rgR K i).1 = true) : (rgR K i).2 ≤ n := by
  unfold rgR at h ⊢
  by_cases h1 : K i ≠ 3
  · rw [if_pos h1] at h; exact Bool.noConfusion h
  · rw [if_neg h1] at h ⊢
    by_cases h2 : K (i + 1) ≠ 4
    · rw [if_pos h2]; exact hn i (by omega)
    · rw [if_neg h2] at h ⊢
      by_cases h3 : K (i + 2) ≠ 3
      · rw [if_pos h3] at h; exact Bool.noConfusion h
      · rw [if_neg h3]; exact hn (i + 2) (by omega)
theorem acR_hi {K : Nat → Nat} {n : Nat} (hn : ∀ j, K j ≠ 0 → j < n) {i : Nat} (h : (acR K i).1 = true) : (acR K i).2 ≤ n := by
  unfold acR at h ⊢
  by_cases h1 : K i = 43 ∨ K i = 45 ∨ K i = 94
  · rw [if_pos h1] at h ⊢; exact rgR_hi hn h
  · rw [if_neg h1] at h ⊢
    by_cases h2 : K i = 61 ∧ K (i + 1) = 91
    · rw [if_pos h2] at h ⊢
      unfold roR at h ⊢
      by_cases h3 : K (i + 2) = 93
      · rw [if_pos h3]; exact hn (i + 2) (by omega)
      · rw [if_neg h3] at h ⊢; exact liR_hi hn _ _ h
    · rw [if_neg h2] at h ⊢
      by_cases h4 : K i = 38 ∨ K i = 124 ∨ K i = 126 ∨ K i = 33 ∨ K i = 61
      · rw [if_pos h4] at h ⊢; exact seR_hi hn h
      · rw [if_neg h4] at h; exact Bool.noConfusion h
abbrev rm_X1_readList : Room := { frames := 2, cells := 0, slots := 0, locals := 41 }
theorem yd_X1_readList : yX1_readList.cls = RX1 ∧ yX1_readList.cls ≠ "java/lang/invoke/MethodHandle" ∧ yX1_readList.cls ≠ "java/lang/invoke/VarHandle" ∧ (parseMethodDescriptor yX1_readList.desc).map (fun d => d.parameters.length) = some 1 := by decide +kernel
set_option maxHeartbeats 4000000 in
set_option maxRecDepth 100000 in
theorem kt_X1_readList (l : Launch) (D : va_G) (C : Nat → ClassId) (K : Nat → Nat) (hAp : DAp K) (F : Nat → Int32) (hs : Nat → Bool) (G T : Nat → Nat → Int32) (KK : Nat → Nat) (VV : Nat → Nat) (SS : Nat → Nat) (nt : Nat) (tn : Nat) (i : Nat) (u0 : Nat) (c0 : Nat) (hTK : TKc KK VV SS nt tn (G 40) (G 41) (G 42)) (h32 : F 32 = nI nt) (h33 : F 33 = nI i) (hi : i ≤ 400) (hm : u0 < 100) (h31 : F 31 = nI c0) (hk91 : KK i = 91) (hc2 : 2 * c0 + 3 ≤ i + 1) : CMi l yX1_readList wsX1_readList rm_X1_readList D C K (4)  [.ref (K (100 + u0))] F hs G T (fun (r : Int32) (u : CSt) => ∃ (T1 : Nat → Nat → Int32) (g43 : Nat → Int32) (c1 : Nat), r = (bI ((roR KK (i + 1)).1)) ∧ u = (upd (upd F 31 (nI c1)) 33 (nI ((roR KK (i + 1)).2)), hs, va_up G 43 g43, T1) ∧ (∀ k, k ≠ u0 → T1 k = T k) ∧ (T1 u0 0 = T u0 0 ∧ T1 u0 1 = nI 91 ∧ T1 u0 2 = nI c0) ∧ (∀ k, k < c0 → g43 k = G 43 k) ∧ ((roR KK (i + 1)).1 = true → T1 u0 3 = nI (c0 + roN KK (i + 1)) ∧ c1 = c0 + roN KK (i + 1) ∧ ∀ k, k < roN KK (i + 1) → g43 (c0 + k) = nI (VV (i + 1 + 2 * k)))) := by
  refine CMi_of (lv := [(0, .ref (K 4)), (1, .ref (K (100 + u0)))]) (cc := cX1_readList) (maxL := 3) (ret := (some .boolean)) rfl (by decide +kernel) (Nat.le_of_ble_eq_true rfl) rfl ?_
  intro p e s m args below meth c X hml hr hlk
  generalize hQ : MQ below _ args s 0 0 _ = Q
  have hkb := hTK.2.2.2 i
  have hkl := hTK.lt (i := i) (by omega)
  have hn400 := hTK.1
  refine zz_world (P' := (DP D C K (upd F 31 (nI c0)) (WH hs) G T)) (dp_F (upd_self (f := F) (k := 31) (x := nI c0) h31).symm) ?_
  refine zz_world (P' := (DP D C K (upd (upd F 31 (nI c0)) 33 (nI i)) (WH hs) G T)) (dp_F (upd_self (f := upd F 31 (nI c0)) (k := 33) (x := nI i) h33).symm) ?_
  refine zz_world (P' := (DP D C K (upd (upd F 31 (nI c0)) 33 (nI i)) (WH hs) (va_up G 43 (G 43)) T)) (dp_G (va_up_id (f := G) (k := 43)).symm) ?_
  refine zz_aload_n 0 X.1 1 dX1_readList_0 rfl ?_
  refine zz_bipush 1 X.1 (v := nI 91) dX1_readList_1 rfl ?_
  refine dd_putS 3 hAp X (by decide +kernel) (i := u0) (by omega) 1 (by decide) (t := upd (T u0) 1 (nI 91)) rfl (by decide +kernel) ⟨rfl, rfl⟩ (by decide +kernel) dX1_readList_3 ?_
  refine zz_aload_n 6 X.1 1 dX1_readList_6 rfl ?_
  refine zz_aload_n 7 X.1 0 dX1_readList_7 rfl ?_
  refine dd_get4 8 X (by decide +kernel) 4 (by decide) (v := .int (nI c0)) rfl (by decide +kernel) rfl dX1_readList_8 ?_
  refine dd_putS 11 hAp X (by decide +kernel) (i := u0) (by omega) 2 (by decide) (t := upd ((va_up T u0 (upd (T u0) 1 (nI 91))) u0) 2 (nI c0)) rfl (by decide +kernel) ⟨rfl, rfl⟩ (by decide +kernel) dX1_readList_11 ?_
  refine zz_aload_n 14 X.1 1 dX1_readList_14 rfl ?_
  refine zz_aload_n 15 X.1 0 dX1_readList_15 rfl ?_
  refine dd_get4 16 X (by decide +kernel) 4 (by decide) (v := .int (nI c0)) rfl (by decide +kernel) rfl dX1_readList_16 ?_
  refine dd_putS 19 hAp X (by decide +kernel) (i := u0) (by omega) 3 (by decide) (t := upd ((va_up (va_up T u0 (upd (T u0) 1 (nI 91))) u0 (upd ((va_up T u0 (upd (T u0) 1 (nI 91))) u0) 2 (nI c0))) u0) 3 (nI c0)) rfl (by decide +kernel) ⟨rfl, rfl⟩ (by decide +kernel) dX1_readList_19 ?_
  refine zz_aload_n 22 X.1 0 dX1_readList_22 rfl ?_
  refine dd_get4 23 X (by decide +kernel) 0 (by decide) (v := .ref (K 5)) rfl (by decide +kernel) rfl dX1_readList_23 ?_
  refine dd_callVv 26 X hml (th := 5) (As := []) (kt_X5_advance l D C K hAp (upd (upd F 31 (nI c0)) 33 (nI i)) hs (va_up G 43 (G 43)) (va_up (va_up (va_up T u0 (upd (T u0) 1 (nI 91))) u0 (upd ((va_up T u0 (upd (T u0) 1 (nI 91))) u0) 2 (nI c0))) u0 (upd ((va_up (va_up T u0 (upd (T u0) 1 (nI 91))) u0 (upd ((va_up T u0 (upd (T u0) 1 (nI 91))) u0) 2 (nI c0))) u0) 3 (nI c0))) i (rfl)) gX1_readList_X5_advance rfl ⟨rfl, rfl⟩ (dr_5 X) yd_X5_advance ⟨Nat.le_of_ble_eq_true rfl, Nat.le_of_ble_eq_true rfl⟩ rfl rfl (Nat.le_of_ble_eq_true rfl) ⟨Nat.zero_le _, Nat.zero_le _⟩ dX1_readList_26 ?_
  rintro ⟨F1, hs1, G1, T1⟩ hu1
  have hv1 := hu1
  cases hv1
  refine zz_world (P' := (DP D C K (upd (upd F 31 (nI c0)) 33 (nI (i + 1))) (WH hs) (va_up G 43 (G 43)) (va_up (va_up (va_up T u0 (upd (T u0) 1 (nI 91))) u0 (upd ((va_up T u0 (upd (T u0) 1 (nI 91))) u0) 2 (nI c0))) u0 (upd ((va_up (va_up T u0 (upd (T u0) 1 (nI 91))) u0 (upd ((va_up T u0 (upd (T u0) 1 (nI 91))) u0) 2 (nI c0))) u0) 3 (nI c0))))) (fun _ h => h) ?_
  refine zz_aload_n 29 X.1 0 dX1_readList_29 rfl ?_
  refine zz_bipush 30 X.1 (v := nI 93) dX1_readList_30 rfl ?_
  refine dd_callVi 32 X hml (th := 4) (As := [.int (nI 93)]) (kt_X1_pass l D C K hAp (upd (upd F 31 (nI c0)) 33 (nI (i + 1))) hs (va_up G 43 (G 43)) (va_up (va_up (va_up T u0 (upd (T u0) 1 (nI 91))) u0 (upd ((va_up T u0 (upd (T u0) 1 (nI 91))) u0) 2 (nI c0))) u0 (upd ((va_up (va_up T u0 (upd (T u0) 1 (nI 91))) u0 (upd ((va_up T u0 (upd (T u0) 1 (nI 91))) u0) 2 (nI c0))) u0) 3 (nI c0))) KK VV SS nt tn (i + 1) 93 (by first | rfl | assumption | omega) (h32) (rfl) (by first | rfl | assumption | omega) (by first | rfl | assumption | omega)) gX1_readList_X1_pass rfl ⟨rfl, rfl⟩ (dr_4 X) yd_X1_pass ⟨Nat.le_of_ble_eq_true rfl, Nat.le_of_ble_eq_true rfl⟩ rfl rfl (Nat.le_of_ble_eq_true rfl) ⟨Nat.zero_le _, Nat.zero_le _⟩ dX1_readList_32 ?_
  rintro r2 ⟨F2, hs2, G2, T2⟩ hu2
  rcases (show (KK (i + 1) = 93) ∨ (KK (i + 1) ≠ 93) by omega) with hc2 | hc2
  · skip
    obtain ⟨rfl, hv2⟩ := (hu2.1 hc2)
    cases hv2
    refine zz_world (P' := (DP D C K (upd (upd F 31 (nI c0)) 33 (nI ((i + 1) + 1))) (WH hs) (va_up G 43 (G 43)) (va_up (va_up (va_up T u0 (upd (T u0) 1 (nI 91))) u0 (upd ((va_up T u0 (upd (T u0) 1 (nI 91))) u0) 2 (nI c0))) u0 (upd ((va_up (va_up T u0 (upd (T u0) 1 (nI 91))) u0 (upd ((va_up T u0 (upd (T u0) 1 (nI 91))) u0) 2 (nI c0))) u0) 3 (nI c0))))) (fun _ h => h) ?_
    refine zz_ifB_eq 35 40 X.1 dX1_readList_35 (by decide) (fun h35 => ?_) (fun h35 => ?_)
    · exact absurd h35 (by decide)
    · skip
      refine zz_iconst 38 X.1 (v := nI 1) dX1_readList_38 rfl ?_
      refine zz_topi (bI true) rfl ?_
      rw [← hQ]
      refine zz_iret 39 X.1 hr (bI_nar _) hlk (upd (upd F 31 (nI c0)) 33 (nI ((i + 1) + 1)), hs, va_up G 43 (G 43), va_up (va_up (va_up T u0 (upd (T u0) 1 (nI 91))) u0 (upd ((va_up T u0 (upd (T u0) 1 (nI 91))) u0) 2 (nI c0))) u0 (upd ((va_up (va_up T u0 (upd (T u0) 1 (nI 91))) u0 (upd ((va_up T u0 (upd (T u0) 1 (nI 91))) u0) 2 (nI c0))) u0) 3 (nI c0))) ?_ (fun _ h _ => h) dX1_readList_39
      have hR : roR KK (i + 1) = (true, (i + 1) + 1) := by
        unfold roR
        rw [if_pos (show KK (i + 1) = 93 by omega)]
      have hN : roN KK (i + 1) = 0 := by
        unfold roN
        rw [if_pos (show KK (i + 1) = 93 by omega)]
      rw [hR]
      refine ⟨va_up (va_up (va_up T u0 (upd (T u0) 1 (nI 91))) u0 (upd ((va_up T u0 (upd (T u0) 1 (nI 91))) u0) 2 (nI c0))) u0 (upd ((va_up (va_up T u0 (upd (T u0) 1 (nI 91))) u0 (upd ((va_up T u0 (upd (T u0) 1 (nI 91))) u0) 2 (nI c0))) u0) 3 (nI c0)), G 43, c0, rfl, rfl, fun k hk => by simp [va_up, upd, hk], ⟨(by simp [va_up, upd]), (by simp [va_up, upd]), (by simp [va_up, upd])⟩, fun k hk => rfl, fun hz => ⟨?_, ?_, fun k hk => ?_⟩⟩
      · rw [hN]; simp [va_up, upd]
      · rw [hN]; rfl
      · rw [hN] at hk; exact absurd hk (Nat.not_lt_zero _)
  · skip
    obtain ⟨rfl, hv2⟩ := (hu2.2 hc2)
    cases hv2
    refine zz_world (P' := (DP D C K (upd (upd F 31 (nI c0)) 33 (nI (i + 1))) (WH hs) (va_up G 43 (G 43)) (va_up (va_up (va_up T u0 (upd (T u0) 1 (nI 91))) u0 (upd ((va_up T u0 (upd (T u0) 1 (nI 91))) u0) 2 (nI c0))) u0 (upd ((va_up (va_up T u0 (upd (T u0) 1 (nI 91))) u0 (upd ((va_up T u0 (upd (T u0) 1 (nI 91))) u0) 2 (nI c0))) u0) 3 (nI c0))))) (fun _ h => h) ?_
    refine zz_ifB_eq 35 40 X.1 dX1_readList_35 (by decide) (fun h35 => ?_) (fun h35 => ?_)
    · skip
      refine zz_aload_n 40 X.1 0 dX1_readList_40 rfl ?_
      refine dd_get4 41 X (by decide +kernel) 4 (by decide) (v := .int (nI c0)) rfl (by decide +kernel) rfl dX1_readList_41 ?_
      refine zz_istore_n 44 X.1 (lv' := [(2, .int (nI c0)), (0, .ref (K 4)), (1, .ref (K (100 + u0)))]) dX1_readList_44 (by decide) rfl ?_
      have C45 : ∀ (d : Nat) (n1 : Nat) (gq : Nat → Int32) (Tq : Nat → Nat → Int32) (hnl : i + 1 + 2 * n1 ≤ 400) (hnc : c0 + n1 < 400) (hA : ∀ k, k < n1 → KK (i + 1 + 2 * k) = 3) (hB2 : ∀ k, k < n1 → KK (i + 1 + 2 * k + 1) = 44) (hC : ∀ k, k < n1 → gq (c0 + k) = nI (VV (i + 1 + 2 * k))) (hD : ∀ k, k < c0 → gq k = G 43 k) (hq : ∀ k, k ≠ u0 → Tq k = T k) (hq0 : Tq u0 0 = T u0 0 ∧ Tq u0 1 = nI 91 ∧ Tq u0 2 = nI c0) (hd : 400 - n1 < d), ZZ p l e rm_X1_readList s m args below meth c 0 0 Q (zz_A (DAd K) s.heap.size) (DP D C K (upd (upd F 31 (nI (c0 + n1))) 33 (nI (i + 1 + 2 * n1))) (WH hs) (va_up G 43 gq) Tq) 3 [(0, .ref (K 4)), (1, .ref (K (100 + u0))), (2, .int (nI (c0 + n1)))] [] 45 := by
        intro d
        induction d with
        | zero => intro n1 gq Tq hnl hnc hA hB2 hC hD hq hq0 hd; exact absurd hd (Nat.not_lt_zero _)
        | succ d ih45 =>
          intro n1 gq Tq hnl hnc hA hB2 hC hD hq hq0 hd
          have hkb2 := hTK.2.2.2 (i + 1 + 2 * n1)
          have hkb3 := hTK.2.2.2 (i + 1 + 2 * n1 + 1)
          refine zz_iload_n 45 X.1 2 dX1_readList_45 rfl ?_
          refine zz_sipush 46 X.1 (v := nI 400) dX1_readList_46 rfl ?_
          refine zz_icmp_ge 49 112 X.1 (nI_toInt (by omega)) (nI_toInt (by omega)) dX1_readList_49 (by decide) (fun h49 => ?_) (fun h49 => ?_)
          · exfalso; omega
          · skip
            refine zz_aload_n 52 X.1 0 dX1_readList_52 rfl ?_
            refine dd_get4 53 X (by decide +kernel) 2 (by decide) (v := .ref (K 10)) rfl (by decide +kernel) rfl dX1_readList_53 ?_
            refine zz_iload_n 56 X.1 2 dX1_readList_56 rfl ?_
            refine zz_aload_n 57 X.1 0 dX1_readList_57 rfl ?_
            refine dd_get4 58 X (by decide +kernel) 0 (by decide) (v := .ref (K 5)) rfl (by decide +kernel) rfl dX1_readList_58 ?_
            refine dd_callVi 61 X hml (th := 5) (As := []) (kt_X5_value l D C K hAp (upd (upd F 31 (nI (c0 + n1))) 33 (nI (i + 1 + 2 * n1))) hs (va_up G 43 gq) Tq KK VV SS nt tn (i + 1 + 2 * n1) (by first | rfl | assumption | omega) (h32) (rfl) (by first | rfl | assumption | omega)) gX1_readList_X5_value rfl ⟨rfl, rfl⟩ (dr_5 X) yd_X5_value ⟨Nat.le_of_ble_eq_true rfl, Nat.le_of_ble_eq_true rfl⟩ rfl rfl (Nat.le_of_ble_eq_true rfl) ⟨Nat.zero_le _, Nat.zero_le _⟩ dX1_readList_61 ?_
            rintro r3 ⟨F3, hs3, G3, T3⟩ hu3
            obtain ⟨rfl, hv3⟩ := hu3
            cases hv3
            refine zz_world (P' := (DP D C K (upd (upd F 31 (nI (c0 + n1))) 33 (nI (i + 1 + 2 * n1))) (WH hs) (va_up G 43 gq) Tq)) (fun _ h => h) ?_
            refine dd_iast 64 hAp X 10 10 (by decide) (f := gq) (G' := va_up G 43 (upd gq (c0 + n1) (tvv (G 41) nt (i + 1 + 2 * n1)))) rfl rfl (by omega) (by decide) dX1_readList_64 ?_
            refine zz_aload_n 65 X.1 0 dX1_readList_65 rfl ?_
            refine zz_iconst 66 X.1 (v := nI 3) dX1_readList_66 rfl ?_
            refine dd_callVi 67 X hml (th := 4) (As := [.int (nI 3)]) (kt_X1_pass l D C K hAp (upd (upd F 31 (nI (c0 + n1))) 33 (nI (i + 1 + 2 * n1))) hs (va_up G 43 (upd gq (c0 + n1) (tvv (G 41) nt (i + 1 + 2 * n1)))) Tq KK VV SS nt tn (i + 1 + 2 * n1) 3 (by first | rfl | assumption | omega) (h32) (rfl) (by first | rfl | assumption | omega) (by first | rfl | assumption | omega)) gX1_readList_X1_pass rfl ⟨rfl, rfl⟩ (dr_4 X) yd_X1_pass ⟨Nat.le_of_ble_eq_true rfl, Nat.le_of_ble_eq_true rfl⟩ rfl rfl (Nat.le_of_ble_eq_true rfl) ⟨Nat.zero_le _, Nat.zero_le _⟩ dX1_readList_67 ?_
            rintro r4 ⟨F4, hs4, G4, T4⟩ hu4
            rcases (show (KK (i + 1 + 2 * n1) = 3) ∨ (KK (i + 1 + 2 * n1) ≠ 3) by omega) with hc4 | hc4
            · skip
              obtain ⟨rfl, hv4⟩ := (hu4.1 hc4)
              cases hv4
              refine zz_world (P' := (DP D C K (upd (upd F 31 (nI (c0 + n1))) 33 (nI ((i + 1 + 2 * n1) + 1))) (WH hs) (va_up G 43 (upd gq (c0 + n1) (tvv (G 41) nt (i + 1 + 2 * n1)))) Tq)) (fun _ h => h) ?_
              refine zz_ifB_ne 70 75 X.1 dX1_readList_70 (by decide) (fun h70 => ?_) (fun h70 => ?_)
              · skip
                have hkl3 := hTK.lt (i := i + 1 + 2 * n1) (by omega)
                refine zz_aload_n 75 X.1 0 dX1_readList_75 rfl ?_
                refine zz_iload_n 76 X.1 2 dX1_readList_76 rfl ?_
                refine zz_iconst 77 X.1 (v := nI 1) dX1_readList_77 rfl ?_
                refine zz_iadd 78 X.1 (v := (nI ((c0 + n1) + 1))) dX1_readList_78 (nI_add _ _) ?_
                refine dd_put4 79 hAp X (by decide +kernel) 4 (by decide) (F' := upd (upd F 31 (nI ((c0 + n1) + 1))) 33 (nI ((i + 1 + 2 * n1) + 1))) rfl (by decide +kernel) ⟨rfl, rfl⟩ (by decide +kernel) dX1_readList_79 ?_
                refine zz_aload_n 82 X.1 1 dX1_readList_82 rfl ?_
                refine zz_aload_n 83 X.1 0 dX1_readList_83 rfl ?_
                refine dd_get4 84 X (by decide +kernel) 4 (by decide) (v := .int (nI ((c0 + n1) + 1))) rfl (by decide +kernel) rfl dX1_readList_84 ?_
                refine dd_putS 87 hAp X (by decide +kernel) (i := u0) (by omega) 3 (by decide) (t := upd (Tq u0) 3 (nI ((c0 + n1) + 1))) rfl (by decide +kernel) ⟨rfl, rfl⟩ (by decide +kernel) dX1_readList_87 ?_
                refine zz_aload_n 90 X.1 0 dX1_readList_90 rfl ?_
                refine zz_bipush 91 X.1 (v := nI 44) dX1_readList_91 rfl ?_
                refine dd_callVi 93 X hml (th := 4) (As := [.int (nI 44)]) (kt_X1_pass l D C K hAp (upd (upd F 31 (nI ((c0 + n1) + 1))) 33 (nI ((i + 1 + 2 * n1) + 1))) hs (va_up G 43 (upd gq (c0 + n1) (tvv (G 41) nt (i + 1 + 2 * n1)))) (va_up Tq u0 (upd (Tq u0) 3 (nI ((c0 + n1) + 1)))) KK VV SS nt tn ((i + 1 + 2 * n1) + 1) 44 (by first | rfl | assumption | omega) (h32) (rfl) (by first | rfl | assumption | omega) (by first | rfl | assumption | omega)) gX1_readList_X1_pass rfl ⟨rfl, rfl⟩ (dr_4 X) yd_X1_pass ⟨Nat.le_of_ble_eq_true rfl, Nat.le_of_ble_eq_true rfl⟩ rfl rfl (Nat.le_of_ble_eq_true rfl) ⟨Nat.zero_le _, Nat.zero_le _⟩ dX1_readList_93 ?_
                rintro r5 ⟨F5, hs5, G5, T5⟩ hu5
                rcases (show (KK ((i + 1 + 2 * n1) + 1) = 44) ∨ (KK ((i + 1 + 2 * n1) + 1) ≠ 44) by omega) with hc5 | hc5
                · skip
                  obtain ⟨rfl, hv5⟩ := (hu5.1 hc5)
                  cases hv5
                  refine zz_world (P' := (DP D C K (upd (upd F 31 (nI ((c0 + n1) + 1))) 33 (nI (((i + 1 + 2 * n1) + 1) + 1))) (WH hs) (va_up G 43 (upd gq (c0 + n1) (tvv (G 41) nt (i + 1 + 2 * n1)))) (va_up Tq u0 (upd (Tq u0) 3 (nI ((c0 + n1) + 1)))))) (fun _ h => h) ?_
                  refine zz_ifB_ne 96 106 X.1 dX1_readList_96 (by decide) (fun h96 => ?_) (fun h96 => ?_)
                  · skip
                    have hkl4 := hTK.lt (i := i + 1 + 2 * n1 + 1) (by omega)
                    refine zz_iinc 106 X.1 2 (v := (nI ((c0 + n1) + 1))) (lv' := [(2, .int (nI ((c0 + n1) + 1))), (0, .ref (K 4)), (1, .ref (K (100 + u0)))]) dX1_readList_106 rfl (nI_add (c0 + n1) 1) (by decide) rfl ?_
                    refine zz_goto 109 45 X.1 dX1_readList_109 (by decide) ?_
                    refine zz_lvs [1, 2, 0] rfl ?_
                    exact ih45 (n1 + 1) (upd gq (c0 + n1) (tvv (G 41) nt (i + 1 + 2 * n1))) (va_up Tq u0 (upd (Tq u0) 3 (nI ((c0 + n1) + 1)))) (by omega) (by omega) (fun k hk => by rcases Nat.lt_or_ge k n1 with z | z; exact hA k z; rw [show k = n1 by omega]; omega) (fun k hk => by rcases Nat.lt_or_ge k n1 with z | z; exact hB2 k z; rw [show k = n1 by omega]; omega) (fun k hk => by rcases Nat.lt_or_ge k n1 with z | z; rw [upd_ne (by omega)]; exact hC k z; rw [show k = n1 by omega, upd_eq]; exact tvv_ok hTK (Or.inr (by omega))) (fun k hk => by rw [upd_ne (by omega)]; exact hD k hk) (fun k hk => by simp [va_up, hk]; exact hq k hk) (by simp [va_up, upd]; exact hq0) (by omega)
                  · exact absurd h96 (by decide)
                · skip
                  obtain ⟨rfl, hv5⟩ := (hu5.2 hc5)
                  cases hv5
                  refine zz_world (P' := (DP D C K (upd (upd F 31 (nI ((c0 + n1) + 1))) 33 (nI ((i + 1 + 2 * n1) + 1))) (WH hs) (va_up G 43 (upd gq (c0 + n1) (tvv (G 41) nt (i + 1 + 2 * n1)))) (va_up Tq u0 (upd (Tq u0) 3 (nI ((c0 + n1) + 1)))))) (fun _ h => h) ?_
                  refine zz_ifB_ne 96 106 X.1 dX1_readList_96 (by decide) (fun h96 => ?_) (fun h96 => ?_)
                  · exact absurd h96 (by decide)
                  · skip
                    refine zz_aload_n 99 X.1 0 dX1_readList_99 rfl ?_
                    refine zz_bipush 100 X.1 (v := nI 93) dX1_readList_100 rfl ?_
                    refine dd_callVi 102 X hml (th := 4) (As := [.int (nI 93)]) (kt_X1_pass l D C K hAp (upd (upd F 31 (nI ((c0 + n1) + 1))) 33 (nI ((i + 1 + 2 * n1) + 1))) hs (va_up G 43 (upd gq (c0 + n1) (tvv (G 41) nt (i + 1 + 2 * n1)))) (va_up Tq u0 (upd (Tq u0) 3 (nI ((c0 + n1) + 1)))) KK VV SS nt tn ((i + 1 + 2 * n1) + 1) 93 (by first | rfl | assumption | omega) (h32) (rfl) (by first | rfl | assumption | omega) (by first | rfl | assumption | omega)) gX1_readList_X1_pass rfl ⟨rfl, rfl⟩ (dr_4 X) yd_X1_pass ⟨Nat.le_of_ble_eq_true rfl, Nat.le_of_ble_eq_true rfl⟩ rfl rfl (Nat.le_of_ble_eq_true rfl) ⟨Nat.zero_le _, Nat.zero_le _⟩ dX1_readList_102 ?_
                    rintro r6 ⟨F6, hs6, G6, T6⟩ hu6
                    rcases (show (KK ((i + 1 + 2 * n1) + 1) = 93) ∨ (KK ((i + 1 + 2 * n1) + 1) ≠ 93) by omega) with hc6 | hc6
                    · skip
                      obtain ⟨rfl, hv6⟩ := (hu6.1 hc6)
                      cases hv6
                      refine zz_world (P' := (DP D C K (upd (upd F 31 (nI ((c0 + n1) + 1))) 33 (nI (((i + 1 + 2 * n1) + 1) + 1))) (WH hs) (va_up G 43 (upd gq (c0 + n1) (tvv (G 41) nt (i + 1 + 2 * n1)))) (va_up Tq u0 (upd (Tq u0) 3 (nI ((c0 + n1) + 1)))))) (fun _ h => h) ?_
                      rw [← hQ]
                      refine zz_iret 105 X.1 hr (bI_nar _) hlk (upd (upd F 31 (nI ((c0 + n1) + 1))) 33 (nI (((i + 1 + 2 * n1) + 1) + 1)), hs, va_up G 43 (upd gq (c0 + n1) (tvv (G 41) nt (i + 1 + 2 * n1))), va_up Tq u0 (upd (Tq u0) 3 (nI ((c0 + n1) + 1)))) ?_ (fun _ h _ => h) dX1_readList_105
                      have hA3 : ∀ k, k ≤ n1 → KK (i + 1 + 2 * k) = 3 := fun k hk => by rcases Nat.lt_or_ge k n1 with z | z; exact hA k z; rw [show k = n1 by omega]; omega
                      have hL := liR_run n1 400 (i + 1) (K := KK) (by omega) hA3 hB2 (by omega)
                      have hR : roR KK (i + 1) = (true, ((i + 1 + 2 * n1) + 1) + 1) := by
                        unfold roR
                        rw [if_neg (show ¬ KK (i + 1) = 93 by omega), hL.1]
                        rw [if_pos (show KK (i + 1 + 2 * n1 + 1) = 93 by omega)]
                      have hN : roN KK (i + 1) = n1 + 1 := by
                        unfold roN
                        rw [if_neg (show ¬ KK (i + 1) = 93 by omega)]
                        exact hL.2
                      rw [hR]
                      refine ⟨va_up Tq u0 (upd (Tq u0) 3 (nI ((c0 + n1) + 1))), upd gq (c0 + n1) (tvv (G 41) nt (i + 1 + 2 * n1)), (c0 + n1) + 1, rfl, rfl, fun k hk => ?_, ⟨?_, ?_, ?_⟩, fun k hk => ?_, fun hz => ?_⟩
                      · first | exact hq k hk | (simp [va_up, hk]; exact hq k hk)
                      · first | exact hq0.1 | (simp [va_up, upd]; exact hq0.1)
                      · first | exact hq0.2.1 | (simp [va_up, upd]; exact hq0.2.1)
                      · first | exact hq0.2.2 | (simp [va_up, upd]; exact hq0.2.2)
                      · first | exact hD k hk | (rw [upd_ne (by omega)]; exact hD k hk)
                      · rw [hN]
                        refine ⟨?_, by omega, fun k hk => ?_⟩
                        · simp [va_up, upd, Nat.add_assoc]
                        · rcases Nat.lt_or_ge k n1 with z | z
                          · rw [upd_ne (by omega)]; exact hC k z
                          · rw [show k = n1 by omega, upd_eq]; exact tvv_ok hTK (Or.inr (hA3 n1 (Nat.le_refl _)))
                    · skip
                      obtain ⟨rfl, hv6⟩ := (hu6.2 hc6)
                      cases hv6
                      refine zz_world (P' := (DP D C K (upd (upd F 31 (nI ((c0 + n1) + 1))) 33 (nI ((i + 1 + 2 * n1) + 1))) (WH hs) (va_up G 43 (upd gq (c0 + n1) (tvv (G 41) nt (i + 1 + 2 * n1)))) (va_up Tq u0 (upd (Tq u0) 3 (nI ((c0 + n1) + 1)))))) (fun _ h => h) ?_
                      rw [← hQ]
                      refine zz_iret 105 X.1 hr (bI_nar _) hlk (upd (upd F 31 (nI ((c0 + n1) + 1))) 33 (nI ((i + 1 + 2 * n1) + 1)), hs, va_up G 43 (upd gq (c0 + n1) (tvv (G 41) nt (i + 1 + 2 * n1))), va_up Tq u0 (upd (Tq u0) 3 (nI ((c0 + n1) + 1)))) ?_ (fun _ h _ => h) dX1_readList_105
                      have hA3 : ∀ k, k ≤ n1 → KK (i + 1 + 2 * k) = 3 := fun k hk => by rcases Nat.lt_or_ge k n1 with z | z; exact hA k z; rw [show k = n1 by omega]; omega
                      have hL := liR_run n1 400 (i + 1) (K := KK) (by omega) hA3 hB2 (by omega)
                      have hR : roR KK (i + 1) = (false, ((i + 1 + 2 * n1) + 1)) := by
                        unfold roR
                        rw [if_neg (show ¬ KK (i + 1) = 93 by omega), hL.1]
                        rw [if_neg (show ¬ KK (i + 1 + 2 * n1 + 1) = 93 by omega)]
                      have hN : roN KK (i + 1) = n1 + 1 := by
                        unfold roN
                        rw [if_neg (show ¬ KK (i + 1) = 93 by omega)]
                        exact hL.2
                      rw [hR]
                      refine ⟨va_up Tq u0 (upd (Tq u0) 3 (nI ((c0 + n1) + 1))), upd gq (c0 + n1) (tvv (G 41) nt (i + 1 + 2 * n1)), (c0 + n1) + 1, rfl, rfl, fun k hk => ?_, ⟨?_, ?_, ?_⟩, fun k hk => ?_, fun hz => ?_⟩
                      · first | exact hq k hk | (simp [va_up, hk]; exact hq k hk)
                      · first | exact hq0.1 | (simp [va_up, upd]; exact hq0.1)
                      · first | exact hq0.2.1 | (simp [va_up, upd]; exact hq0.2.1)
                      · first | exact hq0.2.2 | (simp [va_up, upd]; exact hq0.2.2)
                      · first | exact hD k hk | (rw [upd_ne (by omega)]; exact hD k hk)
                      · exact Bool.noConfusion hz
              · exact absurd h70 (by decide)
            · skip
              obtain ⟨rfl, hv4⟩ := (hu4.2 hc4)
              cases hv4
              refine zz_world (P' := (DP D C K (upd (upd F 31 (nI (c0 + n1))) 33 (nI (i + 1 + 2 * n1))) (WH hs) (va_up G 43 (upd gq (c0 + n1) (tvv (G 41) nt (i + 1 + 2 * n1)))) Tq)) (fun _ h => h) ?_
              refine zz_ifB_ne 70 75 X.1 dX1_readList_70 (by decide) (fun h70 => ?_) (fun h70 => ?_)
              · exact absurd h70 (by decide)
              · skip
                refine zz_iconst 73 X.1 (v := nI 0) dX1_readList_73 rfl ?_
                refine zz_topi (bI false) rfl ?_
                rw [← hQ]
                refine zz_iret 74 X.1 hr (bI_nar _) hlk (upd (upd F 31 (nI (c0 + n1))) 33 (nI (i + 1 + 2 * n1)), hs, va_up G 43 (upd gq (c0 + n1) (tvv (G 41) nt (i + 1 + 2 * n1))), Tq) ?_ (fun _ h _ => h) dX1_readList_74
                have hR : roR KK (i + 1) = (false, (i + 1 + 2 * n1)) := by
                  unfold roR
                  rw [if_neg (show ¬ KK (i + 1) = 93 by omega)]
                  exact liR_fail n1 400 (i + 1) (by omega) hA hB2 (by omega)
                rw [hR]
                refine ⟨Tq, upd gq (c0 + n1) (tvv (G 41) nt (i + 1 + 2 * n1)), c0 + n1, rfl, rfl, fun k hk => ?_, ⟨?_, ?_, ?_⟩, fun k hk => ?_, fun hz => ?_⟩
                · first | exact hq k hk | (simp [va_up, hk]; exact hq k hk)
                · first | exact hq0.1 | (simp [va_up, upd]; exact hq0.1)
                · first | exact hq0.2.1 | (simp [va_up, upd]; exact hq0.2.1)
                · first | exact hq0.2.2 | (simp [va_up, upd]; exact hq0.2.2)
                · first | exact hD k hk | (rw [upd_ne (by omega)]; exact hD k hk)
                · exact Bool.noConfusion hz
      refine zz_lvs [1, 2, 0] rfl ?_
      exact C45 (400 - 0 + 1) 0 (G 43) (va_up (va_up (va_up T u0 (upd (T u0) 1 (nI 91))) u0 (upd ((va_up T u0 (upd (T u0) 1 (nI 91))) u0) 2 (nI c0))) u0 (upd ((va_up (va_up T u0 (upd (T u0) 1 (nI 91))) u0 (upd ((va_up T u0 (upd (T u0) 1 (nI 91))) u0) 2 (nI c0))) u0) 3 (nI c0))) (by omega) (by omega) (fun k hk => absurd hk (Nat.not_lt_zero _)) (fun k hk => absurd hk (Nat.not_lt_zero _)) (fun k hk => absurd hk (Nat.not_lt_zero _)) (fun k hk => rfl) (fun k hk => by simp [va_up, upd, hk]) (⟨(by simp [va_up, upd]), (by simp [va_up, upd]), (by simp [va_up, upd])⟩) (Nat.lt_succ_self _)
    · exact absurd h35 (by decide)
abbrev rm_X1_readAction : Room := { frames := 3, cells := 0, slots := 0, locals := 63 }
theorem yd_X1_readAction : yX1_readAction.cls = RX1 ∧ yX1_readAction.cls ≠ "java/lang/invoke/MethodHandle" ∧ yX1_readAction.cls ≠ "java/lang/invoke/VarHandle" ∧ (parseMethodDescriptor yX1_readAction.desc).map (fun d => d.parameters.length) = some 1 := by decide +kernel
set_option maxHeartbeats 4000000 in
set_option maxRecDepth 100000 in
theorem kt_X1_readAction (l : Launch) (D : va_G) (C : Nat → ClassId) (K : Nat → Nat) (hAp : DAp K) (F : Nat → Int32) (hs : Nat → Bool) (G T : Nat → Nat → Int32) (KK : Nat → Nat) (VV : Nat → Nat) (SS : Nat → Nat) (nt : Nat) (tn : Nat) (i0 : Nat) (u0 : Nat) (c0 : Nat) (hTK : TKc KK VV SS nt tn (G 40) (G 41) (G 42)) (h32 : F 32 = nI nt) (h33 : F 33 = nI (i0 + 1)) (hi : i0 + 1 ≤ 400) (hm : u0 < 100) (h31 : F 31 = nI c0) (hc2 : 2 * c0 ≤ i0) : CMi l yX1_readAction wsX1_readAction rm_X1_readAction D C K (4)  [.ref (K (100 + u0))] F hs G T (fun (r : Int32) (u : CSt) => ∃ (T1 : Nat → Nat → Int32) (g43 : Nat → Int32) (c1 : Nat), r = (bI ((acR KK (i0 + 1)).1)) ∧ u = (upd (upd F 31 (nI c1)) 33 (nI ((acR KK (i0 + 1)).2)), hs, va_up G 43 g43, T1) ∧ (∀ k, k ≠ u0 → T1 k = T k) ∧ (T1 u0 0 = T u0 0) ∧ (∀ k, k < c0 → g43 k = G 43 k) ∧ ((acR KK (i0 + 1)).1 = true → T1 u0 1 = nI (sac KK i0) ∧ T1 u0 2 = nI (sfi KK VV c0 i0) ∧ T1 u0 3 = nI (sse KK VV c0 i0) ∧ c1 = c0 + slc KK i0 ∧ ∀ j, j < slc KK i0 → g43 (c0 + j) = nI (VV (i0 + 3 + 2 * j)))) := by
  refine CMi_of (lv := [(0, .ref (K 4)), (1, .ref (K (100 + u0)))]) (cc := cX1_readAction) (maxL := 3) (ret := (some .boolean)) rfl (by decide +kernel) (Nat.le_of_ble_eq_true rfl) rfl ?_
  intro p e s m args below meth c X hml hr hlk
  generalize hQ : MQ below _ args s 0 0 _ = Q
  have hkb := hTK.2.2.2 (i0 + 1)
  have hn400 := hTK.1
  refine zz_world (P' := (DP D C K (upd F 31 (nI c0)) (WH hs) G T)) (dp_F (upd_self (f := F) (k := 31) (x := nI c0) h31).symm) ?_
  refine zz_world (P' := (DP D C K (upd (upd F 31 (nI c0)) 33 (nI (i0 + 1))) (WH hs) G T)) (dp_F (upd_self (f := upd F 31 (nI c0)) (k := 33) (x := nI (i0 + 1)) h33).symm) ?_
  refine zz_world (P' := (DP D C K (upd (upd F 31 (nI c0)) 33 (nI (i0 + 1))) (WH hs) (va_up G 43 (G 43)) T)) (dp_G (va_up_id (f := G) (k := 43)).symm) ?_
  refine zz_aload_n 0 X.1 0 dX1_readAction_0 rfl ?_
  refine dd_get4 1 X (by decide +kernel) 0 (by decide) (v := .ref (K 5)) rfl (by decide +kernel) rfl dX1_readAction_1 ?_
  refine dd_callVi 4 X hml (th := 5) (As := []) (kt_X5_kind l D C K hAp (upd (upd F 31 (nI c0)) 33 (nI (i0 + 1))) hs (va_up G 43 (G 43)) T KK VV SS nt tn (i0 + 1) (by first | rfl | assumption | omega) (h32) (rfl) (by first | rfl | assumption | omega)) gX1_readAction_X5_kind rfl ⟨rfl, rfl⟩ (dr_5 X) yd_X5_kind ⟨Nat.le_of_ble_eq_true rfl, Nat.le_of_ble_eq_true rfl⟩ rfl rfl (Nat.le_of_ble_eq_true rfl) ⟨Nat.zero_le _, Nat.zero_le _⟩ dX1_readAction_4 ?_
  rintro r1 ⟨F1, hs1, G1, T1⟩ hu1
  obtain ⟨rfl, hv1⟩ := hu1
  cases hv1
  refine zz_world (P' := (DP D C K (upd (upd F 31 (nI c0)) 33 (nI (i0 + 1))) (WH hs) (va_up G 43 (G 43)) T)) (fun _ h => h) ?_
  refine zz_istore_n 7 X.1 (lv' := [(2, .int (nI (KK (i0 + 1)))), (0, .ref (K 4)), (1, .ref (K (100 + u0)))]) dX1_readAction_7 (by decide) rfl ?_
  refine zz_aload_n 8 X.1 2 dX1_readAction_8 rfl ?_
  refine zz_iload_n 9 X.1 0 dX1_readAction_9 rfl ?_
  refine dd_putS 10 hAp X (by decide +kernel) (i := u0) (by omega) 1 (by decide) (t := upd (T u0) 1 (nI (KK (i0 + 1)))) rfl (by decide +kernel) ⟨rfl, rfl⟩ (by decide +kernel) dX1_readAction_10 ?_
  refine zz_aload_n 13 X.1 1 dX1_readAction_13 rfl ?_
  refine zz_bipush 14 X.1 (v := nI 43) dX1_readAction_14 rfl ?_
  refine dd_callVi 16 X hml (th := 4) (As := [.int (nI 43)]) (kt_X1_pass l D C K hAp (upd (upd F 31 (nI c0)) 33 (nI (i0 + 1))) hs (va_up G 43 (G 43)) (va_up T u0 (upd (T u0) 1 (nI (KK (i0 + 1))))) KK VV SS nt tn (i0 + 1) 43 (by first | rfl | assumption | omega) (h32) (rfl) (by first | rfl | assumption | omega) (by first | rfl | assumption | omega)) gX1_readAction_X1_pass rfl ⟨rfl, rfl⟩ (dr_4 X) yd_X1_pass ⟨Nat.le_of_ble_eq_true rfl, Nat.le_of_ble_eq_true rfl⟩ rfl rfl (Nat.le_of_ble_eq_true rfl) ⟨Nat.zero_le _, Nat.zero_le _⟩ dX1_readAction_16 ?_
  rintro r2 ⟨F2, hs2, G2, T2⟩ hu2
  rcases (show (KK (i0 + 1) = 43) ∨ (KK (i0 + 1) ≠ 43) by omega) with hc2 | hc2
  · skip
    obtain ⟨rfl, hv2⟩ := (hu2.1 hc2)
    cases hv2
    refine zz_world (P' := (DP D C K (upd (upd F 31 (nI c0)) 33 (nI ((i0 + 1) + 1))) (WH hs) (va_up G 43 (G 43)) (va_up T u0 (upd (T u0) 1 (nI (KK (i0 + 1))))))) (fun _ h => h) ?_
    refine zz_ifB_ne 19 40 X.1 dX1_readAction_19 (by decide) (fun h19 => ?_) (fun h19 => ?_)
    · skip
      refine zz_aload_n 40 X.1 1 dX1_readAction_40 rfl ?_
      refine zz_aload_n 41 X.1 2 dX1_readAction_41 rfl ?_
      have hkl := hTK.lt (i := i0 + 1) (by omega)
      refine dd_callVi 42 X hml (th := 4) (As := [.ref (K (100 + u0))]) (kt_X1_readRange l D C K hAp (upd (upd F 31 (nI c0)) 33 (nI ((i0 + 1) + 1))) hs (va_up G 43 (G 43)) (va_up T u0 (upd (T u0) 1 (nI (KK (i0 + 1))))) KK VV SS nt tn ((i0 + 1) + 1) u0 (by first | rfl | assumption | omega) (h32) (rfl) (by first | rfl | assumption | omega) (by first | rfl | assumption | omega)) gX1_readAction_X1_readRange rfl ⟨rfl, rfl⟩ (dr_4 X) yd_X1_readRange ⟨Nat.le_of_ble_eq_true rfl, Nat.le_of_ble_eq_true rfl⟩ rfl rfl (Nat.le_of_ble_eq_true rfl) ⟨Nat.zero_le _, Nat.zero_le _⟩ dX1_readAction_42 ?_
      rintro r3 ⟨F3, hs3, G3, T3⟩ hu3
      obtain ⟨T1_3, rfl, hv3, hf3_0, hf3_1, hf3_2⟩ := hu3
      cases hv3
      refine zz_world (P' := (DP D C K (upd (upd F 31 (nI c0)) 33 (nI ((rgR KK ((i0 + 1) + 1)).2))) (WH hs) (va_up G 43 (G 43)) T3)) (fun _ h => h) ?_
      rw [← hQ]
      refine zz_iret 45 X.1 hr (bI_nar _) hlk (upd (upd F 31 (nI c0)) 33 (nI ((rgR KK ((i0 + 1) + 1)).2)), hs, va_up G 43 (G 43), T3) ?_ (fun _ h _ => h) dX1_readAction_45
      have hAc : acR KK (i0 + 1) = rgR KK (i0 + 1 + 1) := if_pos (by omega)
      have hL : isL KK i0 = false := isL_f (by omega)
      rw [hAc]
      refine ⟨T3, G 43, c0, ?_, rfl, fun k hk => ?_, ?_, fun k hk => ?_, fun hz => ?_⟩
      · first | rfl | (congr 1; first | assumption | (exact Eq.symm (by assumption)))
      · exact (hf3_0 k hk).trans (by simp [va_up, hk])
      · exact hf3_1.1.trans (by simp [va_up, upd])
      · rfl
      · have hz2 := hf3_2 hz
        have hse : sse KK VV c0 i0 = if KK (i0 + 1 + 1 + 1) = 4 then VV (i0 + 1 + 1 + 2) else VV (i0 + 1 + 1) + 1 := by unfold sse; rw [hL, if_neg Bool.false_ne_true]; exact if_pos (show KK (i0 + 1) = 43 ∨ KK (i0 + 1) = 45 ∨ KK (i0 + 1) = 94 by omega)
        refine ⟨?_, ?_, ?_, ?_, fun j hj => ?_⟩
        · rw [hf3_1.2]; unfold sac; rw [hL]; simp [va_up, upd]
        · rw [hz2.1]; unfold sfi; rw [hL]; rfl
        · rw [hz2.2, hse]
        · unfold slc; rw [hL]; rfl
        · unfold slc at hj; rw [hL] at hj; exact absurd hj (Nat.not_lt_zero _)
    · exact absurd h19 (by decide)
  · skip
    obtain ⟨rfl, hv2⟩ := (hu2.2 hc2)
    cases hv2
    refine zz_world (P' := (DP D C K (upd (upd F 31 (nI c0)) 33 (nI (i0 + 1))) (WH hs) (va_up G 43 (G 43)) (va_up T u0 (upd (T u0) 1 (nI (KK (i0 + 1))))))) (fun _ h => h) ?_
    refine zz_ifB_ne 19 40 X.1 dX1_readAction_19 (by decide) (fun h19 => ?_) (fun h19 => ?_)
    · exact absurd h19 (by decide)
    · skip
      refine zz_aload_n 22 X.1 1 dX1_readAction_22 rfl ?_
      refine zz_bipush 23 X.1 (v := nI 45) dX1_readAction_23 rfl ?_
      refine dd_callVi 25 X hml (th := 4) (As := [.int (nI 45)]) (kt_X1_pass l D C K hAp (upd (upd F 31 (nI c0)) 33 (nI (i0 + 1))) hs (va_up G 43 (G 43)) (va_up T u0 (upd (T u0) 1 (nI (KK (i0 + 1))))) KK VV SS nt tn (i0 + 1) 45 (by first | rfl | assumption | omega) (h32) (rfl) (by first | rfl | assumption | omega) (by first | rfl | assumption | omega)) gX1_readAction_X1_pass rfl ⟨rfl, rfl⟩ (dr_4 X) yd_X1_pass ⟨Nat.le_of_ble_eq_true rfl, Nat.le_of_ble_eq_true rfl⟩ rfl rfl (Nat.le_of_ble_eq_true rfl) ⟨Nat.zero_le _, Nat.zero_le _⟩ dX1_readAction_25 ?_
      rintro r4 ⟨F4, hs4, G4, T4⟩ hu4
      rcases (show (KK (i0 + 1) = 45) ∨ (KK (i0 + 1) ≠ 45) by omega) with hc4 | hc4
      · skip
        obtain ⟨rfl, hv4⟩ := (hu4.1 hc4)
        cases hv4
        refine zz_world (P' := (DP D C K (upd (upd F 31 (nI c0)) 33 (nI ((i0 + 1) + 1))) (WH hs) (va_up G 43 (G 43)) (va_up T u0 (upd (T u0) 1 (nI (KK (i0 + 1))))))) (fun _ h => h) ?_
        refine zz_ifB_ne 28 40 X.1 dX1_readAction_28 (by decide) (fun h28 => ?_) (fun h28 => ?_)
        · skip
          refine zz_aload_n 40 X.1 1 dX1_readAction_40 rfl ?_
          refine zz_aload_n 41 X.1 2 dX1_readAction_41 rfl ?_
          have hkl := hTK.lt (i := i0 + 1) (by omega)
          refine dd_callVi 42 X hml (th := 4) (As := [.ref (K (100 + u0))]) (kt_X1_readRange l D C K hAp (upd (upd F 31 (nI c0)) 33 (nI ((i0 + 1) + 1))) hs (va_up G 43 (G 43)) (va_up T u0 (upd (T u0) 1 (nI (KK (i0 + 1))))) KK VV SS nt tn ((i0 + 1) + 1) u0 (by first | rfl | assumption | omega) (h32) (rfl) (by first | rfl | assumption | omega) (by first | rfl | assumption | omega)) gX1_readAction_X1_readRange rfl ⟨rfl, rfl⟩ (dr_4 X) yd_X1_readRange ⟨Nat.le_of_ble_eq_true rfl, Nat.le_of_ble_eq_true rfl⟩ rfl rfl (Nat.le_of_ble_eq_true rfl) ⟨Nat.zero_le _, Nat.zero_le _⟩ dX1_readAction_42 ?_
          rintro r5 ⟨F5, hs5, G5, T5⟩ hu5
          obtain ⟨T1_5, rfl, hv5, hf5_0, hf5_1, hf5_2⟩ := hu5
          cases hv5
          refine zz_world (P' := (DP D C K (upd (upd F 31 (nI c0)) 33 (nI ((rgR KK ((i0 + 1) + 1)).2))) (WH hs) (va_up G 43 (G 43)) T5)) (fun _ h => h) ?_
          rw [← hQ]
          refine zz_iret 45 X.1 hr (bI_nar _) hlk (upd (upd F 31 (nI c0)) 33 (nI ((rgR KK ((i0 + 1) + 1)).2)), hs, va_up G 43 (G 43), T5) ?_ (fun _ h _ => h) dX1_readAction_45
          have hAc : acR KK (i0 + 1) = rgR KK (i0 + 1 + 1) := if_pos (by omega)
          have hL : isL KK i0 = false := isL_f (by omega)
          rw [hAc]
          refine ⟨T5, G 43, c0, ?_, rfl, fun k hk => ?_, ?_, fun k hk => ?_, fun hz => ?_⟩
          · first | rfl | (congr 1; first | assumption | (exact Eq.symm (by assumption)))
          · exact (hf5_0 k hk).trans (by simp [va_up, hk])
          · exact hf5_1.1.trans (by simp [va_up, upd])
          · rfl
          · have hz2 := hf5_2 hz
            have hse : sse KK VV c0 i0 = if KK (i0 + 1 + 1 + 1) = 4 then VV (i0 + 1 + 1 + 2) else VV (i0 + 1 + 1) + 1 := by unfold sse; rw [hL, if_neg Bool.false_ne_true]; exact if_pos (show KK (i0 + 1) = 43 ∨ KK (i0 + 1) = 45 ∨ KK (i0 + 1) = 94 by omega)
            refine ⟨?_, ?_, ?_, ?_, fun j hj => ?_⟩
            · rw [hf5_1.2]; unfold sac; rw [hL]; simp [va_up, upd]
            · rw [hz2.1]; unfold sfi; rw [hL]; rfl
            · rw [hz2.2, hse]
            · unfold slc; rw [hL]; rfl
            · unfold slc at hj; rw [hL] at hj; exact absurd hj (Nat.not_lt_zero _)
        · exact absurd h28 (by decide)
      · skip
        obtain ⟨rfl, hv4⟩ := (hu4.2 hc4)
        cases hv4
        refine zz_world (P' := (DP D C K (upd (upd F 31 (nI c0)) 33 (nI (i0 + 1))) (WH hs) (va_up G 43 (G 43)) (va_up T u0 (upd (T u0) 1 (nI (KK (i0 + 1))))))) (fun _ h => h) ?_
        refine zz_ifB_ne 28 40 X.1 dX1_readAction_28 (by decide) (fun h28 => ?_) (fun h28 => ?_)
        · exact absurd h28 (by decide)
        · skip
          refine zz_aload_n 31 X.1 1 dX1_readAction_31 rfl ?_
          refine zz_bipush 32 X.1 (v := nI 94) dX1_readAction_32 rfl ?_
          refine dd_callVi 34 X hml (th := 4) (As := [.int (nI 94)]) (kt_X1_pass l D C K hAp (upd (upd F 31 (nI c0)) 33 (nI (i0 + 1))) hs (va_up G 43 (G 43)) (va_up T u0 (upd (T u0) 1 (nI (KK (i0 + 1))))) KK VV SS nt tn (i0 + 1) 94 (by first | rfl | assumption | omega) (h32) (rfl) (by first | rfl | assumption | omega) (by first | rfl | assumption | omega)) gX1_readAction_X1_pass rfl ⟨rfl, rfl⟩ (dr_4 X) yd_X1_pass ⟨Nat.le_of_ble_eq_true rfl, Nat.le_of_ble_eq_true rfl⟩ rfl rfl (Nat.le_of_ble_eq_true rfl) ⟨Nat.zero_le _, Nat.zero_le _⟩ dX1_readAction_34 ?_
          rintro r6 ⟨F6, hs6, G6, T6⟩ hu6
          rcases (show (KK (i0 + 1) = 94) ∨ (KK (i0 + 1) ≠ 94) by omega) with hc6 | hc6
          · skip
            obtain ⟨rfl, hv6⟩ := (hu6.1 hc6)
            cases hv6
            refine zz_world (P' := (DP D C K (upd (upd F 31 (nI c0)) 33 (nI ((i0 + 1) + 1))) (WH hs) (va_up G 43 (G 43)) (va_up T u0 (upd (T u0) 1 (nI (KK (i0 + 1))))))) (fun _ h => h) ?_
            refine zz_ifB_eq 37 46 X.1 dX1_readAction_37 (by decide) (fun h37 => ?_) (fun h37 => ?_)
            · exact absurd h37 (by decide)
            · skip
              refine zz_aload_n 40 X.1 1 dX1_readAction_40 rfl ?_
              refine zz_aload_n 41 X.1 2 dX1_readAction_41 rfl ?_
              have hkl := hTK.lt (i := i0 + 1) (by omega)
              refine dd_callVi 42 X hml (th := 4) (As := [.ref (K (100 + u0))]) (kt_X1_readRange l D C K hAp (upd (upd F 31 (nI c0)) 33 (nI ((i0 + 1) + 1))) hs (va_up G 43 (G 43)) (va_up T u0 (upd (T u0) 1 (nI (KK (i0 + 1))))) KK VV SS nt tn ((i0 + 1) + 1) u0 (by first | rfl | assumption | omega) (h32) (rfl) (by first | rfl | assumption | omega) (by first | rfl | assumption | omega)) gX1_readAction_X1_readRange rfl ⟨rfl, rfl⟩ (dr_4 X) yd_X1_readRange ⟨Nat.le_of_ble_eq_true rfl, Nat.le_of_ble_eq_true rfl⟩ rfl rfl (Nat.le_of_ble_eq_true rfl) ⟨Nat.zero_le _, Nat.zero_le _⟩ dX1_readAction_42 ?_
              rintro r7 ⟨F7, hs7, G7, T7⟩ hu7
              obtain ⟨T1_7, rfl, hv7, hf7_0, hf7_1, hf7_2⟩ := hu7
              cases hv7
              refine zz_world (P' := (DP D C K (upd (upd F 31 (nI c0)) 33 (nI ((rgR KK ((i0 + 1) + 1)).2))) (WH hs) (va_up G 43 (G 43)) T7)) (fun _ h => h) ?_
              rw [← hQ]
              refine zz_iret 45 X.1 hr (bI_nar _) hlk (upd (upd F 31 (nI c0)) 33 (nI ((rgR KK ((i0 + 1) + 1)).2)), hs, va_up G 43 (G 43), T7) ?_ (fun _ h _ => h) dX1_readAction_45
              have hAc : acR KK (i0 + 1) = rgR KK (i0 + 1 + 1) := if_pos (by omega)
              have hL : isL KK i0 = false := isL_f (by omega)
              rw [hAc]
              refine ⟨T7, G 43, c0, ?_, rfl, fun k hk => ?_, ?_, fun k hk => ?_, fun hz => ?_⟩
              · first | rfl | (congr 1; first | assumption | (exact Eq.symm (by assumption)))
              · exact (hf7_0 k hk).trans (by simp [va_up, hk])
              · exact hf7_1.1.trans (by simp [va_up, upd])
              · rfl
              · have hz2 := hf7_2 hz
                have hse : sse KK VV c0 i0 = if KK (i0 + 1 + 1 + 1) = 4 then VV (i0 + 1 + 1 + 2) else VV (i0 + 1 + 1) + 1 := by unfold sse; rw [hL, if_neg Bool.false_ne_true]; exact if_pos (show KK (i0 + 1) = 43 ∨ KK (i0 + 1) = 45 ∨ KK (i0 + 1) = 94 by omega)
                refine ⟨?_, ?_, ?_, ?_, fun j hj => ?_⟩
                · rw [hf7_1.2]; unfold sac; rw [hL]; simp [va_up, upd]
                · rw [hz2.1]; unfold sfi; rw [hL]; rfl
                · rw [hz2.2, hse]
                · unfold slc; rw [hL]; rfl
                · unfold slc at hj; rw [hL] at hj; exact absurd hj (Nat.not_lt_zero _)
          · skip
            obtain ⟨rfl, hv6⟩ := (hu6.2 hc6)
            cases hv6
            refine zz_world (P' := (DP D C K (upd (upd F 31 (nI c0)) 33 (nI (i0 + 1))) (WH hs) (va_up G 43 (G 43)) (va_up T u0 (upd (T u0) 1 (nI (KK (i0 + 1))))))) (fun _ h => h) ?_
            refine zz_ifB_eq 37 46 X.1 dX1_readAction_37 (by decide) (fun h37 => ?_) (fun h37 => ?_)
            · skip
              refine zz_aload_n 46 X.1 1 dX1_readAction_46 rfl ?_
              refine zz_bipush 47 X.1 (v := nI 61) dX1_readAction_47 rfl ?_
              refine dd_callVi 49 X hml (th := 4) (As := [.int (nI 61)]) (kt_X1_pass l D C K hAp (upd (upd F 31 (nI c0)) 33 (nI (i0 + 1))) hs (va_up G 43 (G 43)) (va_up T u0 (upd (T u0) 1 (nI (KK (i0 + 1))))) KK VV SS nt tn (i0 + 1) 61 (by first | rfl | assumption | omega) (h32) (rfl) (by first | rfl | assumption | omega) (by first | rfl | assumption | omega)) gX1_readAction_X1_pass rfl ⟨rfl, rfl⟩ (dr_4 X) yd_X1_pass ⟨Nat.le_of_ble_eq_true rfl, Nat.le_of_ble_eq_true rfl⟩ rfl rfl (Nat.le_of_ble_eq_true rfl) ⟨Nat.zero_le _, Nat.zero_le _⟩ dX1_readAction_49 ?_
              rintro r8 ⟨F8, hs8, G8, T8⟩ hu8
              rcases (show (KK (i0 + 1) = 61) ∨ (KK (i0 + 1) ≠ 61) by omega) with hc8 | hc8
              · skip
                obtain ⟨rfl, hv8⟩ := (hu8.1 hc8)
                cases hv8
                refine zz_world (P' := (DP D C K (upd (upd F 31 (nI c0)) 33 (nI ((i0 + 1) + 1))) (WH hs) (va_up G 43 (G 43)) (va_up T u0 (upd (T u0) 1 (nI (KK (i0 + 1))))))) (fun _ h => h) ?_
                refine zz_ifB_eq 52 81 X.1 dX1_readAction_52 (by decide) (fun h52 => ?_) (fun h52 => ?_)
                · exact absurd h52 (by decide)
                · skip
                  have hkl := hTK.lt (i := i0 + 1) (by omega)
                  have hkb2 := hTK.2.2.2 (i0 + 1 + 1)
                  refine zz_aload_n 55 X.1 1 dX1_readAction_55 rfl ?_
                  refine dd_get4 56 X (by decide +kernel) 0 (by decide) (v := .ref (K 5)) rfl (by decide +kernel) rfl dX1_readAction_56 ?_
                  refine dd_callVi 59 X hml (th := 5) (As := []) (kt_X5_kind l D C K hAp (upd (upd F 31 (nI c0)) 33 (nI ((i0 + 1) + 1))) hs (va_up G 43 (G 43)) (va_up T u0 (upd (T u0) 1 (nI (KK (i0 + 1))))) KK VV SS nt tn ((i0 + 1) + 1) (by first | rfl | assumption | omega) (h32) (rfl) (by first | rfl | assumption | omega)) gX1_readAction_X5_kind rfl ⟨rfl, rfl⟩ (dr_5 X) yd_X5_kind ⟨Nat.le_of_ble_eq_true rfl, Nat.le_of_ble_eq_true rfl⟩ rfl rfl (Nat.le_of_ble_eq_true rfl) ⟨Nat.zero_le _, Nat.zero_le _⟩ dX1_readAction_59 ?_
                  rintro r9 ⟨F9, hs9, G9, T9⟩ hu9
                  obtain ⟨rfl, hv9⟩ := hu9
                  cases hv9
                  refine zz_world (P' := (DP D C K (upd (upd F 31 (nI c0)) 33 (nI ((i0 + 1) + 1))) (WH hs) (va_up G 43 (G 43)) (va_up T u0 (upd (T u0) 1 (nI (KK (i0 + 1))))))) (fun _ h => h) ?_
                  refine zz_bipush 62 X.1 (v := nI 91) dX1_readAction_62 rfl ?_
                  refine zz_icmp_ne 64 75 X.1 (nI_toInt (by omega)) (nI_toInt (by omega)) dX1_readAction_64 (by decide) (fun h64 => ?_) (fun h64 => ?_)
                  · skip
                    refine zz_aload_n 75 X.1 1 dX1_readAction_75 rfl ?_
                    refine zz_aload_n 76 X.1 2 dX1_readAction_76 rfl ?_
                    refine dd_callVi 77 X hml (th := 4) (As := [.ref (K (100 + u0))]) (kt_X1_readSet l D C K hAp (upd (upd F 31 (nI c0)) 33 (nI ((i0 + 1) + 1))) hs (va_up G 43 (G 43)) (va_up T u0 (upd (T u0) 1 (nI (KK (i0 + 1))))) KK VV SS nt tn ((i0 + 1) + 1) u0 (by first | rfl | assumption | omega) (h32) (rfl) (by first | rfl | assumption | omega) (by first | rfl | assumption | omega)) gX1_readAction_X1_readSet rfl ⟨rfl, rfl⟩ (dr_4 X) yd_X1_readSet ⟨Nat.le_of_ble_eq_true rfl, Nat.le_of_ble_eq_true rfl⟩ rfl rfl (Nat.le_of_ble_eq_true rfl) ⟨Nat.zero_le _, Nat.zero_le _⟩ dX1_readAction_77 ?_
                    rintro r10 ⟨F10, hs10, G10, T10⟩ hu10
                    obtain ⟨T1_10, rfl, hv10, hf10_0, hf10_1, hf10_2⟩ := hu10
                    cases hv10
                    refine zz_world (P' := (DP D C K (upd (upd F 31 (nI c0)) 33 (nI ((seR KK ((i0 + 1) + 1)).2))) (WH hs) (va_up G 43 (G 43)) T10)) (fun _ h => h) ?_
                    rw [← hQ]
                    refine zz_iret 80 X.1 hr (bI_nar _) hlk (upd (upd F 31 (nI c0)) 33 (nI ((seR KK ((i0 + 1) + 1)).2)), hs, va_up G 43 (G 43), T10) ?_ (fun _ h _ => h) dX1_readAction_80
                    have hAc : acR KK (i0 + 1) = seR KK (i0 + 1 + 1) := by
                      unfold acR
                      rw [if_neg (show ¬ (KK (i0 + 1) = 43 ∨ KK (i0 + 1) = 45 ∨ KK (i0 + 1) = 94) by omega), if_neg (show ¬ (KK (i0 + 1) = 61 ∧ KK (i0 + 1 + 1) = 91) by omega), if_pos (show KK (i0 + 1) = 38 ∨ KK (i0 + 1) = 124 ∨ KK (i0 + 1) = 126 ∨ KK (i0 + 1) = 33 ∨ KK (i0 + 1) = 61 by omega)]
                    have hL : isL KK i0 = false := isL_f (fun z => by have h0 : KK (i0 + 1) = 61 ∧ KK (i0 + 1 + 1) = 91 := z; omega)
                    rw [hAc]
                    refine ⟨T10, G 43, c0, ?_, rfl, fun k hk => ?_, ?_, fun k hk => ?_, fun hz => ?_⟩
                    · first | rfl | (congr 1; first | assumption | (exact Eq.symm (by assumption)))
                    · exact (hf10_0 k hk).trans (by simp [va_up, hk])
                    · exact hf10_1.1.trans (by simp [va_up, upd])
                    · rfl
                    · have hz2 := hf10_2 hz
                      have hse : sse KK VV c0 i0 = VV (i0 + 2) := by unfold sse; rw [hL, if_neg Bool.false_ne_true]; exact if_neg (show ¬ (KK (i0 + 1) = 43 ∨ KK (i0 + 1) = 45 ∨ KK (i0 + 1) = 94) by omega)
                      refine ⟨?_, ?_, ?_, ?_, fun j hj => ?_⟩
                      · rw [hf10_1.2]; unfold sac; rw [hL]; simp [va_up, upd]
                      · rw [hz2.1]; unfold sfi; rw [hL]; rfl
                      · rw [hz2.2, hse]
                      · unfold slc; rw [hL]; rfl
                      · unfold slc at hj; rw [hL] at hj; exact absurd hj (Nat.not_lt_zero _)
                  · skip
                    refine zz_aload_n 67 X.1 1 dX1_readAction_67 rfl ?_
                    refine zz_aload_n 68 X.1 2 dX1_readAction_68 rfl ?_
                    refine dd_callVi 69 X hml (th := 4) (As := [.ref (K (100 + u0))]) (kt_X1_readList l D C K hAp (upd (upd F 31 (nI c0)) 33 (nI ((i0 + 1) + 1))) hs (va_up G 43 (G 43)) (va_up T u0 (upd (T u0) 1 (nI (KK (i0 + 1))))) KK VV SS nt tn ((i0 + 1) + 1) u0 c0 (by first | rfl | assumption | omega) (h32) (rfl) (by first | rfl | assumption | omega) (by first | rfl | assumption | omega) (rfl) (by first | rfl | assumption | omega) (by first | rfl | assumption | omega)) gX1_readAction_X1_readList rfl ⟨rfl, rfl⟩ (dr_4 X) yd_X1_readList ⟨Nat.le_of_ble_eq_true rfl, Nat.le_of_ble_eq_true rfl⟩ rfl rfl (Nat.le_of_ble_eq_true rfl) ⟨Nat.zero_le _, Nat.zero_le _⟩ dX1_readAction_69 ?_
                    rintro r11 ⟨F11, hs11, G11, T11⟩ hu11
                    obtain ⟨T1_11, g43_11, c1_11, rfl, hv11, hf11_0, hf11_1, hf11_2, hf11_3⟩ := hu11
                    cases hv11
                    refine zz_world (P' := (DP D C K (upd (upd F 31 (nI c1_11)) 33 (nI ((roR KK (((i0 + 1) + 1) + 1)).2))) (WH hs) (va_up G 43 g43_11) T11)) (fun _ h => h) ?_
                    refine zz_goto 72 80 X.1 dX1_readAction_72 (by decide) ?_
                    rw [← hQ]
                    refine zz_iret 80 X.1 hr (bI_nar _) hlk (upd (upd F 31 (nI c1_11)) 33 (nI ((roR KK (((i0 + 1) + 1) + 1)).2)), hs, va_up G 43 g43_11, T11) ?_ (fun _ h _ => h) dX1_readAction_80
                    have hAc : acR KK (i0 + 1) = roR KK (i0 + 1 + 1 + 1) := by
                      unfold acR
                      rw [if_neg (show ¬ (KK (i0 + 1) = 43 ∨ KK (i0 + 1) = 45 ∨ KK (i0 + 1) = 94) by omega), if_pos (show KK (i0 + 1) = 61 ∧ KK (i0 + 1 + 1) = 91 by omega)]
                    have hL : isL KK i0 = true := isL_t (show KK (i0 + 1) = 61 ∧ KK (i0 + 1 + 1) = 91 by omega)
                    rw [hAc]
                    refine ⟨T11, g43_11, c1_11, ?_, rfl, fun k hk => ?_, ?_, fun k hk => ?_, fun hz => ?_⟩
                    · first | rfl | (congr 1; first | assumption | (exact Eq.symm (by assumption)))
                    · exact (hf11_0 k hk).trans (by simp [va_up, hk])
                    · exact hf11_1.1.trans (by simp [va_up, upd])
                    · exact hf11_2 k hk
                    · have hz2 := hf11_3 hz
                      have hs : slc KK i0 = roN KK (i0 + 1 + 1 + 1) := by unfold slc; rw [hL]; rfl
                      refine ⟨?_, ?_, ?_, ?_, fun j hj => ?_⟩
                      · rw [hf11_1.2.1]; unfold sac; rw [hL]; rfl
                      · rw [hf11_1.2.2]; unfold sfi; rw [hL]; rfl
                      · rw [hz2.1]; unfold sse; rw [hL, hs]; rfl
                      · rw [hs]; exact hz2.2.1
                      · rw [hs] at hj; exact hz2.2.2 j hj
              · skip
                obtain ⟨rfl, hv8⟩ := (hu8.2 hc8)
                cases hv8
                refine zz_world (P' := (DP D C K (upd (upd F 31 (nI c0)) 33 (nI (i0 + 1))) (WH hs) (va_up G 43 (G 43)) (va_up T u0 (upd (T u0) 1 (nI (KK (i0 + 1))))))) (fun _ h => h) ?_
                refine zz_ifB_eq 52 81 X.1 dX1_readAction_52 (by decide) (fun h52 => ?_) (fun h52 => ?_)
                · skip
                  refine zz_aload_n 81 X.1 1 dX1_readAction_81 rfl ?_
                  refine zz_bipush 82 X.1 (v := nI 38) dX1_readAction_82 rfl ?_
                  refine dd_callVi 84 X hml (th := 4) (As := [.int (nI 38)]) (kt_X1_pass l D C K hAp (upd (upd F 31 (nI c0)) 33 (nI (i0 + 1))) hs (va_up G 43 (G 43)) (va_up T u0 (upd (T u0) 1 (nI (KK (i0 + 1))))) KK VV SS nt tn (i0 + 1) 38 (by first | rfl | assumption | omega) (h32) (rfl) (by first | rfl | assumption | omega) (by first | rfl | assumption | omega)) gX1_readAction_X1_pass rfl ⟨rfl, rfl⟩ (dr_4 X) yd_X1_pass ⟨Nat.le_of_ble_eq_true rfl, Nat.le_of_ble_eq_true rfl⟩ rfl rfl (Nat.le_of_ble_eq_true rfl) ⟨Nat.zero_le _, Nat.zero_le _⟩ dX1_readAction_84 ?_
                  rintro r12 ⟨F12, hs12, G12, T12⟩ hu12
                  rcases (show (KK (i0 + 1) = 38) ∨ (KK (i0 + 1) ≠ 38) by omega) with hc12 | hc12
                  · skip
                    obtain ⟨rfl, hv12⟩ := (hu12.1 hc12)
                    cases hv12
                    refine zz_world (P' := (DP D C K (upd (upd F 31 (nI c0)) 33 (nI ((i0 + 1) + 1))) (WH hs) (va_up G 43 (G 43)) (va_up T u0 (upd (T u0) 1 (nI (KK (i0 + 1))))))) (fun _ h => h) ?_
                    refine zz_ifB_ne 87 117 X.1 dX1_readAction_87 (by decide) (fun h87 => ?_) (fun h87 => ?_)
                    · skip
                      have hkl := hTK.lt (i := i0 + 1) (by omega)
                      refine zz_aload_n 117 X.1 1 dX1_readAction_117 rfl ?_
                      refine zz_aload_n 118 X.1 2 dX1_readAction_118 rfl ?_
                      refine dd_callVi 119 X hml (th := 4) (As := [.ref (K (100 + u0))]) (kt_X1_readSet l D C K hAp (upd (upd F 31 (nI c0)) 33 (nI ((i0 + 1) + 1))) hs (va_up G 43 (G 43)) (va_up T u0 (upd (T u0) 1 (nI (KK (i0 + 1))))) KK VV SS nt tn ((i0 + 1) + 1) u0 (by first | rfl | assumption | omega) (h32) (rfl) (by first | rfl | assumption | omega) (by first | rfl | assumption | omega)) gX1_readAction_X1_readSet rfl ⟨rfl, rfl⟩ (dr_4 X) yd_X1_readSet ⟨Nat.le_of_ble_eq_true rfl, Nat.le_of_ble_eq_true rfl⟩ rfl rfl (Nat.le_of_ble_eq_true rfl) ⟨Nat.zero_le _, Nat.zero_le _⟩ dX1_readAction_119 ?_
                      rintro r13 ⟨F13, hs13, G13, T13⟩ hu13
                      obtain ⟨T1_13, rfl, hv13, hf13_0, hf13_1, hf13_2⟩ := hu13
                      cases hv13
                      refine zz_world (P' := (DP D C K (upd (upd F 31 (nI c0)) 33 (nI ((seR KK ((i0 + 1) + 1)).2))) (WH hs) (va_up G 43 (G 43)) T13)) (fun _ h => h) ?_
                      refine zz_ifB_eq 122 129 X.1 dX1_readAction_122 (by decide) (fun h122 => ?_) (fun h122 => ?_)
                      · skip
                        refine zz_iconst 129 X.1 (v := nI 0) dX1_readAction_129 rfl ?_
                        refine zz_topi (bI false) rfl ?_
                        rw [← hQ]
                        refine zz_iret 130 X.1 hr (bI_nar _) hlk (upd (upd F 31 (nI c0)) 33 (nI ((seR KK ((i0 + 1) + 1)).2)), hs, va_up G 43 (G 43), T13) ?_ (fun _ h _ => h) dX1_readAction_130
                        have hAc : acR KK (i0 + 1) = seR KK (i0 + 1 + 1) := by
                          unfold acR
                          rw [if_neg (show ¬ (KK (i0 + 1) = 43 ∨ KK (i0 + 1) = 45 ∨ KK (i0 + 1) = 94) by omega), if_neg (show ¬ (KK (i0 + 1) = 61 ∧ KK (i0 + 1 + 1) = 91) by omega), if_pos (show KK (i0 + 1) = 38 ∨ KK (i0 + 1) = 124 ∨ KK (i0 + 1) = 126 ∨ KK (i0 + 1) = 33 ∨ KK (i0 + 1) = 61 by omega)]
                        have hL : isL KK i0 = false := isL_f (fun z => by have h0 : KK (i0 + 1) = 61 ∧ KK (i0 + 1 + 1) = 91 := z; omega)
                        rw [hAc]
                        refine ⟨T13, G 43, c0, ?_, rfl, fun k hk => ?_, ?_, fun k hk => ?_, fun hz => ?_⟩
                        · first | rfl | (congr 1; first | assumption | (exact Eq.symm (by assumption)))
                        · exact (hf13_0 k hk).trans (by simp [va_up, hk])
                        · exact hf13_1.1.trans (by simp [va_up, upd])
                        · rfl
                        · have hz2 := hf13_2 hz
                          have hse : sse KK VV c0 i0 = VV (i0 + 2) := by unfold sse; rw [hL, if_neg Bool.false_ne_true]; exact if_neg (show ¬ (KK (i0 + 1) = 43 ∨ KK (i0 + 1) = 45 ∨ KK (i0 + 1) = 94) by omega)
                          refine ⟨?_, ?_, ?_, ?_, fun j hj => ?_⟩
                          · rw [hf13_1.2]; unfold sac; rw [hL]; simp [va_up, upd]
                          · rw [hz2.1]; unfold sfi; rw [hL]; rfl
                          · rw [hz2.2, hse]
                          · unfold slc; rw [hL]; rfl
                          · unfold slc at hj; rw [hL] at hj; exact absurd hj (Nat.not_lt_zero _)
                      · skip
                        refine zz_iconst 125 X.1 (v := nI 1) dX1_readAction_125 rfl ?_
                        refine zz_goto 126 130 X.1 dX1_readAction_126 (by decide) ?_
                        refine zz_topi (bI true) rfl ?_
                        rw [← hQ]
                        refine zz_iret 130 X.1 hr (bI_nar _) hlk (upd (upd F 31 (nI c0)) 33 (nI ((seR KK ((i0 + 1) + 1)).2)), hs, va_up G 43 (G 43), T13) ?_ (fun _ h _ => h) dX1_readAction_130
                        have hAc : acR KK (i0 + 1) = seR KK (i0 + 1 + 1) := by
                          unfold acR
                          rw [if_neg (show ¬ (KK (i0 + 1) = 43 ∨ KK (i0 + 1) = 45 ∨ KK (i0 + 1) = 94) by omega), if_neg (show ¬ (KK (i0 + 1) = 61 ∧ KK (i0 + 1 + 1) = 91) by omega), if_pos (show KK (i0 + 1) = 38 ∨ KK (i0 + 1) = 124 ∨ KK (i0 + 1) = 126 ∨ KK (i0 + 1) = 33 ∨ KK (i0 + 1) = 61 by omega)]
                        have hL : isL KK i0 = false := isL_f (fun z => by have h0 : KK (i0 + 1) = 61 ∧ KK (i0 + 1 + 1) = 91 := z; omega)
                        rw [hAc]
                        refine ⟨T13, G 43, c0, ?_, rfl, fun k hk => ?_, ?_, fun k hk => ?_, fun hz => ?_⟩
                        · first | rfl | (congr 1; first | assumption | (exact Eq.symm (by assumption)))
                        · exact (hf13_0 k hk).trans (by simp [va_up, hk])
                        · exact hf13_1.1.trans (by simp [va_up, upd])
                        · rfl
                        · have hz2 := hf13_2 hz
                          have hse : sse KK VV c0 i0 = VV (i0 + 2) := by unfold sse; rw [hL, if_neg Bool.false_ne_true]; exact if_neg (show ¬ (KK (i0 + 1) = 43 ∨ KK (i0 + 1) = 45 ∨ KK (i0 + 1) = 94) by omega)
                          refine ⟨?_, ?_, ?_, ?_, fun j hj => ?_⟩
                          · rw [hf13_1.2]; unfold sac; rw [hL]; simp [va_up, upd]
                          · rw [hz2.1]; unfold sfi; rw [hL]; rfl
                          · rw [hz2.2, hse]
                          · unfold slc; rw [hL]; rfl
                          · unfold slc at hj; rw [hL] at hj; exact absurd hj (Nat.not_lt_zero _)
                    · exact absurd h87 (by decide)
                  · skip
                    obtain ⟨rfl, hv12⟩ := (hu12.2 hc12)
                    cases hv12
                    refine zz_world (P' := (DP D C K (upd (upd F 31 (nI c0)) 33 (nI (i0 + 1))) (WH hs) (va_up G 43 (G 43)) (va_up T u0 (upd (T u0) 1 (nI (KK (i0 + 1))))))) (fun _ h => h) ?_
                    refine zz_ifB_ne 87 117 X.1 dX1_readAction_87 (by decide) (fun h87 => ?_) (fun h87 => ?_)
                    · exact absurd h87 (by decide)
                    · skip
                      refine zz_aload_n 90 X.1 1 dX1_readAction_90 rfl ?_
                      refine zz_bipush 91 X.1 (v := nI 124) dX1_readAction_91 rfl ?_
                      refine dd_callVi 93 X hml (th := 4) (As := [.int (nI 124)]) (kt_X1_pass l D C K hAp (upd (upd F 31 (nI c0)) 33 (nI (i0 + 1))) hs (va_up G 43 (G 43)) (va_up T u0 (upd (T u0) 1 (nI (KK (i0 + 1))))) KK VV SS nt tn (i0 + 1) 124 (by first | rfl | assumption | omega) (h32) (rfl) (by first | rfl | assumption | omega) (by first | rfl | assumption | omega)) gX1_readAction_X1_pass rfl ⟨rfl, rfl⟩ (dr_4 X) yd_X1_pass ⟨Nat.le_of_ble_eq_true rfl, Nat.le_of_ble_eq_true rfl⟩ rfl rfl (Nat.le_of_ble_eq_true rfl) ⟨Nat.zero_le _, Nat.zero_le _⟩ dX1_readAction_93 ?_
                      rintro r14 ⟨F14, hs14, G14, T14⟩ hu14
                      rcases (show (KK (i0 + 1) = 124) ∨ (KK (i0 + 1) ≠ 124) by omega) with hc14 | hc14
                      · skip
                        obtain ⟨rfl, hv14⟩ := (hu14.1 hc14)
                        cases hv14
                        refine zz_world (P' := (DP D C K (upd (upd F 31 (nI c0)) 33 (nI ((i0 + 1) + 1))) (WH hs) (va_up G 43 (G 43)) (va_up T u0 (upd (T u0) 1 (nI (KK (i0 + 1))))))) (fun _ h => h) ?_
                        refine zz_ifB_ne 96 117 X.1 dX1_readAction_96 (by decide) (fun h96 => ?_) (fun h96 => ?_)
                        · skip
                          have hkl := hTK.lt (i := i0 + 1) (by omega)
                          refine zz_aload_n 117 X.1 1 dX1_readAction_117 rfl ?_
                          refine zz_aload_n 118 X.1 2 dX1_readAction_118 rfl ?_
                          refine dd_callVi 119 X hml (th := 4) (As := [.ref (K (100 + u0))]) (kt_X1_readSet l D C K hAp (upd (upd F 31 (nI c0)) 33 (nI ((i0 + 1) + 1))) hs (va_up G 43 (G 43)) (va_up T u0 (upd (T u0) 1 (nI (KK (i0 + 1))))) KK VV SS nt tn ((i0 + 1) + 1) u0 (by first | rfl | assumption | omega) (h32) (rfl) (by first | rfl | assumption | omega) (by first | rfl | assumption | omega)) gX1_readAction_X1_readSet rfl ⟨rfl, rfl⟩ (dr_4 X) yd_X1_readSet ⟨Nat.le_of_ble_eq_true rfl, Nat.le_of_ble_eq_true rfl⟩ rfl rfl (Nat.le_of_ble_eq_true rfl) ⟨Nat.zero_le _, Nat.zero_le _⟩ dX1_readAction_119 ?_
                          rintro r15 ⟨F15, hs15, G15, T15⟩ hu15
                          obtain ⟨T1_15, rfl, hv15, hf15_0, hf15_1, hf15_2⟩ := hu15
                          cases hv15
                          refine zz_world (P' := (DP D C K (upd (upd F 31 (nI c0)) 33 (nI ((seR KK ((i0 + 1) + 1)).2))) (WH hs) (va_up G 43 (G 43)) T15)) (fun _ h => h) ?_
                          refine zz_ifB_eq 122 129 X.1 dX1_readAction_122 (by decide) (fun h122 => ?_) (fun h122 => ?_)
                          · skip
                            refine zz_iconst 129 X.1 (v := nI 0) dX1_readAction_129 rfl ?_
                            refine zz_topi (bI false) rfl ?_
                            rw [← hQ]
                            refine zz_iret 130 X.1 hr (bI_nar _) hlk (upd (upd F 31 (nI c0)) 33 (nI ((seR KK ((i0 + 1) + 1)).2)), hs, va_up G 43 (G 43), T15) ?_ (fun _ h _ => h) dX1_readAction_130
                            have hAc : acR KK (i0 + 1) = seR KK (i0 + 1 + 1) := by
                              unfold acR
                              rw [if_neg (show ¬ (KK (i0 + 1) = 43 ∨ KK (i0 + 1) = 45 ∨ KK (i0 + 1) = 94) by omega), if_neg (show ¬ (KK (i0 + 1) = 61 ∧ KK (i0 + 1 + 1) = 91) by omega), if_pos (show KK (i0 + 1) = 38 ∨ KK (i0 + 1) = 124 ∨ KK (i0 + 1) = 126 ∨ KK (i0 + 1) = 33 ∨ KK (i0 + 1) = 61 by omega)]
                            have hL : isL KK i0 = false := isL_f (fun z => by have h0 : KK (i0 + 1) = 61 ∧ KK (i0 + 1 + 1) = 91 := z; omega)
                            rw [hAc]
                            refine ⟨T15, G 43, c0, ?_, rfl, fun k hk => ?_, ?_, fun k hk => ?_, fun hz => ?_⟩
                            · first | rfl | (congr 1; first | assumption | (exact Eq.symm (by assumption)))
                            · exact (hf15_0 k hk).trans (by simp [va_up, hk])
                            · exact hf15_1.1.trans (by simp [va_up, upd])
                            · rfl
                            · have hz2 := hf15_2 hz
                              have hse : sse KK VV c0 i0 = VV (i0 + 2) := by unfold sse; rw [hL, if_neg Bool.false_ne_true]; exact if_neg (show ¬ (KK (i0 + 1) = 43 ∨ KK (i0 + 1) = 45 ∨ KK (i0 + 1) = 94) by omega)
                              refine ⟨?_, ?_, ?_, ?_, fun j hj => ?_⟩
                              · rw [hf15_1.2]; unfold sac; rw [hL]; simp [va_up, upd]
                              · rw [hz2.1]; unfold sfi; rw [hL]; rfl
                              · rw [hz2.2, hse]
                              · unfold slc; rw [hL]; rfl
                              · unfold slc at hj; rw [hL] at hj; exact absurd hj (Nat.not_lt_zero _)
                          · skip
                            refine zz_iconst 125 X.1 (v := nI 1) dX1_readAction_125 rfl ?_
                            refine zz_goto 126 130 X.1 dX1_readAction_126 (by decide) ?_
                            refine zz_topi (bI true) rfl ?_
                            rw [← hQ]
                            refine zz_iret 130 X.1 hr (bI_nar _) hlk (upd (upd F 31 (nI c0)) 33 (nI ((seR KK ((i0 + 1) + 1)).2)), hs, va_up G 43 (G 43), T15) ?_ (fun _ h _ => h) dX1_readAction_130
                            have hAc : acR KK (i0 + 1) = seR KK (i0 + 1 + 1) := by
                              unfold acR
                              rw [if_neg (show ¬ (KK (i0 + 1) = 43 ∨ KK (i0 + 1) = 45 ∨ KK (i0 + 1) = 94) by omega), if_neg (show ¬ (KK (i0 + 1) = 61 ∧ KK (i0 + 1 + 1) = 91) by omega), if_pos (show KK (i0 + 1) = 38 ∨ KK (i0 + 1) = 124 ∨ KK (i0 + 1) = 126 ∨ KK (i0 + 1) = 33 ∨ KK (i0 + 1) = 61 by omega)]
                            have hL : isL KK i0 = false := isL_f (fun z => by have h0 : KK (i0 + 1) = 61 ∧ KK (i0 + 1 + 1) = 91 := z; omega)
                            rw [hAc]
                            refine ⟨T15, G 43, c0, ?_, rfl, fun k hk => ?_, ?_, fun k hk => ?_, fun hz => ?_⟩
                            · first | rfl | (congr 1; first | assumption | (exact Eq.symm (by assumption)))
                            · exact (hf15_0 k hk).trans (by simp [va_up, hk])
                            · exact hf15_1.1.trans (by simp [va_up, upd])
                            · rfl
                            · have hz2 := hf15_2 hz
                              have hse : sse KK VV c0 i0 = VV (i0 + 2) := by unfold sse; rw [hL, if_neg Bool.false_ne_true]; exact if_neg (show ¬ (KK (i0 + 1) = 43 ∨ KK (i0 + 1) = 45 ∨ KK (i0 + 1) = 94) by omega)
                              refine ⟨?_, ?_, ?_, ?_, fun j hj => ?_⟩
                              · rw [hf15_1.2]; unfold sac; rw [hL]; simp [va_up, upd]
                              · rw [hz2.1]; unfold sfi; rw [hL]; rfl
                              · rw [hz2.2, hse]
                              · unfold slc; rw [hL]; rfl
                              · unfold slc at hj; rw [hL] at hj; exact absurd hj (Nat.not_lt_zero _)
                        · exact absurd h96 (by decide)
                      · skip
                        obtain ⟨rfl, hv14⟩ := (hu14.2 hc14)
                        cases hv14
                        refine zz_world (P' := (DP D C K (upd (upd F 31 (nI c0)) 33 (nI (i0 + 1))) (WH hs) (va_up G 43 (G 43)) (va_up T u0 (upd (T u0) 1 (nI (KK (i0 + 1))))))) (fun _ h => h) ?_
                        refine zz_ifB_ne 96 117 X.1 dX1_readAction_96 (by decide) (fun h96 => ?_) (fun h96 => ?_)
                        · exact absurd h96 (by decide)
                        · skip
                          refine zz_aload_n 99 X.1 1 dX1_readAction_99 rfl ?_
                          refine zz_bipush 100 X.1 (v := nI 126) dX1_readAction_100 rfl ?_
                          refine dd_callVi 102 X hml (th := 4) (As := [.int (nI 126)]) (kt_X1_pass l D C K hAp (upd (upd F 31 (nI c0)) 33 (nI (i0 + 1))) hs (va_up G 43 (G 43)) (va_up T u0 (upd (T u0) 1 (nI (KK (i0 + 1))))) KK VV SS nt tn (i0 + 1) 126 (by first | rfl | assumption | omega) (h32) (rfl) (by first | rfl | assumption | omega) (by first | rfl | assumption | omega)) gX1_readAction_X1_pass rfl ⟨rfl, rfl⟩ (dr_4 X) yd_X1_pass ⟨Nat.le_of_ble_eq_true rfl, Nat.le_of_ble_eq_true rfl⟩ rfl rfl (Nat.le_of_ble_eq_true rfl) ⟨Nat.zero_le _, Nat.zero_le _⟩ dX1_readAction_102 ?_
                          rintro r16 ⟨F16, hs16, G16, T16⟩ hu16
                          rcases (show (KK (i0 + 1) = 126) ∨ (KK (i0 + 1) ≠ 126) by omega) with hc16 | hc16
                          · skip
                            obtain ⟨rfl, hv16⟩ := (hu16.1 hc16)
                            cases hv16
                            refine zz_world (P' := (DP D C K (upd (upd F 31 (nI c0)) 33 (nI ((i0 + 1) + 1))) (WH hs) (va_up G 43 (G 43)) (va_up T u0 (upd (T u0) 1 (nI (KK (i0 + 1))))))) (fun _ h => h) ?_
                            refine zz_ifB_ne 105 117 X.1 dX1_readAction_105 (by decide) (fun h105 => ?_) (fun h105 => ?_)
                            · skip
                              have hkl := hTK.lt (i := i0 + 1) (by omega)
                              refine zz_aload_n 117 X.1 1 dX1_readAction_117 rfl ?_
                              refine zz_aload_n 118 X.1 2 dX1_readAction_118 rfl ?_
                              refine dd_callVi 119 X hml (th := 4) (As := [.ref (K (100 + u0))]) (kt_X1_readSet l D C K hAp (upd (upd F 31 (nI c0)) 33 (nI ((i0 + 1) + 1))) hs (va_up G 43 (G 43)) (va_up T u0 (upd (T u0) 1 (nI (KK (i0 + 1))))) KK VV SS nt tn ((i0 + 1) + 1) u0 (by first | rfl | assumption | omega) (h32) (rfl) (by first | rfl | assumption | omega) (by first | rfl | assumption | omega)) gX1_readAction_X1_readSet rfl ⟨rfl, rfl⟩ (dr_4 X) yd_X1_readSet ⟨Nat.le_of_ble_eq_true rfl, Nat.le_of_ble_eq_true rfl⟩ rfl rfl (Nat.le_of_ble_eq_true rfl) ⟨Nat.zero_le _, Nat.zero_le _⟩ dX1_readAction_119 ?_
                              rintro r17 ⟨F17, hs17, G17, T17⟩ hu17
                              obtain ⟨T1_17, rfl, hv17, hf17_0, hf17_1, hf17_2⟩ := hu17
                              cases hv17
                              refine zz_world (P' := (DP D C K (upd (upd F 31 (nI c0)) 33 (nI ((seR KK ((i0 + 1) + 1)).2))) (WH hs) (va_up G 43 (G 43)) T17)) (fun _ h => h) ?_
                              refine zz_ifB_eq 122 129 X.1 dX1_readAction_122 (by decide) (fun h122 => ?_) (fun h122 => ?_)
                              · skip
                                refine zz_iconst 129 X.1 (v := nI 0) dX1_readAction_129 rfl ?_
                                refine zz_topi (bI false) rfl ?_
                                rw [← hQ]
                                refine zz_iret 130 X.1 hr (bI_nar _) hlk (upd (upd F 31 (nI c0)) 33 (nI ((seR KK ((i0 + 1) + 1)).2)), hs, va_up G 43 (G 43), T17) ?_ (fun _ h _ => h) dX1_readAction_130
                                have hAc : acR KK (i0 + 1) = seR KK (i0 + 1 + 1) := by
                                  unfold acR
                                  rw [if_neg (show ¬ (KK (i0 + 1) = 43 ∨ KK (i0 + 1) = 45 ∨ KK (i0 + 1) = 94) by omega), if_neg (show ¬ (KK (i0 + 1) = 61 ∧ KK (i0 + 1 + 1) = 91) by omega), if_pos (show KK (i0 + 1) = 38 ∨ KK (i0 + 1) = 124 ∨ KK (i0 + 1) = 126 ∨ KK (i0 + 1) = 33 ∨ KK (i0 + 1) = 61 by omega)]
                                have hL : isL KK i0 = false := isL_f (fun z => by have h0 : KK (i0 + 1) = 61 ∧ KK (i0 + 1 + 1) = 91 := z; omega)
                                rw [hAc]
                                refine ⟨T17, G 43, c0, ?_, rfl, fun k hk => ?_, ?_, fun k hk => ?_, fun hz => ?_⟩
                                · first | rfl | (congr 1; first | assumption | (exact Eq.symm (by assumption)))
                                · exact (hf17_0 k hk).trans (by simp [va_up, hk])
                                · exact hf17_1.1.trans (by simp [va_up, upd])
                                · rfl
                                · have hz2 := hf17_2 hz
                                  have hse : sse KK VV c0 i0 = VV (i0 + 2) := by unfold sse; rw [hL, if_neg Bool.false_ne_true]; exact if_neg (show ¬ (KK (i0 + 1) = 43 ∨ KK (i0 + 1) = 45 ∨ KK (i0 + 1) = 94) by omega)
                                  refine ⟨?_, ?_, ?_, ?_, fun j hj => ?_⟩
                                  · rw [hf17_1.2]; unfold sac; rw [hL]; simp [va_up, upd]
                                  · rw [hz2.1]; unfold sfi; rw [hL]; rfl
                                  · rw [hz2.2, hse]
                                  · unfold slc; rw [hL]; rfl
                                  · unfold slc at hj; rw [hL] at hj; exact absurd hj (Nat.not_lt_zero _)
                              · skip
                                refine zz_iconst 125 X.1 (v := nI 1) dX1_readAction_125 rfl ?_
                                refine zz_goto 126 130 X.1 dX1_readAction_126 (by decide) ?_
                                refine zz_topi (bI true) rfl ?_
                                rw [← hQ]
                                refine zz_iret 130 X.1 hr (bI_nar _) hlk (upd (upd F 31 (nI c0)) 33 (nI ((seR KK ((i0 + 1) + 1)).2)), hs, va_up G 43 (G 43), T17) ?_ (fun _ h _ => h) dX1_readAction_130
                                have hAc : acR KK (i0 + 1) = seR KK (i0 + 1 + 1) := by
                                  unfold acR
                                  rw [if_neg (show ¬ (KK (i0 + 1) = 43 ∨ KK (i0 + 1) = 45 ∨ KK (i0 + 1) = 94) by omega), if_neg (show ¬ (KK (i0 + 1) = 61 ∧ KK (i0 + 1 + 1) = 91) by omega), if_pos (show KK (i0 + 1) = 38 ∨ KK (i0 + 1) = 124 ∨ KK (i0 + 1) = 126 ∨ KK (i0 + 1) = 33 ∨ KK (i0 + 1) = 61 by omega)]
                                have hL : isL KK i0 = false := isL_f (fun z => by have h0 : KK (i0 + 1) = 61 ∧ KK (i0 + 1 + 1) = 91 := z; omega)
                                rw [hAc]
                                refine ⟨T17, G 43, c0, ?_, rfl, fun k hk => ?_, ?_, fun k hk => ?_, fun hz => ?_⟩
                                · first | rfl | (congr 1; first | assumption | (exact Eq.symm (by assumption)))
                                · exact (hf17_0 k hk).trans (by simp [va_up, hk])
                                · exact hf17_1.1.trans (by simp [va_up, upd])
                                · rfl
                                · have hz2 := hf17_2 hz
                                  have hse : sse KK VV c0 i0 = VV (i0 + 2) := by unfold sse; rw [hL, if_neg Bool.false_ne_true]; exact if_neg (show ¬ (KK (i0 + 1) = 43 ∨ KK (i0 + 1) = 45 ∨ KK (i0 + 1) = 94) by omega)
                                  refine ⟨?_, ?_, ?_, ?_, fun j hj => ?_⟩
                                  · rw [hf17_1.2]; unfold sac; rw [hL]; simp [va_up, upd]
                                  · rw [hz2.1]; unfold sfi; rw [hL]; rfl
                                  · rw [hz2.2, hse]
                                  · unfold slc; rw [hL]; rfl
                                  · unfold slc at hj; rw [hL] at hj; exact absurd hj (Nat.not_lt_zero _)
                            · exact absurd h105 (by decide)
                          · skip
                            obtain ⟨rfl, hv16⟩ := (hu16.2 hc16)
                            cases hv16
                            refine zz_world (P' := (DP D C K (upd (upd F 31 (nI c0)) 33 (nI (i0 + 1))) (WH hs) (va_up G 43 (G 43)) (va_up T u0 (upd (T u0) 1 (nI (KK (i0 + 1))))))) (fun _ h => h) ?_
                            refine zz_ifB_ne 105 117 X.1 dX1_readAction_105 (by decide) (fun h105 => ?_) (fun h105 => ?_)
                            · exact absurd h105 (by decide)
                            · skip
                              refine zz_aload_n 108 X.1 1 dX1_readAction_108 rfl ?_
                              refine zz_bipush 109 X.1 (v := nI 33) dX1_readAction_109 rfl ?_
                              refine dd_callVi 111 X hml (th := 4) (As := [.int (nI 33)]) (kt_X1_pass l D C K hAp (upd (upd F 31 (nI c0)) 33 (nI (i0 + 1))) hs (va_up G 43 (G 43)) (va_up T u0 (upd (T u0) 1 (nI (KK (i0 + 1))))) KK VV SS nt tn (i0 + 1) 33 (by first | rfl | assumption | omega) (h32) (rfl) (by first | rfl | assumption | omega) (by first | rfl | assumption | omega)) gX1_readAction_X1_pass rfl ⟨rfl, rfl⟩ (dr_4 X) yd_X1_pass ⟨Nat.le_of_ble_eq_true rfl, Nat.le_of_ble_eq_true rfl⟩ rfl rfl (Nat.le_of_ble_eq_true rfl) ⟨Nat.zero_le _, Nat.zero_le _⟩ dX1_readAction_111 ?_
                              rintro r18 ⟨F18, hs18, G18, T18⟩ hu18
                              rcases (show (KK (i0 + 1) = 33) ∨ (KK (i0 + 1) ≠ 33) by omega) with hc18 | hc18
                              · skip
                                obtain ⟨rfl, hv18⟩ := (hu18.1 hc18)
                                cases hv18
                                refine zz_world (P' := (DP D C K (upd (upd F 31 (nI c0)) 33 (nI ((i0 + 1) + 1))) (WH hs) (va_up G 43 (G 43)) (va_up T u0 (upd (T u0) 1 (nI (KK (i0 + 1))))))) (fun _ h => h) ?_
                                refine zz_ifB_eq 114 129 X.1 dX1_readAction_114 (by decide) (fun h114 => ?_) (fun h114 => ?_)
                                · exact absurd h114 (by decide)
                                · skip
                                  have hkl := hTK.lt (i := i0 + 1) (by omega)
                                  refine zz_aload_n 117 X.1 1 dX1_readAction_117 rfl ?_
                                  refine zz_aload_n 118 X.1 2 dX1_readAction_118 rfl ?_
                                  refine dd_callVi 119 X hml (th := 4) (As := [.ref (K (100 + u0))]) (kt_X1_readSet l D C K hAp (upd (upd F 31 (nI c0)) 33 (nI ((i0 + 1) + 1))) hs (va_up G 43 (G 43)) (va_up T u0 (upd (T u0) 1 (nI (KK (i0 + 1))))) KK VV SS nt tn ((i0 + 1) + 1) u0 (by first | rfl | assumption | omega) (h32) (rfl) (by first | rfl | assumption | omega) (by first | rfl | assumption | omega)) gX1_readAction_X1_readSet rfl ⟨rfl, rfl⟩ (dr_4 X) yd_X1_readSet ⟨Nat.le_of_ble_eq_true rfl, Nat.le_of_ble_eq_true rfl⟩ rfl rfl (Nat.le_of_ble_eq_true rfl) ⟨Nat.zero_le _, Nat.zero_le _⟩ dX1_readAction_119 ?_
                                  rintro r19 ⟨F19, hs19, G19, T19⟩ hu19
                                  obtain ⟨T1_19, rfl, hv19, hf19_0, hf19_1, hf19_2⟩ := hu19
                                  cases hv19
                                  refine zz_world (P' := (DP D C K (upd (upd F 31 (nI c0)) 33 (nI ((seR KK ((i0 + 1) + 1)).2))) (WH hs) (va_up G 43 (G 43)) T19)) (fun _ h => h) ?_
                                  refine zz_ifB_eq 122 129 X.1 dX1_readAction_122 (by decide) (fun h122 => ?_) (fun h122 => ?_)
                                  · skip
                                    refine zz_iconst 129 X.1 (v := nI 0) dX1_readAction_129 rfl ?_
                                    refine zz_topi (bI false) rfl ?_
                                    rw [← hQ]
                                    refine zz_iret 130 X.1 hr (bI_nar _) hlk (upd (upd F 31 (nI c0)) 33 (nI ((seR KK ((i0 + 1) + 1)).2)), hs, va_up G 43 (G 43), T19) ?_ (fun _ h _ => h) dX1_readAction_130
                                    have hAc : acR KK (i0 + 1) = seR KK (i0 + 1 + 1) := by
                                      unfold acR
                                      rw [if_neg (show ¬ (KK (i0 + 1) = 43 ∨ KK (i0 + 1) = 45 ∨ KK (i0 + 1) = 94) by omega), if_neg (show ¬ (KK (i0 + 1) = 61 ∧ KK (i0 + 1 + 1) = 91) by omega), if_pos (show KK (i0 + 1) = 38 ∨ KK (i0 + 1) = 124 ∨ KK (i0 + 1) = 126 ∨ KK (i0 + 1) = 33 ∨ KK (i0 + 1) = 61 by omega)]
                                    have hL : isL KK i0 = false := isL_f (fun z => by have h0 : KK (i0 + 1) = 61 ∧ KK (i0 + 1 + 1) = 91 := z; omega)
                                    rw [hAc]
                                    refine ⟨T19, G 43, c0, ?_, rfl, fun k hk => ?_, ?_, fun k hk => ?_, fun hz => ?_⟩
                                    · first | rfl | (congr 1; first | assumption | (exact Eq.symm (by assumption)))
                                    · exact (hf19_0 k hk).trans (by simp [va_up, hk])
                                    · exact hf19_1.1.trans (by simp [va_up, upd])
                                    · rfl
                                    · have hz2 := hf19_2 hz
                                      have hse : sse KK VV c0 i0 = VV (i0 + 2) := by unfold sse; rw [hL, if_neg Bool.false_ne_true]; exact if_neg (show ¬ (KK (i0 + 1) = 43 ∨ KK (i0 + 1) = 45 ∨ KK (i0 + 1) = 94) by omega)
                                      refine ⟨?_, ?_, ?_, ?_, fun j hj => ?_⟩
                                      · rw [hf19_1.2]; unfold sac; rw [hL]; simp [va_up, upd]
                                      · rw [hz2.1]; unfold sfi; rw [hL]; rfl
                                      · rw [hz2.2, hse]
                                      · unfold slc; rw [hL]; rfl
                                      · unfold slc at hj; rw [hL] at hj; exact absurd hj (Nat.not_lt_zero _)
                                  · skip
                                    refine zz_iconst 125 X.1 (v := nI 1) dX1_readAction_125 rfl ?_
                                    refine zz_goto 126 130 X.1 dX1_readAction_126 (by decide) ?_
                                    refine zz_topi (bI true) rfl ?_
                                    rw [← hQ]
                                    refine zz_iret 130 X.1 hr (bI_nar _) hlk (upd (upd F 31 (nI c0)) 33 (nI ((seR KK ((i0 + 1) + 1)).2)), hs, va_up G 43 (G 43), T19) ?_ (fun _ h _ => h) dX1_readAction_130
                                    have hAc : acR KK (i0 + 1) = seR KK (i0 + 1 + 1) := by
                                      unfold acR
                                      rw [if_neg (show ¬ (KK (i0 + 1) = 43 ∨ KK (i0 + 1) = 45 ∨ KK (i0 + 1) = 94) by omega), if_neg (show ¬ (KK (i0 + 1) = 61 ∧ KK (i0 + 1 + 1) = 91) by omega), if_pos (show KK (i0 + 1) = 38 ∨ KK (i0 + 1) = 124 ∨ KK (i0 + 1) = 126 ∨ KK (i0 + 1) = 33 ∨ KK (i0 + 1) = 61 by omega)]
                                    have hL : isL KK i0 = false := isL_f (fun z => by have h0 : KK (i0 + 1) = 61 ∧ KK (i0 + 1 + 1) = 91 := z; omega)
                                    rw [hAc]
                                    refine ⟨T19, G 43, c0, ?_, rfl, fun k hk => ?_, ?_, fun k hk => ?_, fun hz => ?_⟩
                                    · first | rfl | (congr 1; first | assumption | (exact Eq.symm (by assumption)))
                                    · exact (hf19_0 k hk).trans (by simp [va_up, hk])
                                    · exact hf19_1.1.trans (by simp [va_up, upd])
                                    · rfl
                                    · have hz2 := hf19_2 hz
                                      have hse : sse KK VV c0 i0 = VV (i0 + 2) := by unfold sse; rw [hL, if_neg Bool.false_ne_true]; exact if_neg (show ¬ (KK (i0 + 1) = 43 ∨ KK (i0 + 1) = 45 ∨ KK (i0 + 1) = 94) by omega)
                                      refine ⟨?_, ?_, ?_, ?_, fun j hj => ?_⟩
                                      · rw [hf19_1.2]; unfold sac; rw [hL]; simp [va_up, upd]
                                      · rw [hz2.1]; unfold sfi; rw [hL]; rfl
                                      · rw [hz2.2, hse]
                                      · unfold slc; rw [hL]; rfl
                                      · unfold slc at hj; rw [hL] at hj; exact absurd hj (Nat.not_lt_zero _)
                              · skip
                                obtain ⟨rfl, hv18⟩ := (hu18.2 hc18)
                                cases hv18
                                refine zz_world (P' := (DP D C K (upd (upd F 31 (nI c0)) 33 (nI (i0 + 1))) (WH hs) (va_up G 43 (G 43)) (va_up T u0 (upd (T u0) 1 (nI (KK (i0 + 1))))))) (fun _ h => h) ?_
                                refine zz_ifB_eq 114 129 X.1 dX1_readAction_114 (by decide) (fun h114 => ?_) (fun h114 => ?_)
                                · skip
                                  refine zz_iconst 129 X.1 (v := nI 0) dX1_readAction_129 rfl ?_
                                  refine zz_topi (bI false) rfl ?_
                                  rw [← hQ]
                                  refine zz_iret 130 X.1 hr (bI_nar _) hlk (upd (upd F 31 (nI c0)) 33 (nI (i0 + 1)), hs, va_up G 43 (G 43), va_up T u0 (upd (T u0) 1 (nI (KK (i0 + 1))))) ?_ (fun _ h _ => h) dX1_readAction_130
                                  have hAc : acR KK (i0 + 1) = (false, (i0 + 1)) := by
                                    unfold acR
                                    rw [if_neg (show ¬ (KK (i0 + 1) = 43 ∨ KK (i0 + 1) = 45 ∨ KK (i0 + 1) = 94) by omega), if_neg (show ¬ (KK (i0 + 1) = 61 ∧ KK (i0 + 1 + 1) = 91) by omega), if_neg (show ¬ (KK (i0 + 1) = 38 ∨ KK (i0 + 1) = 124 ∨ KK (i0 + 1) = 126 ∨ KK (i0 + 1) = 33 ∨ KK (i0 + 1) = 61) by omega)]
                                  rw [hAc]
                                  refine ⟨va_up T u0 (upd (T u0) 1 (nI (KK (i0 + 1)))), G 43, c0, ?_, rfl, fun k hk => ?_, ?_, fun k hk => ?_, fun hz => ?_⟩
                                  · first | rfl | (congr 1; first | assumption | (exact Eq.symm (by assumption)))
                                  · simp [va_up, hk]
                                  · simp [va_up, upd]
                                  · rfl
                                  · exact Bool.noConfusion hz
                                · exact absurd h114 (by decide)
                · exact absurd h52 (by decide)
            · exact absurd h37 (by decide)
abbrev rm_X1_readStatement : Room := { frames := 4, cells := 0, slots := 0, locals := 85 }
theorem yd_X1_readStatement : yX1_readStatement.cls = RX1 ∧ yX1_readStatement.cls ≠ "java/lang/invoke/MethodHandle" ∧ yX1_readStatement.cls ≠ "java/lang/invoke/VarHandle" ∧ (parseMethodDescriptor yX1_readStatement.desc).map (fun d => d.parameters.length) = some 1 := by decide +kernel
set_option maxHeartbeats 4000000 in
set_option maxRecDepth 100000 in
theorem kt_X1_readStatement (l : Launch) (D : va_G) (C : Nat → ClassId) (K : Nat → Nat) (hAp : DAp K) (F : Nat → Int32) (hs : Nat → Bool) (G T : Nat → Nat → Int32) (KK : Nat → Nat) (VV : Nat → Nat) (SS : Nat → Nat) (nt : Nat) (tn : Nat) (i0 : Nat) (u0 : Nat) (c0 : Nat) (hTK : TKc KK VV SS nt tn (G 40) (G 41) (G 42)) (h32 : F 32 = nI nt) (h33 : F 33 = nI i0) (hi : i0 ≤ 400) (hm : u0 < 100) (h31 : F 31 = nI c0) (hc2 : 2 * c0 ≤ i0) : CMi l yX1_readStatement wsX1_readStatement rm_X1_readStatement D C K (4)  [.ref (K (100 + u0))] F hs G T (fun (r : Int32) (u : CSt) => ∃ (T1 : Nat → Nat → Int32) (g43 : Nat → Int32) (c1 : Nat), r = (bI ((stR KK i0).1)) ∧ u = (upd (upd F 31 (nI c1)) 33 (nI ((stR KK i0).2)), hs, va_up G 43 g43, T1) ∧ (∀ k, k ≠ u0 → T1 k = T k) ∧ (∀ k, k < c0 → g43 k = G 43 k) ∧ ((stR KK i0).1 = true → T1 u0 0 = nI (VV i0) ∧ T1 u0 1 = nI (sac KK i0) ∧ T1 u0 2 = nI (sfi KK VV c0 i0) ∧ T1 u0 3 = nI (sse KK VV c0 i0) ∧ c1 = c0 + slc KK i0 ∧ ∀ j, j < slc KK i0 → g43 (c0 + j) = nI (VV (i0 + 3 + 2 * j)))) := by
  refine CMi_of (lv := [(0, .ref (K 4)), (1, .ref (K (100 + u0)))]) (cc := cX1_readStatement) (maxL := 2) (ret := (some .boolean)) rfl (by decide +kernel) (Nat.le_of_ble_eq_true rfl) rfl ?_
  intro p e s m args below meth c X hml hr hlk
  generalize hQ : MQ below _ args s 0 0 _ = Q
  have hkb := hTK.2.2.2 i0
  have hn400 := hTK.1
  refine zz_world (P' := (DP D C K (upd F 31 (nI c0)) (WH hs) G T)) (dp_F (upd_self (f := F) (k := 31) (x := nI c0) h31).symm) ?_
  refine zz_world (P' := (DP D C K (upd (upd F 31 (nI c0)) 33 (nI i0)) (WH hs) G T)) (dp_F (upd_self (f := upd F 31 (nI c0)) (k := 33) (x := nI i0) h33).symm) ?_
  refine zz_world (P' := (DP D C K (upd (upd F 31 (nI c0)) 33 (nI i0)) (WH hs) (va_up G 43 (G 43)) T)) (dp_G (va_up_id (f := G) (k := 43)).symm) ?_
  refine zz_aload_n 0 X.1 0 dX1_readStatement_0 rfl ?_
  refine dd_get4 1 X (by decide +kernel) 0 (by decide) (v := .ref (K 5)) rfl (by decide +kernel) rfl dX1_readStatement_1 ?_
  refine dd_callVi 4 X hml (th := 5) (As := []) (kt_X5_kind l D C K hAp (upd (upd F 31 (nI c0)) 33 (nI i0)) hs (va_up G 43 (G 43)) T KK VV SS nt tn i0 (by first | rfl | assumption | omega) (h32) (rfl) (by first | rfl | assumption | omega)) gX1_readStatement_X5_kind rfl ⟨rfl, rfl⟩ (dr_5 X) yd_X5_kind ⟨Nat.le_of_ble_eq_true rfl, Nat.le_of_ble_eq_true rfl⟩ rfl rfl (Nat.le_of_ble_eq_true rfl) ⟨Nat.zero_le _, Nat.zero_le _⟩ dX1_readStatement_4 ?_
  rintro r1 ⟨F1, hs1, G1, T1⟩ hu1
  obtain ⟨rfl, hv1⟩ := hu1
  cases hv1
  refine zz_world (P' := (DP D C K (upd (upd F 31 (nI c0)) 33 (nI i0)) (WH hs) (va_up G 43 (G 43)) T)) (fun _ h => h) ?_
  refine zz_iconst 7 X.1 (v := nI 2) dX1_readStatement_7 rfl ?_
  refine zz_icmp_eq 8 13 X.1 (nI_toInt (by omega)) (nI_toInt (by omega)) dX1_readStatement_8 (by decide) (fun h8 => ?_) (fun h8 => ?_)
  · skip
    have hkl := hTK.lt (i := i0) (by omega)
    refine zz_aload_n 13 X.1 1 dX1_readStatement_13 rfl ?_
    refine zz_aload_n 14 X.1 0 dX1_readStatement_14 rfl ?_
    refine dd_get4 15 X (by decide +kernel) 0 (by decide) (v := .ref (K 5)) rfl (by decide +kernel) rfl dX1_readStatement_15 ?_
    refine dd_callVi 18 X hml (th := 5) (As := []) (kt_X5_value l D C K hAp (upd (upd F 31 (nI c0)) 33 (nI i0)) hs (va_up G 43 (G 43)) T KK VV SS nt tn i0 (by first | rfl | assumption | omega) (h32) (rfl) (by first | rfl | assumption | omega)) gX1_readStatement_X5_value rfl ⟨rfl, rfl⟩ (dr_5 X) yd_X5_value ⟨Nat.le_of_ble_eq_true rfl, Nat.le_of_ble_eq_true rfl⟩ rfl rfl (Nat.le_of_ble_eq_true rfl) ⟨Nat.zero_le _, Nat.zero_le _⟩ dX1_readStatement_18 ?_
    rintro r2 ⟨F2, hs2, G2, T2⟩ hu2
    obtain ⟨rfl, hv2⟩ := hu2
    cases hv2
    refine zz_world (P' := (DP D C K (upd (upd F 31 (nI c0)) 33 (nI i0)) (WH hs) (va_up G 43 (G 43)) T)) (fun _ h => h) ?_
    refine dd_putS 21 hAp X (by decide +kernel) (i := u0) (by omega) 0 (by decide) (t := upd (T u0) 0 (tvv (G 41) nt i0)) rfl (by decide +kernel) ⟨rfl, rfl⟩ (by decide +kernel) dX1_readStatement_21 ?_
    refine zz_aload_n 24 X.1 0 dX1_readStatement_24 rfl ?_
    refine dd_get4 25 X (by decide +kernel) 0 (by decide) (v := .ref (K 5)) rfl (by decide +kernel) rfl dX1_readStatement_25 ?_
    refine dd_callVv 28 X hml (th := 5) (As := []) (kt_X5_advance l D C K hAp (upd (upd F 31 (nI c0)) 33 (nI i0)) hs (va_up G 43 (G 43)) (va_up T u0 (upd (T u0) 0 (tvv (G 41) nt i0))) i0 (rfl)) gX1_readStatement_X5_advance rfl ⟨rfl, rfl⟩ (dr_5 X) yd_X5_advance ⟨Nat.le_of_ble_eq_true rfl, Nat.le_of_ble_eq_true rfl⟩ rfl rfl (Nat.le_of_ble_eq_true rfl) ⟨Nat.zero_le _, Nat.zero_le _⟩ dX1_readStatement_28 ?_
    rintro ⟨F3, hs3, G3, T3⟩ hu3
    have hv3 := hu3
    cases hv3
    refine zz_world (P' := (DP D C K (upd (upd F 31 (nI c0)) 33 (nI (i0 + 1))) (WH hs) (va_up G 43 (G 43)) (va_up T u0 (upd (T u0) 0 (tvv (G 41) nt i0))))) (fun _ h => h) ?_
    refine zz_aload_n 31 X.1 0 dX1_readStatement_31 rfl ?_
    refine zz_aload_n 32 X.1 1 dX1_readStatement_32 rfl ?_
    refine dd_callVi 33 X hml (th := 4) (As := [.ref (K (100 + u0))]) (kt_X1_readAction l D C K hAp (upd (upd F 31 (nI c0)) 33 (nI (i0 + 1))) hs (va_up G 43 (G 43)) (va_up T u0 (upd (T u0) 0 (tvv (G 41) nt i0))) KK VV SS nt tn i0 u0 c0 (by first | rfl | assumption | omega) (h32) (by first | rfl | assumption | omega) (by first | rfl | assumption | omega) (by first | rfl | assumption | omega) (rfl) (by first | rfl | assumption | omega)) gX1_readStatement_X1_readAction rfl ⟨rfl, rfl⟩ (dr_4 X) yd_X1_readAction ⟨Nat.le_of_ble_eq_true rfl, Nat.le_of_ble_eq_true rfl⟩ rfl rfl (Nat.le_of_ble_eq_true rfl) ⟨Nat.zero_le _, Nat.zero_le _⟩ dX1_readStatement_33 ?_
    rintro r4 ⟨F4, hs4, G4, T4⟩ hu4
    obtain ⟨T1_4, g43_4, c1_4, rfl, hv4, hf4_0, hf4_1, hf4_2, hf4_3⟩ := hu4
    cases hv4
    refine zz_world (P' := (DP D C K (upd (upd F 31 (nI c1_4)) 33 (nI ((acR KK (i0 + 1)).2))) (WH hs) (va_up G 43 g43_4) T4)) (fun _ h => h) ?_
    refine zz_ifB_eq 36 52 X.1 dX1_readStatement_36 (by decide) (fun h36 => ?_) (fun h36 => ?_)
    · skip
      refine zz_iconst 52 X.1 (v := nI 0) dX1_readStatement_52 rfl ?_
      refine zz_topi (bI false) rfl ?_
      rw [← hQ]
      refine zz_iret 53 X.1 hr (bI_nar _) hlk (upd (upd F 31 (nI c1_4)) 33 (nI ((acR KK (i0 + 1)).2)), hs, va_up G 43 g43_4, T4) ?_ (fun _ h _ => h) dX1_readStatement_53
      have hR : stR KK i0 = (false, (acR KK (i0 + 1)).2) := by
        unfold stR
        rw [if_neg (show ¬ KK i0 ≠ 2 by omega)]
        first | (rw [if_pos h36]; done) | (rw [if_neg (show ¬ (acR KK (i0 + 1)).1 = false by rw [h36]; decide), if_pos (by omega)]; done) | (rw [if_neg (show ¬ (acR KK (i0 + 1)).1 = false by rw [h36]; decide), if_neg (by omega)]; done)
      rw [hR]
      refine ⟨T4, g43_4, c1_4, rfl, rfl, fun k hk => ?_, fun k hk => ?_, fun hz => ?_⟩
      · exact (hf4_0 k hk).trans (by simp [va_up, hk])
      · exact hf4_2 k hk
      · exact Bool.noConfusion hz
    · skip
      have hkb3 := hTK.2.2.2 (acR KK (i0 + 1)).2
      have hhi := acR_hi (fun j hj => hTK.lt hj) h36
      refine zz_aload_n 39 X.1 0 dX1_readStatement_39 rfl ?_
      refine zz_bipush 40 X.1 (v := nI 59) dX1_readStatement_40 rfl ?_
      refine dd_callVi 42 X hml (th := 4) (As := [.int (nI 59)]) (kt_X1_pass l D C K hAp (upd (upd F 31 (nI c1_4)) 33 (nI ((acR KK (i0 + 1)).2))) hs (va_up G 43 g43_4) T4 KK VV SS nt tn ((acR KK (i0 + 1)).2) 59 (by first | rfl | assumption | omega) (h32) (rfl) (by first | rfl | assumption | omega) (by first | rfl | assumption | omega)) gX1_readStatement_X1_pass rfl ⟨rfl, rfl⟩ (dr_4 X) yd_X1_pass ⟨Nat.le_of_ble_eq_true rfl, Nat.le_of_ble_eq_true rfl⟩ rfl rfl (Nat.le_of_ble_eq_true rfl) ⟨Nat.zero_le _, Nat.zero_le _⟩ dX1_readStatement_42 ?_
      rintro r5 ⟨F5, hs5, G5, T5⟩ hu5
      rcases (show (KK ((acR KK (i0 + 1)).2) = 59) ∨ (KK ((acR KK (i0 + 1)).2) ≠ 59) by omega) with hc5 | hc5
      · skip
        obtain ⟨rfl, hv5⟩ := (hu5.1 hc5)
        cases hv5
        refine zz_world (P' := (DP D C K (upd (upd F 31 (nI c1_4)) 33 (nI (((acR KK (i0 + 1)).2) + 1))) (WH hs) (va_up G 43 g43_4) T4)) (fun _ h => h) ?_
        refine zz_ifB_eq 45 52 X.1 dX1_readStatement_45 (by decide) (fun h45 => ?_) (fun h45 => ?_)
        · exact absurd h45 (by decide)
        · skip
          refine zz_iconst 48 X.1 (v := nI 1) dX1_readStatement_48 rfl ?_
          refine zz_goto 49 53 X.1 dX1_readStatement_49 (by decide) ?_
          refine zz_topi (bI true) rfl ?_
          rw [← hQ]
          refine zz_iret 53 X.1 hr (bI_nar _) hlk (upd (upd F 31 (nI c1_4)) 33 (nI (((acR KK (i0 + 1)).2) + 1)), hs, va_up G 43 g43_4, T4) ?_ (fun _ h _ => h) dX1_readStatement_53
          have hR : stR KK i0 = (true, ((acR KK (i0 + 1)).2) + 1) := by
            unfold stR
            rw [if_neg (show ¬ KK i0 ≠ 2 by omega)]
            first | (rw [if_pos h36]; done) | (rw [if_neg (show ¬ (acR KK (i0 + 1)).1 = false by rw [h36]; decide), if_pos (by omega)]; done) | (rw [if_neg (show ¬ (acR KK (i0 + 1)).1 = false by rw [h36]; decide), if_neg (by omega)]; done)
          rw [hR]
          refine ⟨T4, g43_4, c1_4, rfl, rfl, fun k hk => ?_, fun k hk => ?_, fun hz => ?_⟩
          · exact (hf4_0 k hk).trans (by simp [va_up, hk])
          · exact hf4_2 k hk
          · have hz2 := hf4_3 h36
            refine ⟨hf4_1.trans ?_, hz2⟩
            simp [va_up, upd]; exact tvv_ok hTK (Or.inl (by omega))
      · skip
        obtain ⟨rfl, hv5⟩ := (hu5.2 hc5)
        cases hv5
        refine zz_world (P' := (DP D C K (upd (upd F 31 (nI c1_4)) 33 (nI ((acR KK (i0 + 1)).2))) (WH hs) (va_up G 43 g43_4) T4)) (fun _ h => h) ?_
        refine zz_ifB_eq 45 52 X.1 dX1_readStatement_45 (by decide) (fun h45 => ?_) (fun h45 => ?_)
        · skip
          refine zz_iconst 52 X.1 (v := nI 0) dX1_readStatement_52 rfl ?_
          refine zz_topi (bI false) rfl ?_
          rw [← hQ]
          refine zz_iret 53 X.1 hr (bI_nar _) hlk (upd (upd F 31 (nI c1_4)) 33 (nI ((acR KK (i0 + 1)).2)), hs, va_up G 43 g43_4, T4) ?_ (fun _ h _ => h) dX1_readStatement_53
          have hR : stR KK i0 = (false, ((acR KK (i0 + 1)).2)) := by
            unfold stR
            rw [if_neg (show ¬ KK i0 ≠ 2 by omega)]
            first | (rw [if_pos h36]; done) | (rw [if_neg (show ¬ (acR KK (i0 + 1)).1 = false by rw [h36]; decide), if_pos (by omega)]; done) | (rw [if_neg (show ¬ (acR KK (i0 + 1)).1 = false by rw [h36]; decide), if_neg (by omega)]; done)
          rw [hR]
          refine ⟨T4, g43_4, c1_4, rfl, rfl, fun k hk => ?_, fun k hk => ?_, fun hz => ?_⟩
          · exact (hf4_0 k hk).trans (by simp [va_up, hk])
          · exact hf4_2 k hk
          · exact Bool.noConfusion hz
        · exact absurd h45 (by decide)
  · skip
    refine zz_iconst 11 X.1 (v := nI 0) dX1_readStatement_11 rfl ?_
    refine zz_topi (bI false) rfl ?_
    rw [← hQ]
    refine zz_iret 12 X.1 hr (bI_nar _) hlk (upd (upd F 31 (nI c0)) 33 (nI i0), hs, va_up G 43 (G 43), T) ?_ (fun _ h _ => h) dX1_readStatement_12
    have hR : stR KK i0 = (false, i0) := by
      unfold stR
      rw [if_pos (by omega)]
    rw [hR]
    refine ⟨T, G 43, c0, rfl, rfl, fun k hk => ?_, fun k hk => ?_, fun hz => ?_⟩
    · rfl
    · rfl
    · exact Bool.noConfusion hz
