/-! run. -/
theorem stR_end {K : Nat → Nat} {i : Nat} (h : (stR K i).1 = true) : ∃ j, (stR K i).2 = j + 1 ∧ K j = 59 := by
  unfold stR at h ⊢
  by_cases h1 : K i ≠ 2
  · rw [if_pos h1] at h; exact Bool.noConfusion h
  · rw [if_neg h1] at h ⊢
    by_cases h2 : (acR K (i + 1)).1 = false
    · rw [if_pos h2] at h; exact Bool.noConfusion h
    · rw [if_neg h2] at h ⊢
      by_cases h3 : K (acR K (i + 1)).2 = 59
      · rw [if_pos h3]
        exact ⟨_, rfl, h3⟩
      · rw [if_neg h3] at h; exact Bool.noConfusion h
theorem sI_le {K : Nat → Nat} {n : Nat} (hn : ∀ i, K i ≠ 0 → i < n) : ∀ m, okS K m → sI K m ≤ n
  | 0, _ => Nat.zero_le _
  | m + 1, h => by
    obtain ⟨j, h1, h2⟩ := stR_end (h m (by omega)).2
    have := hn j (by omega)
    simp only [sI]
    omega

abbrev rm_X7_run : Room := { frames := 10, cells := 0, slots := 0, locals := 209 }
theorem yd_X7_run : yX7_run.cls = RX7 ∧ yX7_run.cls ≠ "java/lang/invoke/MethodHandle" ∧ yX7_run.cls ≠ "java/lang/invoke/VarHandle" ∧ (parseMethodDescriptor yX7_run.desc).map (fun d => d.parameters.length) = some 0 := by decide +kernel
set_option maxHeartbeats 4000000 in
set_option maxRecDepth 100000 in
theorem kt_X7_run_no (l : Launch) (D : va_G) (C : Nat → ClassId) (K : Nat → Nat) (hAp : RAp K) (F : Nat → Int32) (hs mv : Nat → Bool) (G : Nat → Nat → Int32) (m0 : Nat) (tn : Nat) (hT : F 4 = nI tn) (htn : tn ≤ 400) (hB : HB (G 3) tn) (hok : okS (tK (tc (G 3) tn) tn) m0) (hne : (tK (tc (G 3) tn) tn) (sI (tK (tc (G 3) tn) tn) m0) ≠ 0) (hf : (stR (tK (tc (G 3) tn) tn) (sI (tK (tc (G 3) tn) tn) m0)).1 = false) : RMi l yX7_run wsX7_run rm_X7_run D C K [] F hs mv G (fun (r : Int32) (u : MSt) => ∃ (x5 : Int32) (x7 : Int32) (x8 : Int32) (x15 : Int32) (g9 : Nat → Int32) (g10 : Nat → Int32) (g11 : Nat → Int32) (g12 : Nat → Int32) (g13 : Nat → Int32), r = (nI 0) ∧ u = (upd (upd (upd (upd (upd (upd (upd (upd (upd (upd F 0 (nI 1)) 4 (nI 0)) 5 x5) 6 (nI (tS (tc (G 3) tn) tn (stR (tK (tc (G 3) tn) tn) (sI (tK (tc (G 3) tn) tn) m0)).2))) 7 x7) 8 x8) 14 (nI m0)) 15 x15) 16 (nI (tS (tc (G 3) tn) tn (stR (tK (tc (G 3) tn) tn) (sI (tK (tc (G 3) tn) tn) m0)).2))) 17 (-1), hs, mv, va_up (va_up (va_up (va_up (va_up G 9 g9) 10 g10) 11 g11) 12 g12) 13 g13)) := by
  refine RMi_of (lv := [(0, .ref (K 0))]) (cc := cX7_run) (maxL := 3) (ret := (some .int)) rfl rfl (by decide +kernel) (Nat.le_of_ble_eq_true rfl) rfl ?_
  intro p e s m args below meth c X hml hr hlk
  generalize hQ : MQ below _ args s 0 0 _ = Q
  refine zz_aload_n 0 X.1 0 dX7_run_0 rfl ?_
  refine zz_iconst 1 X.1 (v := nI 0) dX7_run_1 rfl ?_
  refine rr_put 2 hAp X 0 (by decide) (F' := upd F 0 (nI 0)) rfl (by decide +kernel) ⟨rfl, rfl⟩ (by decide +kernel) dX7_run_2 ?_
  refine zz_aload_n 5 X.1 0 dX7_run_5 rfl ?_
  refine rr_callVi 6 X hml (As := []) (kt_X7_readsAll l D C K hAp (upd F 0 (nI 0)) hs mv G tn (hT) (by first | rfl | assumption | omega) (by first | rfl | assumption | omega)) gX7_run_X7_readsAll rfl ⟨rfl, rfl⟩ yd_X7_readsAll ⟨Nat.le_of_ble_eq_true rfl, Nat.le_of_ble_eq_true rfl⟩ rfl rfl (Nat.le_of_ble_eq_true rfl) dX7_run_6 ?_
  rintro r1 ⟨F1, hs1, mv1, G1⟩ hu1
  obtain ⟨m1_1, g9_1, g10_1, g11_1, g12_1, g13_1, x5_1, x7_1, x8_1, x15_1, rfl, hv1, hf1_0, hf1_1, hf1_2⟩ := hu1
  cases hv1
  refine zz_world (P' := (RP D C K (upd (upd (upd (upd (upd (upd (upd F 0 (nI 0)) 5 x5_1) 6 (nI (tS (tc (G 3) tn) tn (if (tK (tc (G 3) tn) tn) (sI (tK (tc (G 3) tn) tn) m1_1) = 0 then sI (tK (tc (G 3) tn) tn) m1_1 else (stR (tK (tc (G 3) tn) tn) (sI (tK (tc (G 3) tn) tn) m1_1)).2)))) 7 x7_1) 8 x8_1) 14 (nI m1_1)) 15 x15_1) hs mv (va_up (va_up (va_up (va_up (va_up G 9 g9_1) 10 g10_1) 11 g11_1) 12 g12_1) 13 g13_1))) (fun _ h => h) ?_
  refine zz_topi (bI (decide ((tK (tc (G 3) tn) tn) (sI (tK (tc (G 3) tn) tn) m1_1) = 0))) rfl ?_
  refine zz_topi (bI false) (congrArg bI (decide_eq_false (by rw [okS_eq hf1_0 hf1_1 hok (Or.inr hf)]; exact hne))) ?_
  have hm := okS_eq hf1_0 hf1_1 hok (Or.inr hf)
  refine zz_world (P' := (RP D C K (upd (upd (upd (upd (upd (upd (upd F 0 (nI 0)) 5 x5_1) 6 (nI (tS (tc (G 3) tn) tn (stR (tK (tc (G 3) tn) tn) (sI (tK (tc (G 3) tn) tn) m0)).2))) 7 x7_1) 8 x8_1) 14 (nI m0)) 15 x15_1) hs mv (va_up (va_up (va_up (va_up (va_up G 9 g9_1) 10 g10_1) 11 g11_1) 12 g12_1) 13 g13_1))) (rp_F (by rw [hm, if_neg hne])) ?_
  refine zz_istore_n 9 X.1 (lv' := [(1, .int (bI false)), (0, .ref (K 0))]) dX7_run_9 (by decide) rfl ?_
  refine zz_aload_n 10 X.1 1 dX7_run_10 rfl ?_
  refine zz_iload_n 11 X.1 0 dX7_run_11 rfl ?_
  refine zz_ifB_eq 12 19 X.1 dX7_run_12 (by decide) (fun h12 => ?_) (fun h12 => ?_)
  · skip
    refine zz_aload_n 19 X.1 1 dX7_run_19 rfl ?_
    refine rr_get 20 X 6 (by decide) (v := .int (nI (tS (tc (G 3) tn) tn (stR (tK (tc (G 3) tn) tn) (sI (tK (tc (G 3) tn) tn) m0)).2))) rfl (by decide +kernel) rfl dX7_run_20 ?_
    refine rr_put 23 hAp X 16 (by decide) (F' := upd (upd (upd (upd (upd (upd (upd (upd F 0 (nI 0)) 5 x5_1) 6 (nI (tS (tc (G 3) tn) tn (stR (tK (tc (G 3) tn) tn) (sI (tK (tc (G 3) tn) tn) m0)).2))) 7 x7_1) 8 x8_1) 14 (nI m0)) 15 x15_1) 16 (nI (tS (tc (G 3) tn) tn (stR (tK (tc (G 3) tn) tn) (sI (tK (tc (G 3) tn) tn) m0)).2))) rfl (by decide +kernel) ⟨rfl, rfl⟩ (by decide +kernel) dX7_run_23 ?_
    refine zz_aload_n 26 X.1 1 dX7_run_26 rfl ?_
    refine zz_iconst 27 X.1 (v := (-1)) dX7_run_27 (by decide) ?_
    refine rr_put 28 hAp X 17 (by decide) (F' := upd (upd (upd (upd (upd (upd (upd (upd (upd F 0 (nI 0)) 5 x5_1) 6 (nI (tS (tc (G 3) tn) tn (stR (tK (tc (G 3) tn) tn) (sI (tK (tc (G 3) tn) tn) m0)).2))) 7 x7_1) 8 x8_1) 14 (nI m0)) 15 x15_1) 16 (nI (tS (tc (G 3) tn) tn (stR (tK (tc (G 3) tn) tn) (sI (tK (tc (G 3) tn) tn) m0)).2))) 17 (-1)) rfl (by decide +kernel) ⟨rfl, rfl⟩ (by decide +kernel) dX7_run_28 ?_
    refine zz_aload_n 31 X.1 1 dX7_run_31 rfl ?_
    refine zz_iconst 32 X.1 (v := nI 0) dX7_run_32 rfl ?_
    refine rr_put 33 hAp X 4 (by decide) (F' := upd (upd (upd (upd (upd (upd (upd (upd (upd (upd F 0 (nI 0)) 4 (nI 0)) 5 x5_1) 6 (nI (tS (tc (G 3) tn) tn (stR (tK (tc (G 3) tn) tn) (sI (tK (tc (G 3) tn) tn) m0)).2))) 7 x7_1) 8 x8_1) 14 (nI m0)) 15 x15_1) 16 (nI (tS (tc (G 3) tn) tn (stR (tK (tc (G 3) tn) tn) (sI (tK (tc (G 3) tn) tn) m0)).2))) 17 (-1)) rfl (by decide +kernel) ⟨rfl, rfl⟩ (by decide +kernel) dX7_run_33 ?_
    refine zz_aload_n 36 X.1 1 dX7_run_36 rfl ?_
    refine zz_iload_n 37 X.1 0 dX7_run_37 rfl ?_
    refine zz_iconst 38 X.1 (v := nI 1) dX7_run_38 rfl ?_
    refine rr_callVi 39 X hml (As := [.int (bI false), .int (nI 1)]) (kt_X7_fails l D C K hAp (upd (upd (upd (upd (upd (upd (upd (upd (upd (upd F 0 (nI 0)) 4 (nI 0)) 5 x5_1) 6 (nI (tS (tc (G 3) tn) tn (stR (tK (tc (G 3) tn) tn) (sI (tK (tc (G 3) tn) tn) m0)).2))) 7 x7_1) 8 x8_1) 14 (nI m0)) 15 x15_1) 16 (nI (tS (tc (G 3) tn) tn (stR (tK (tc (G 3) tn) tn) (sI (tK (tc (G 3) tn) tn) m0)).2))) 17 (-1)) hs mv (va_up (va_up (va_up (va_up (va_up G 9 g9_1) 10 g10_1) 11 g11_1) 12 g12_1) 13 g13_1) false 1 (by first | rfl | assumption | omega) (by first | rfl | assumption | omega)) gX7_run_X7_fails rfl ⟨rfl, rfl⟩ yd_X7_fails ⟨Nat.le_of_ble_eq_true rfl, Nat.le_of_ble_eq_true rfl⟩ rfl rfl (Nat.le_of_ble_eq_true rfl) dX7_run_39 ?_
    rintro r2 ⟨F2, hs2, mv2, G2⟩ hu2
    obtain ⟨rfl, hv2⟩ := (hu2.2 (show false = false from rfl))
    cases hv2
    refine zz_world (P' := (RP D C K (upd (upd (upd (upd (upd (upd (upd (upd (upd (upd F 0 (nI 1)) 4 (nI 0)) 5 x5_1) 6 (nI (tS (tc (G 3) tn) tn (stR (tK (tc (G 3) tn) tn) (sI (tK (tc (G 3) tn) tn) m0)).2))) 7 x7_1) 8 x8_1) 14 (nI m0)) 15 x15_1) 16 (nI (tS (tc (G 3) tn) tn (stR (tK (tc (G 3) tn) tn) (sI (tK (tc (G 3) tn) tn) m0)).2))) 17 (-1)) hs mv (va_up (va_up (va_up (va_up (va_up G 9 g9_1) 10 g10_1) 11 g11_1) 12 g12_1) 13 g13_1))) (fun _ h => h) ?_
    refine zz_ifB_eq 42 47 X.1 dX7_run_42 (by decide) (fun h42 => ?_) (fun h42 => ?_)
    · exact absurd h42 (by decide)
    · skip
      refine zz_iconst 45 X.1 (v := nI 0) dX7_run_45 rfl ?_
      rw [← hQ]
      refine zz_iret 46 X.1 hr rfl hlk (upd (upd (upd (upd (upd (upd (upd (upd (upd (upd F 0 (nI 1)) 4 (nI 0)) 5 x5_1) 6 (nI (tS (tc (G 3) tn) tn (stR (tK (tc (G 3) tn) tn) (sI (tK (tc (G 3) tn) tn) m0)).2))) 7 x7_1) 8 x8_1) 14 (nI m0)) 15 x15_1) 16 (nI (tS (tc (G 3) tn) tn (stR (tK (tc (G 3) tn) tn) (sI (tK (tc (G 3) tn) tn) m0)).2))) 17 (-1), hs, mv, va_up (va_up (va_up (va_up (va_up G 9 g9_1) 10 g10_1) 11 g11_1) 12 g12_1) 13 g13_1) ?_ (fun _ h _ => h) dX7_run_46
      exact ⟨x5_1, x7_1, x8_1, x15_1, g9_1, g10_1, g11_1, g12_1, g13_1, rfl, rfl⟩
  · exact absurd h12 (by decide)

set_option maxHeartbeats 4000000 in
set_option maxRecDepth 100000 in
theorem kt_X7_run_ok (l : Launch) (D : va_G) (C : Nat → ClassId) (K : Nat → Nat) (hAp : RAp K) (F : Nat → Int32) (hs mv : Nat → Bool) (G : Nat → Nat → Int32) (m0 : Nat) (k1 : Nat) (tn : Nat) (hT : F 4 = nI tn) (htn : tn ≤ 400) (hB : HB (G 3) tn) (hok : okS (tK (tc (G 3) tn) tn) m0) (hz : (tK (tc (G 3) tn) tn) (sI (tK (tc (G 3) tn) tn) m0) = 0) (hst : stp (tK (tc (G 3) tn) tn) (tV (tc (G 3) tn) tn) m0 k1) (hkm : k1 = m0) : RMi l yX7_run wsX7_run rm_X7_run D C K [] F hs mv G (fun (r : Int32) (u : MSt) => ∃ (x5 : Int32) (x7 : Int32) (x8 : Int32) (x15 : Int32) (g9 : Nat → Int32) (g10 : Nat → Int32) (g11 : Nat → Int32) (g12 : Nat → Int32) (g13 : Nat → Int32), r = (nI m0) ∧ u = (upd (upd (upd (upd (upd (upd (upd (upd (upd (upd F 0 (nI 0)) 4 (nI 0)) 5 x5) 6 (nI (tS (tc (G 3) tn) tn (sI (tK (tc (G 3) tn) tn) m0)))) 7 x7) 8 x8) 14 (nI m0)) 15 x15) 16 (-1)) 17 (-1), hX (tK (tc (G 3) tn) tn) (tV (tc (G 3) tn) tn) hs k1, mv, va_up (va_up (va_up (va_up (va_up G 9 g9) 10 g10) 11 g11) 12 g12) 13 g13)) := by
  refine RMi_of (lv := [(0, .ref (K 0))]) (cc := cX7_run) (maxL := 3) (ret := (some .int)) rfl rfl (by decide +kernel) (Nat.le_of_ble_eq_true rfl) rfl ?_
  intro p e s m args below meth c X hml hr hlk
  generalize hQ : MQ below _ args s 0 0 _ = Q
  refine zz_aload_n 0 X.1 0 dX7_run_0 rfl ?_
  refine zz_iconst 1 X.1 (v := nI 0) dX7_run_1 rfl ?_
  refine rr_put 2 hAp X 0 (by decide) (F' := upd F 0 (nI 0)) rfl (by decide +kernel) ⟨rfl, rfl⟩ (by decide +kernel) dX7_run_2 ?_
  refine zz_aload_n 5 X.1 0 dX7_run_5 rfl ?_
  refine rr_callVi 6 X hml (As := []) (kt_X7_readsAll l D C K hAp (upd F 0 (nI 0)) hs mv G tn (hT) (by first | rfl | assumption | omega) (by first | rfl | assumption | omega)) gX7_run_X7_readsAll rfl ⟨rfl, rfl⟩ yd_X7_readsAll ⟨Nat.le_of_ble_eq_true rfl, Nat.le_of_ble_eq_true rfl⟩ rfl rfl (Nat.le_of_ble_eq_true rfl) dX7_run_6 ?_
  rintro r1 ⟨F1, hs1, mv1, G1⟩ hu1
  obtain ⟨m1_1, g9_1, g10_1, g11_1, g12_1, g13_1, x5_1, x7_1, x8_1, x15_1, rfl, hv1, hf1_0, hf1_1, hf1_2⟩ := hu1
  cases hv1
  refine zz_world (P' := (RP D C K (upd (upd (upd (upd (upd (upd (upd F 0 (nI 0)) 5 x5_1) 6 (nI (tS (tc (G 3) tn) tn (if (tK (tc (G 3) tn) tn) (sI (tK (tc (G 3) tn) tn) m1_1) = 0 then sI (tK (tc (G 3) tn) tn) m1_1 else (stR (tK (tc (G 3) tn) tn) (sI (tK (tc (G 3) tn) tn) m1_1)).2)))) 7 x7_1) 8 x8_1) 14 (nI m1_1)) 15 x15_1) hs mv (va_up (va_up (va_up (va_up (va_up G 9 g9_1) 10 g10_1) 11 g11_1) 12 g12_1) 13 g13_1))) (fun _ h => h) ?_
  refine zz_topi (bI (decide ((tK (tc (G 3) tn) tn) (sI (tK (tc (G 3) tn) tn) m1_1) = 0))) rfl ?_
  refine zz_topi (bI true) (congrArg bI (decide_eq_true (by rw [okS_eq hf1_0 hf1_1 hok (Or.inl hz)]; exact hz))) ?_
  have hm := okS_eq hf1_0 hf1_1 hok (Or.inl hz)
  have hTB := hf1_2 (by rw [hm]; exact hz)
  rw [hm] at hTB
  have hge := sI_ge m0 hok
  have hle := sI_le (fun i hi => tK_lt (i := i) (tc_n (g := G 3) (n := tn)) hi) m0 hok
  refine zz_world (P' := (RP D C K (upd (upd (upd (upd (upd (upd (upd F 0 (nI 0)) 5 x5_1) 6 (nI (tS (tc (G 3) tn) tn (sI (tK (tc (G 3) tn) tn) m0)))) 7 x7_1) 8 x8_1) 14 (nI m0)) 15 x15_1) hs mv (va_up (va_up (va_up (va_up (va_up G 9 g9_1) 10 g10_1) 11 g11_1) 12 g12_1) 13 g13_1))) (rp_F (by rw [hm, if_pos hz])) ?_
  refine zz_istore_n 9 X.1 (lv' := [(1, .int (bI true)), (0, .ref (K 0))]) dX7_run_9 (by decide) rfl ?_
  refine zz_aload_n 10 X.1 1 dX7_run_10 rfl ?_
  refine zz_iload_n 11 X.1 0 dX7_run_11 rfl ?_
  refine zz_ifB_eq 12 19 X.1 dX7_run_12 (by decide) (fun h12 => ?_) (fun h12 => ?_)
  · exact absurd h12 (by decide)
  · skip
    refine zz_iconst 15 X.1 (v := (-1)) dX7_run_15 (by decide) ?_
    refine zz_goto 16 23 X.1 dX7_run_16 (by decide) ?_
    refine rr_put 23 hAp X 16 (by decide) (F' := upd (upd (upd (upd (upd (upd (upd (upd F 0 (nI 0)) 5 x5_1) 6 (nI (tS (tc (G 3) tn) tn (sI (tK (tc (G 3) tn) tn) m0)))) 7 x7_1) 8 x8_1) 14 (nI m0)) 15 x15_1) 16 (-1)) rfl (by decide +kernel) ⟨rfl, rfl⟩ (by decide +kernel) dX7_run_23 ?_
    refine zz_aload_n 26 X.1 1 dX7_run_26 rfl ?_
    refine zz_iconst 27 X.1 (v := (-1)) dX7_run_27 (by decide) ?_
    refine rr_put 28 hAp X 17 (by decide) (F' := upd (upd (upd (upd (upd (upd (upd (upd (upd F 0 (nI 0)) 5 x5_1) 6 (nI (tS (tc (G 3) tn) tn (sI (tK (tc (G 3) tn) tn) m0)))) 7 x7_1) 8 x8_1) 14 (nI m0)) 15 x15_1) 16 (-1)) 17 (-1)) rfl (by decide +kernel) ⟨rfl, rfl⟩ (by decide +kernel) dX7_run_28 ?_
    refine zz_aload_n 31 X.1 1 dX7_run_31 rfl ?_
    refine zz_iconst 32 X.1 (v := nI 0) dX7_run_32 rfl ?_
    refine rr_put 33 hAp X 4 (by decide) (F' := upd (upd (upd (upd (upd (upd (upd (upd (upd (upd F 0 (nI 0)) 4 (nI 0)) 5 x5_1) 6 (nI (tS (tc (G 3) tn) tn (sI (tK (tc (G 3) tn) tn) m0)))) 7 x7_1) 8 x8_1) 14 (nI m0)) 15 x15_1) 16 (-1)) 17 (-1)) rfl (by decide +kernel) ⟨rfl, rfl⟩ (by decide +kernel) dX7_run_33 ?_
    refine zz_aload_n 36 X.1 1 dX7_run_36 rfl ?_
    refine zz_iload_n 37 X.1 0 dX7_run_37 rfl ?_
    refine zz_iconst 38 X.1 (v := nI 1) dX7_run_38 rfl ?_
    refine rr_callVi 39 X hml (As := [.int (bI true), .int (nI 1)]) (kt_X7_fails l D C K hAp (upd (upd (upd (upd (upd (upd (upd (upd (upd (upd F 0 (nI 0)) 4 (nI 0)) 5 x5_1) 6 (nI (tS (tc (G 3) tn) tn (sI (tK (tc (G 3) tn) tn) m0)))) 7 x7_1) 8 x8_1) 14 (nI m0)) 15 x15_1) 16 (-1)) 17 (-1)) hs mv (va_up (va_up (va_up (va_up (va_up G 9 g9_1) 10 g10_1) 11 g11_1) 12 g12_1) 13 g13_1) true 1 (by first | rfl | assumption | omega) (by first | rfl | assumption | omega)) gX7_run_X7_fails rfl ⟨rfl, rfl⟩ yd_X7_fails ⟨Nat.le_of_ble_eq_true rfl, Nat.le_of_ble_eq_true rfl⟩ rfl rfl (Nat.le_of_ble_eq_true rfl) dX7_run_39 ?_
    rintro r2 ⟨F2, hs2, mv2, G2⟩ hu2
    obtain ⟨rfl, hv2⟩ := (hu2.1 (show true = true from rfl))
    cases hv2
    refine zz_world (P' := (RP D C K (upd (upd (upd (upd (upd (upd (upd (upd (upd (upd F 0 (nI 0)) 4 (nI 0)) 5 x5_1) 6 (nI (tS (tc (G 3) tn) tn (sI (tK (tc (G 3) tn) tn) m0)))) 7 x7_1) 8 x8_1) 14 (nI m0)) 15 x15_1) 16 (-1)) 17 (-1)) hs mv (va_up (va_up (va_up (va_up (va_up G 9 g9_1) 10 g10_1) 11 g11_1) 12 g12_1) 13 g13_1))) (fun _ h => h) ?_
    refine zz_ifB_eq 42 47 X.1 dX7_run_42 (by decide) (fun h42 => ?_) (fun h42 => ?_)
    · skip
      refine zz_iconst 47 X.1 (v := nI 0) dX7_run_47 rfl ?_
      refine zz_istore_n 48 X.1 (lv' := [(2, .int (nI 0)), (1, .int (bI true)), (0, .ref (K 0))]) dX7_run_48 (by decide) rfl ?_
      have C49 : ∀ (d : Nat) (k : Nat) (hs1 : Nat → Bool) (hk : k ≤ k1) (hh : hs1 = hX (tK (tc (G 3) tn) tn) (tV (tc (G 3) tn) tn) hs k) (hd : m0 + 1 - k < d), ZZ p l e rm_X7_run s m args below meth c 0 0 Q (zz_A (RAd K) s.heap.size) (RP D C K (upd (upd (upd (upd (upd (upd (upd (upd (upd (upd F 0 (nI 0)) 4 (nI 0)) 5 x5_1) 6 (nI (tS (tc (G 3) tn) tn (sI (tK (tc (G 3) tn) tn) m0)))) 7 x7_1) 8 x8_1) 14 (nI m0)) 15 x15_1) 16 (-1)) 17 (-1)) hs1 mv (va_up (va_up (va_up (va_up (va_up G 9 g9_1) 10 g10_1) 11 g11_1) 12 g12_1) 13 g13_1)) 3 [(0, .ref (K 0)), (2, .int (nI k))] [] 49 := by
        intro d
        induction d with
        | zero => intro k hs1 hk hh hd; exact absurd hd (Nat.not_lt_zero _)
        | succ d ih49 =>
          intro k hs1 hk hh hd
          refine zz_iload_n 49 X.1 1 dX7_run_49 rfl ?_
          refine zz_aload_n 50 X.1 0 dX7_run_50 rfl ?_
          refine rr_get 51 X 14 (by decide) (v := .int (nI m0)) rfl (by decide +kernel) rfl dX7_run_51 ?_
          refine zz_icmp_ge 54 91 X.1 (nI_toInt (by omega)) (nI_toInt (by omega)) dX7_run_54 (by decide) (fun h54 => ?_) (fun h54 => ?_)
          · skip
            refine zz_aload_n 91 X.1 0 dX7_run_91 rfl ?_
            refine rr_get 92 X 14 (by decide) (v := .int (nI m0)) rfl (by decide +kernel) rfl dX7_run_92 ?_
            refine rr_hs (hs' := hX (tK (tc (G 3) tn) tn) (tV (tc (G 3) tn) tn) hs k1) (hh.trans (by rw [show k = k1 by have := hst.1; omega])) ?_
            rw [← hQ]
            refine zz_iret 95 X.1 hr rfl hlk (upd (upd (upd (upd (upd (upd (upd (upd (upd (upd F 0 (nI 0)) 4 (nI 0)) 5 x5_1) 6 (nI (tS (tc (G 3) tn) tn (sI (tK (tc (G 3) tn) tn) m0)))) 7 x7_1) 8 x8_1) 14 (nI m0)) 15 x15_1) 16 (-1)) 17 (-1), hX (tK (tc (G 3) tn) tn) (tV (tc (G 3) tn) tn) hs k1, mv, va_up (va_up (va_up (va_up (va_up G 9 g9_1) 10 g10_1) 11 g11_1) 12 g12_1) 13 g13_1) ?_ (fun _ h _ => h) dX7_run_95
            exact ⟨x5_1, x7_1, x8_1, x15_1, g9_1, g10_1, g11_1, g12_1, g13_1, rfl, rfl⟩
          · skip
            refine zz_aload_n 57 X.1 0 dX7_run_57 rfl ?_
            refine zz_iload_n 58 X.1 1 dX7_run_58 rfl ?_
            refine rr_callVi 59 X hml (As := [.int (nI k)]) (kt_X7_isDone l D C K hAp (upd (upd (upd (upd (upd (upd (upd (upd (upd (upd F 0 (nI 0)) 4 (nI 0)) 5 x5_1) 6 (nI (tS (tc (G 3) tn) tn (sI (tK (tc (G 3) tn) tn) m0)))) 7 x7_1) 8 x8_1) 14 (nI m0)) 15 x15_1) 16 (-1)) 17 (-1)) hs1 mv (va_up (va_up (va_up (va_up (va_up G 9 g9_1) 10 g10_1) 11 g11_1) 12 g12_1) 13 g13_1) (tK (tc (G 3) tn) tn) (tV (tc (G 3) tn) tn) m0 k (hTB) (hok) (by omega) (by omega) (fun j => tV_2) (fun j => tV_3) (by omega)) gX7_run_X7_isDone rfl ⟨rfl, rfl⟩ yd_X7_isDone ⟨Nat.le_of_ble_eq_true rfl, Nat.le_of_ble_eq_true rfl⟩ rfl rfl (Nat.le_of_ble_eq_true rfl) dX7_run_59 ?_
            rintro r3 ⟨F3, hs3, mv3, G3⟩ hu3
            rcases (show (isB (tK (tc (G 3) tn) tn) (tV (tc (G 3) tn) tn) (sC (tK (tc (G 3) tn) tn) k) (sI (tK (tc (G 3) tn) tn) k) = false) ∨ (isB (tK (tc (G 3) tn) tn) (tV (tc (G 3) tn) tn) (sC (tK (tc (G 3) tn) tn) k) (sI (tK (tc (G 3) tn) tn) k) = true) by exact (Bool.eq_false_or_eq_true _).symm) with hc3 | hc3
            · skip
              obtain ⟨rfl, hv3⟩ := (hu3.1 hc3)
              cases hv3
              refine zz_world (P' := (RP D C K (upd (upd (upd (upd (upd (upd (upd (upd (upd (upd F 0 (nI 0)) 4 (nI 0)) 5 x5_1) 6 (nI (tS (tc (G 3) tn) tn (sI (tK (tc (G 3) tn) tn) m0)))) 7 x7_1) 8 x8_1) 14 (nI m0)) 15 x15_1) 16 (-1)) 17 (-1)) (exS (tK (tc (G 3) tn) tn) (tV (tc (G 3) tn) tn) hs1 (sC (tK (tc (G 3) tn) tn) k) (sI (tK (tc (G 3) tn) tn) k)) mv (va_up (va_up (va_up (va_up (va_up G 9 g9_1) 10 g10_1) 11 g11_1) 12 g12_1) 13 g13_1))) (fun _ h => h) ?_
              refine zz_ifB_eq 62 68 X.1 dX7_run_62 (by decide) (fun h62 => ?_) (fun h62 => ?_)
              · exact absurd h62 (by decide)
              · skip
                refine zz_goto 65 85 X.1 dX7_run_65 (by decide) ?_
                refine zz_iinc 85 X.1 1 (v := (nI (k + 1))) (lv' := [(2, .int (nI (k + 1))), (0, .ref (K 0))]) dX7_run_85 rfl (nI_add k 1) (by decide) rfl ?_
                refine zz_goto 88 49 X.1 dX7_run_88 (by decide) ?_
                refine zz_lvs [1, 0] rfl ?_
                exact ih49 (k + 1) (exS (tK (tc (G 3) tn) tn) (tV (tc (G 3) tn) tn) hs1 (sC (tK (tc (G 3) tn) tn) k) (sI (tK (tc (G 3) tn) tn) k)) (by rcases Nat.lt_or_ge k k1 with z | z; exact z; exact absurd (hst.2.2 (by have := hst.1; omega)) (by rw [show k1 = k by omega, hc3]; decide)) (by rw [hh]; rfl) (by omega)
            · skip
              obtain ⟨rfl, hv3⟩ := (hu3.2 hc3)
              cases hv3
              refine zz_world (P' := (RP D C K (upd (upd (upd (upd (upd (upd (upd (upd (upd (upd F 0 (nI 0)) 4 (nI 0)) 5 x5_1) 6 (nI (tS (tc (G 3) tn) tn (sI (tK (tc (G 3) tn) tn) m0)))) 7 x7_1) 8 x8_1) 14 (nI m0)) 15 x15_1) 16 (-1)) 17 (-1)) hs1 mv (va_up (va_up (va_up (va_up (va_up G 9 g9_1) 10 g10_1) 11 g11_1) 12 g12_1) 13 g13_1))) (fun _ h => h) ?_
              refine zz_ifB_eq 62 68 X.1 dX7_run_62 (by decide) (fun h62 => ?_) (fun h62 => ?_)
              · skip
                have hkk : k = k1 := by
                  rcases Nat.lt_or_ge k k1 with z | z
                  · exact absurd (hst.2.1 k z) (by rw [hc3]; decide)
                  · omega
                refine zz_aload_n 68 X.1 0 dX7_run_68 rfl ?_
                refine zz_dup 69 X.1 dX7_run_69 rfl ?_
                refine rr_get 70 X 2 (by decide) (v := .int (F 2)) rfl (by decide +kernel) rfl dX7_run_70 ?_
                refine zz_iconst 73 X.1 (v := nI 1) dX7_run_73 rfl ?_
                refine zz_iadd 74 X.1 (v := ((F 2) + (nI 1))) dX7_run_74 rfl ?_
                refine rr_put 75 hAp X 2 (by decide) (F' := upd (upd (upd (upd (upd (upd (upd (upd (upd (upd (upd F 0 (nI 0)) 2 ((F 2) + (nI 1))) 4 (nI 0)) 5 x5_1) 6 (nI (tS (tc (G 3) tn) tn (sI (tK (tc (G 3) tn) tn) m0)))) 7 x7_1) 8 x8_1) 14 (nI m0)) 15 x15_1) 16 (-1)) 17 (-1)) rfl (by decide +kernel) ⟨rfl, rfl⟩ (by decide +kernel) dX7_run_75 ?_
                refine zz_aload_n 78 X.1 0 dX7_run_78 rfl ?_
                refine zz_iload_n 79 X.1 1 dX7_run_79 rfl ?_
                refine rr_put 80 hAp X 17 (by decide) (F' := upd (upd (upd (upd (upd (upd (upd (upd (upd (upd (upd F 0 (nI 0)) 2 ((F 2) + (nI 1))) 4 (nI 0)) 5 x5_1) 6 (nI (tS (tc (G 3) tn) tn (sI (tK (tc (G 3) tn) tn) m0)))) 7 x7_1) 8 x8_1) 14 (nI m0)) 15 x15_1) 16 (-1)) 17 (nI k)) rfl (by decide +kernel) ⟨rfl, rfl⟩ (by decide +kernel) dX7_run_80 ?_
                refine zz_iload_n 83 X.1 1 dX7_run_83 rfl ?_
                refine rr_hs (hs' := hX (tK (tc (G 3) tn) tn) (tV (tc (G 3) tn) tn) hs k1) (hh.trans (by rw [show k = k1 by omega])) ?_
                rw [← hQ]
                refine zz_iret 84 X.1 hr rfl hlk (upd (upd (upd (upd (upd (upd (upd (upd (upd (upd (upd F 0 (nI 0)) 2 ((F 2) + (nI 1))) 4 (nI 0)) 5 x5_1) 6 (nI (tS (tc (G 3) tn) tn (sI (tK (tc (G 3) tn) tn) m0)))) 7 x7_1) 8 x8_1) 14 (nI m0)) 15 x15_1) 16 (-1)) 17 (nI k), hX (tK (tc (G 3) tn) tn) (tV (tc (G 3) tn) tn) hs k1, mv, va_up (va_up (va_up (va_up (va_up G 9 g9_1) 10 g10_1) 11 g11_1) 12 g12_1) 13 g13_1) ?_ (fun _ h _ => h) dX7_run_84
                exfalso; omega
              · exact absurd h62 (by decide)
      refine zz_lvs [2, 0] rfl ?_
      exact C49 (m0 + 1 - 0 + 1) 0 hs (by omega) (rfl) (Nat.lt_succ_self _)
    · exact absurd h42 (by decide)

set_option maxHeartbeats 4000000 in
set_option maxRecDepth 100000 in
theorem kt_X7_run_stop (l : Launch) (D : va_G) (C : Nat → ClassId) (K : Nat → Nat) (hAp : RAp K) (F : Nat → Int32) (hs mv : Nat → Bool) (G : Nat → Nat → Int32) (m0 : Nat) (k1 : Nat) (tn : Nat) (hT : F 4 = nI tn) (htn : tn ≤ 400) (hB : HB (G 3) tn) (hok : okS (tK (tc (G 3) tn) tn) m0) (hz : (tK (tc (G 3) tn) tn) (sI (tK (tc (G 3) tn) tn) m0) = 0) (hst : stp (tK (tc (G 3) tn) tn) (tV (tc (G 3) tn) tn) m0 k1) (hkm : k1 < m0) : RMi l yX7_run wsX7_run rm_X7_run D C K [] F hs mv G (fun (r : Int32) (u : MSt) => ∃ (x5 : Int32) (x7 : Int32) (x8 : Int32) (x15 : Int32) (g9 : Nat → Int32) (g10 : Nat → Int32) (g11 : Nat → Int32) (g12 : Nat → Int32) (g13 : Nat → Int32), r = (nI k1) ∧ u = (upd (upd (upd (upd (upd (upd (upd (upd (upd (upd (upd F 0 (nI 0)) 2 (F 2 + 1)) 4 (nI 0)) 5 x5) 6 (nI (tS (tc (G 3) tn) tn (sI (tK (tc (G 3) tn) tn) m0)))) 7 x7) 8 x8) 14 (nI m0)) 15 x15) 16 (-1)) 17 (nI k1), hX (tK (tc (G 3) tn) tn) (tV (tc (G 3) tn) tn) hs k1, mv, va_up (va_up (va_up (va_up (va_up G 9 g9) 10 g10) 11 g11) 12 g12) 13 g13)) := by
  refine RMi_of (lv := [(0, .ref (K 0))]) (cc := cX7_run) (maxL := 3) (ret := (some .int)) rfl rfl (by decide +kernel) (Nat.le_of_ble_eq_true rfl) rfl ?_
  intro p e s m args below meth c X hml hr hlk
  generalize hQ : MQ below _ args s 0 0 _ = Q
  refine zz_aload_n 0 X.1 0 dX7_run_0 rfl ?_
  refine zz_iconst 1 X.1 (v := nI 0) dX7_run_1 rfl ?_
  refine rr_put 2 hAp X 0 (by decide) (F' := upd F 0 (nI 0)) rfl (by decide +kernel) ⟨rfl, rfl⟩ (by decide +kernel) dX7_run_2 ?_
  refine zz_aload_n 5 X.1 0 dX7_run_5 rfl ?_
  refine rr_callVi 6 X hml (As := []) (kt_X7_readsAll l D C K hAp (upd F 0 (nI 0)) hs mv G tn (hT) (by first | rfl | assumption | omega) (by first | rfl | assumption | omega)) gX7_run_X7_readsAll rfl ⟨rfl, rfl⟩ yd_X7_readsAll ⟨Nat.le_of_ble_eq_true rfl, Nat.le_of_ble_eq_true rfl⟩ rfl rfl (Nat.le_of_ble_eq_true rfl) dX7_run_6 ?_
  rintro r1 ⟨F1, hs1, mv1, G1⟩ hu1
  obtain ⟨m1_1, g9_1, g10_1, g11_1, g12_1, g13_1, x5_1, x7_1, x8_1, x15_1, rfl, hv1, hf1_0, hf1_1, hf1_2⟩ := hu1
  cases hv1
  refine zz_world (P' := (RP D C K (upd (upd (upd (upd (upd (upd (upd F 0 (nI 0)) 5 x5_1) 6 (nI (tS (tc (G 3) tn) tn (if (tK (tc (G 3) tn) tn) (sI (tK (tc (G 3) tn) tn) m1_1) = 0 then sI (tK (tc (G 3) tn) tn) m1_1 else (stR (tK (tc (G 3) tn) tn) (sI (tK (tc (G 3) tn) tn) m1_1)).2)))) 7 x7_1) 8 x8_1) 14 (nI m1_1)) 15 x15_1) hs mv (va_up (va_up (va_up (va_up (va_up G 9 g9_1) 10 g10_1) 11 g11_1) 12 g12_1) 13 g13_1))) (fun _ h => h) ?_
  refine zz_topi (bI (decide ((tK (tc (G 3) tn) tn) (sI (tK (tc (G 3) tn) tn) m1_1) = 0))) rfl ?_
  refine zz_topi (bI true) (congrArg bI (decide_eq_true (by rw [okS_eq hf1_0 hf1_1 hok (Or.inl hz)]; exact hz))) ?_
  have hm := okS_eq hf1_0 hf1_1 hok (Or.inl hz)
  have hTB := hf1_2 (by rw [hm]; exact hz)
  rw [hm] at hTB
  have hge := sI_ge m0 hok
  have hle := sI_le (fun i hi => tK_lt (i := i) (tc_n (g := G 3) (n := tn)) hi) m0 hok
  refine zz_world (P' := (RP D C K (upd (upd (upd (upd (upd (upd (upd F 0 (nI 0)) 5 x5_1) 6 (nI (tS (tc (G 3) tn) tn (sI (tK (tc (G 3) tn) tn) m0)))) 7 x7_1) 8 x8_1) 14 (nI m0)) 15 x15_1) hs mv (va_up (va_up (va_up (va_up (va_up G 9 g9_1) 10 g10_1) 11 g11_1) 12 g12_1) 13 g13_1))) (rp_F (by rw [hm, if_pos hz])) ?_
  refine zz_istore_n 9 X.1 (lv' := [(1, .int (bI true)), (0, .ref (K 0))]) dX7_run_9 (by decide) rfl ?_
  refine zz_aload_n 10 X.1 1 dX7_run_10 rfl ?_
  refine zz_iload_n 11 X.1 0 dX7_run_11 rfl ?_
  refine zz_ifB_eq 12 19 X.1 dX7_run_12 (by decide) (fun h12 => ?_) (fun h12 => ?_)
  · exact absurd h12 (by decide)
  · skip
    refine zz_iconst 15 X.1 (v := (-1)) dX7_run_15 (by decide) ?_
    refine zz_goto 16 23 X.1 dX7_run_16 (by decide) ?_
    refine rr_put 23 hAp X 16 (by decide) (F' := upd (upd (upd (upd (upd (upd (upd (upd F 0 (nI 0)) 5 x5_1) 6 (nI (tS (tc (G 3) tn) tn (sI (tK (tc (G 3) tn) tn) m0)))) 7 x7_1) 8 x8_1) 14 (nI m0)) 15 x15_1) 16 (-1)) rfl (by decide +kernel) ⟨rfl, rfl⟩ (by decide +kernel) dX7_run_23 ?_
    refine zz_aload_n 26 X.1 1 dX7_run_26 rfl ?_
    refine zz_iconst 27 X.1 (v := (-1)) dX7_run_27 (by decide) ?_
    refine rr_put 28 hAp X 17 (by decide) (F' := upd (upd (upd (upd (upd (upd (upd (upd (upd F 0 (nI 0)) 5 x5_1) 6 (nI (tS (tc (G 3) tn) tn (sI (tK (tc (G 3) tn) tn) m0)))) 7 x7_1) 8 x8_1) 14 (nI m0)) 15 x15_1) 16 (-1)) 17 (-1)) rfl (by decide +kernel) ⟨rfl, rfl⟩ (by decide +kernel) dX7_run_28 ?_
    refine zz_aload_n 31 X.1 1 dX7_run_31 rfl ?_
    refine zz_iconst 32 X.1 (v := nI 0) dX7_run_32 rfl ?_
    refine rr_put 33 hAp X 4 (by decide) (F' := upd (upd (upd (upd (upd (upd (upd (upd (upd (upd F 0 (nI 0)) 4 (nI 0)) 5 x5_1) 6 (nI (tS (tc (G 3) tn) tn (sI (tK (tc (G 3) tn) tn) m0)))) 7 x7_1) 8 x8_1) 14 (nI m0)) 15 x15_1) 16 (-1)) 17 (-1)) rfl (by decide +kernel) ⟨rfl, rfl⟩ (by decide +kernel) dX7_run_33 ?_
    refine zz_aload_n 36 X.1 1 dX7_run_36 rfl ?_
    refine zz_iload_n 37 X.1 0 dX7_run_37 rfl ?_
    refine zz_iconst 38 X.1 (v := nI 1) dX7_run_38 rfl ?_
    refine rr_callVi 39 X hml (As := [.int (bI true), .int (nI 1)]) (kt_X7_fails l D C K hAp (upd (upd (upd (upd (upd (upd (upd (upd (upd (upd F 0 (nI 0)) 4 (nI 0)) 5 x5_1) 6 (nI (tS (tc (G 3) tn) tn (sI (tK (tc (G 3) tn) tn) m0)))) 7 x7_1) 8 x8_1) 14 (nI m0)) 15 x15_1) 16 (-1)) 17 (-1)) hs mv (va_up (va_up (va_up (va_up (va_up G 9 g9_1) 10 g10_1) 11 g11_1) 12 g12_1) 13 g13_1) true 1 (by first | rfl | assumption | omega) (by first | rfl | assumption | omega)) gX7_run_X7_fails rfl ⟨rfl, rfl⟩ yd_X7_fails ⟨Nat.le_of_ble_eq_true rfl, Nat.le_of_ble_eq_true rfl⟩ rfl rfl (Nat.le_of_ble_eq_true rfl) dX7_run_39 ?_
    rintro r2 ⟨F2, hs2, mv2, G2⟩ hu2
    obtain ⟨rfl, hv2⟩ := (hu2.1 (show true = true from rfl))
    cases hv2
    refine zz_world (P' := (RP D C K (upd (upd (upd (upd (upd (upd (upd (upd (upd (upd F 0 (nI 0)) 4 (nI 0)) 5 x5_1) 6 (nI (tS (tc (G 3) tn) tn (sI (tK (tc (G 3) tn) tn) m0)))) 7 x7_1) 8 x8_1) 14 (nI m0)) 15 x15_1) 16 (-1)) 17 (-1)) hs mv (va_up (va_up (va_up (va_up (va_up G 9 g9_1) 10 g10_1) 11 g11_1) 12 g12_1) 13 g13_1))) (fun _ h => h) ?_
    refine zz_ifB_eq 42 47 X.1 dX7_run_42 (by decide) (fun h42 => ?_) (fun h42 => ?_)
    · skip
      refine zz_iconst 47 X.1 (v := nI 0) dX7_run_47 rfl ?_
      refine zz_istore_n 48 X.1 (lv' := [(2, .int (nI 0)), (1, .int (bI true)), (0, .ref (K 0))]) dX7_run_48 (by decide) rfl ?_
      have C49 : ∀ (d : Nat) (k : Nat) (hs1 : Nat → Bool) (hk : k ≤ k1) (hh : hs1 = hX (tK (tc (G 3) tn) tn) (tV (tc (G 3) tn) tn) hs k) (hd : m0 + 1 - k < d), ZZ p l e rm_X7_run s m args below meth c 0 0 Q (zz_A (RAd K) s.heap.size) (RP D C K (upd (upd (upd (upd (upd (upd (upd (upd (upd (upd F 0 (nI 0)) 4 (nI 0)) 5 x5_1) 6 (nI (tS (tc (G 3) tn) tn (sI (tK (tc (G 3) tn) tn) m0)))) 7 x7_1) 8 x8_1) 14 (nI m0)) 15 x15_1) 16 (-1)) 17 (-1)) hs1 mv (va_up (va_up (va_up (va_up (va_up G 9 g9_1) 10 g10_1) 11 g11_1) 12 g12_1) 13 g13_1)) 3 [(0, .ref (K 0)), (2, .int (nI k))] [] 49 := by
        intro d
        induction d with
        | zero => intro k hs1 hk hh hd; exact absurd hd (Nat.not_lt_zero _)
        | succ d ih49 =>
          intro k hs1 hk hh hd
          refine zz_iload_n 49 X.1 1 dX7_run_49 rfl ?_
          refine zz_aload_n 50 X.1 0 dX7_run_50 rfl ?_
          refine rr_get 51 X 14 (by decide) (v := .int (nI m0)) rfl (by decide +kernel) rfl dX7_run_51 ?_
          refine zz_icmp_ge 54 91 X.1 (nI_toInt (by omega)) (nI_toInt (by omega)) dX7_run_54 (by decide) (fun h54 => ?_) (fun h54 => ?_)
          · skip
            refine zz_aload_n 91 X.1 0 dX7_run_91 rfl ?_
            refine rr_get 92 X 14 (by decide) (v := .int (nI m0)) rfl (by decide +kernel) rfl dX7_run_92 ?_
            refine rr_hs (hs' := hX (tK (tc (G 3) tn) tn) (tV (tc (G 3) tn) tn) hs k1) (hh.trans (by rw [show k = k1 by have := hst.1; omega])) ?_
            rw [← hQ]
            refine zz_iret 95 X.1 hr rfl hlk (upd (upd (upd (upd (upd (upd (upd (upd (upd (upd F 0 (nI 0)) 4 (nI 0)) 5 x5_1) 6 (nI (tS (tc (G 3) tn) tn (sI (tK (tc (G 3) tn) tn) m0)))) 7 x7_1) 8 x8_1) 14 (nI m0)) 15 x15_1) 16 (-1)) 17 (-1), hX (tK (tc (G 3) tn) tn) (tV (tc (G 3) tn) tn) hs k1, mv, va_up (va_up (va_up (va_up (va_up G 9 g9_1) 10 g10_1) 11 g11_1) 12 g12_1) 13 g13_1) ?_ (fun _ h _ => h) dX7_run_95
            exfalso
            have := hst.1
            omega
          · skip
            refine zz_aload_n 57 X.1 0 dX7_run_57 rfl ?_
            refine zz_iload_n 58 X.1 1 dX7_run_58 rfl ?_
            refine rr_callVi 59 X hml (As := [.int (nI k)]) (kt_X7_isDone l D C K hAp (upd (upd (upd (upd (upd (upd (upd (upd (upd (upd F 0 (nI 0)) 4 (nI 0)) 5 x5_1) 6 (nI (tS (tc (G 3) tn) tn (sI (tK (tc (G 3) tn) tn) m0)))) 7 x7_1) 8 x8_1) 14 (nI m0)) 15 x15_1) 16 (-1)) 17 (-1)) hs1 mv (va_up (va_up (va_up (va_up (va_up G 9 g9_1) 10 g10_1) 11 g11_1) 12 g12_1) 13 g13_1) (tK (tc (G 3) tn) tn) (tV (tc (G 3) tn) tn) m0 k (hTB) (hok) (by omega) (by omega) (fun j => tV_2) (fun j => tV_3) (by omega)) gX7_run_X7_isDone rfl ⟨rfl, rfl⟩ yd_X7_isDone ⟨Nat.le_of_ble_eq_true rfl, Nat.le_of_ble_eq_true rfl⟩ rfl rfl (Nat.le_of_ble_eq_true rfl) dX7_run_59 ?_
            rintro r3 ⟨F3, hs3, mv3, G3⟩ hu3
            rcases (show (isB (tK (tc (G 3) tn) tn) (tV (tc (G 3) tn) tn) (sC (tK (tc (G 3) tn) tn) k) (sI (tK (tc (G 3) tn) tn) k) = false) ∨ (isB (tK (tc (G 3) tn) tn) (tV (tc (G 3) tn) tn) (sC (tK (tc (G 3) tn) tn) k) (sI (tK (tc (G 3) tn) tn) k) = true) by exact (Bool.eq_false_or_eq_true _).symm) with hc3 | hc3
            · skip
              obtain ⟨rfl, hv3⟩ := (hu3.1 hc3)
              cases hv3
              refine zz_world (P' := (RP D C K (upd (upd (upd (upd (upd (upd (upd (upd (upd (upd F 0 (nI 0)) 4 (nI 0)) 5 x5_1) 6 (nI (tS (tc (G 3) tn) tn (sI (tK (tc (G 3) tn) tn) m0)))) 7 x7_1) 8 x8_1) 14 (nI m0)) 15 x15_1) 16 (-1)) 17 (-1)) (exS (tK (tc (G 3) tn) tn) (tV (tc (G 3) tn) tn) hs1 (sC (tK (tc (G 3) tn) tn) k) (sI (tK (tc (G 3) tn) tn) k)) mv (va_up (va_up (va_up (va_up (va_up G 9 g9_1) 10 g10_1) 11 g11_1) 12 g12_1) 13 g13_1))) (fun _ h => h) ?_
              refine zz_ifB_eq 62 68 X.1 dX7_run_62 (by decide) (fun h62 => ?_) (fun h62 => ?_)
              · exact absurd h62 (by decide)
              · skip
                refine zz_goto 65 85 X.1 dX7_run_65 (by decide) ?_
                refine zz_iinc 85 X.1 1 (v := (nI (k + 1))) (lv' := [(2, .int (nI (k + 1))), (0, .ref (K 0))]) dX7_run_85 rfl (nI_add k 1) (by decide) rfl ?_
                refine zz_goto 88 49 X.1 dX7_run_88 (by decide) ?_
                refine zz_lvs [1, 0] rfl ?_
                exact ih49 (k + 1) (exS (tK (tc (G 3) tn) tn) (tV (tc (G 3) tn) tn) hs1 (sC (tK (tc (G 3) tn) tn) k) (sI (tK (tc (G 3) tn) tn) k)) (by rcases Nat.lt_or_ge k k1 with z | z; exact z; exact absurd (hst.2.2 (by have := hst.1; omega)) (by rw [show k1 = k by omega, hc3]; decide)) (by rw [hh]; rfl) (by omega)
            · skip
              obtain ⟨rfl, hv3⟩ := (hu3.2 hc3)
              cases hv3
              refine zz_world (P' := (RP D C K (upd (upd (upd (upd (upd (upd (upd (upd (upd (upd F 0 (nI 0)) 4 (nI 0)) 5 x5_1) 6 (nI (tS (tc (G 3) tn) tn (sI (tK (tc (G 3) tn) tn) m0)))) 7 x7_1) 8 x8_1) 14 (nI m0)) 15 x15_1) 16 (-1)) 17 (-1)) hs1 mv (va_up (va_up (va_up (va_up (va_up G 9 g9_1) 10 g10_1) 11 g11_1) 12 g12_1) 13 g13_1))) (fun _ h => h) ?_
              refine zz_ifB_eq 62 68 X.1 dX7_run_62 (by decide) (fun h62 => ?_) (fun h62 => ?_)
              · skip
                have hkk : k = k1 := by
                  rcases Nat.lt_or_ge k k1 with z | z
                  · exact absurd (hst.2.1 k z) (by rw [hc3]; decide)
                  · omega
                refine zz_aload_n 68 X.1 0 dX7_run_68 rfl ?_
                refine zz_dup 69 X.1 dX7_run_69 rfl ?_
                refine rr_get 70 X 2 (by decide) (v := .int (F 2)) rfl (by decide +kernel) rfl dX7_run_70 ?_
                refine zz_iconst 73 X.1 (v := nI 1) dX7_run_73 rfl ?_
                refine zz_iadd 74 X.1 (v := ((F 2) + (nI 1))) dX7_run_74 rfl ?_
                refine rr_put 75 hAp X 2 (by decide) (F' := upd (upd (upd (upd (upd (upd (upd (upd (upd (upd (upd F 0 (nI 0)) 2 ((F 2) + (nI 1))) 4 (nI 0)) 5 x5_1) 6 (nI (tS (tc (G 3) tn) tn (sI (tK (tc (G 3) tn) tn) m0)))) 7 x7_1) 8 x8_1) 14 (nI m0)) 15 x15_1) 16 (-1)) 17 (-1)) rfl (by decide +kernel) ⟨rfl, rfl⟩ (by decide +kernel) dX7_run_75 ?_
                refine zz_aload_n 78 X.1 0 dX7_run_78 rfl ?_
                refine zz_iload_n 79 X.1 1 dX7_run_79 rfl ?_
                refine rr_put 80 hAp X 17 (by decide) (F' := upd (upd (upd (upd (upd (upd (upd (upd (upd (upd (upd F 0 (nI 0)) 2 ((F 2) + (nI 1))) 4 (nI 0)) 5 x5_1) 6 (nI (tS (tc (G 3) tn) tn (sI (tK (tc (G 3) tn) tn) m0)))) 7 x7_1) 8 x8_1) 14 (nI m0)) 15 x15_1) 16 (-1)) 17 (nI k)) rfl (by decide +kernel) ⟨rfl, rfl⟩ (by decide +kernel) dX7_run_80 ?_
                refine zz_iload_n 83 X.1 1 dX7_run_83 rfl ?_
                refine rr_hs (hs' := hX (tK (tc (G 3) tn) tn) (tV (tc (G 3) tn) tn) hs k1) (hh.trans (by rw [show k = k1 by omega])) ?_
                rw [← hQ]
                refine zz_iret 84 X.1 hr rfl hlk (upd (upd (upd (upd (upd (upd (upd (upd (upd (upd (upd F 0 (nI 0)) 2 ((F 2) + (nI 1))) 4 (nI 0)) 5 x5_1) 6 (nI (tS (tc (G 3) tn) tn (sI (tK (tc (G 3) tn) tn) m0)))) 7 x7_1) 8 x8_1) 14 (nI m0)) 15 x15_1) 16 (-1)) 17 (nI k), hX (tK (tc (G 3) tn) tn) (tV (tc (G 3) tn) tn) hs k1, mv, va_up (va_up (va_up (va_up (va_up G 9 g9_1) 10 g10_1) 11 g11_1) 12 g12_1) 13 g13_1) ?_ (fun _ h _ => h) dX7_run_84
                have e1 : (nI k) = nI k1 := by rw [hkk]
                rw [e1]
                exact ⟨x5_1, x7_1, x8_1, x15_1, g9_1, g10_1, g11_1, g12_1, g13_1, rfl, rfl⟩
              · exact absurd h62 (by decide)
      refine zz_lvs [2, 0] rfl ?_
      exact C49 (m0 + 1 - 0 + 1) 0 hs (by omega) (rfl) (Nat.lt_succ_self _)
    · exact absurd h42 (by decide)
