/-! The reference's statements, texts. -/

abbrev rm_X7_readsStatement : Room := { frames := 8, cells := 0, slots := 0, locals := 169 }
theorem yd_X7_readsStatement : yX7_readsStatement.cls = RX7 ∧ yX7_readsStatement.cls ≠ "java/lang/invoke/MethodHandle" ∧ yX7_readsStatement.cls ≠ "java/lang/invoke/VarHandle" ∧ (parseMethodDescriptor yX7_readsStatement.desc).map (fun d => d.parameters.length) = some 0 := by decide +kernel
set_option maxHeartbeats 4000000 in
set_option maxRecDepth 100000 in
theorem kt_X7_readsStatement (l : Launch) (D : va_G) (C : Nat → ClassId) (K : Nat → Nat) (hAp : RAp K) (F : Nat → Int32) (hs mv : Nat → Bool) (G : Nat → Nat → Int32) (i0 : Nat) (f7 : Int32) (tn : Nat) (m0 : Nat) (c0 : Nat) (hT : F 4 = nI tn) (htn : tn ≤ 400) (hB : HB (G 3) tn) (h5 : F 5 = nI (rk (tK (tc (G 3) tn) tn (i0)))) (h6 : F 6 = nI (tS (tc (G 3) tn) tn (i0))) (h7 : F 7 = r7 (tc (G 3) tn) tn (tS (tc (G 3) tn) tn (i0)) f7) (h8 : F 8 = nI (tE (tc (G 3) tn) tn (i0))) (h14 : F 14 = nI m0) (hm0 : m0 < 100) (h15 : F 15 = nI c0) (hc2 : 2 * c0 ≤ i0) : RMi l yX7_readsStatement wsX7_readsStatement rm_X7_readsStatement D C K [] F hs mv G (fun (r : Int32) (u : MSt) => ((stR (tK (tc (G 3) tn) tn) i0).1 = true → ∃ (g10 : Nat → Int32) (g11 : Nat → Int32) (g12 : Nat → Int32) (g13 : Nat → Int32) (c1 : Nat) (f8 : Int32), r = (bI true) ∧ u = (upd (upd (upd (upd (upd (upd F 5 (nI (rk (tK (tc (G 3) tn) tn ((stR (tK (tc (G 3) tn) tn) i0).2))))) 6 (nI (tS (tc (G 3) tn) tn ((stR (tK (tc (G 3) tn) tn) i0).2)))) 7 (r7 (tc (G 3) tn) tn (tS (tc (G 3) tn) tn ((stR (tK (tc (G 3) tn) tn) i0).2)) (f8))) 8 (nI (tE (tc (G 3) tn) tn ((stR (tK (tc (G 3) tn) tn) i0).2)))) 14 (nI (m0 + 1))) 15 (nI c1), hs, mv, va_up (va_up (va_up (va_up (va_up G 9 (upd (G 9) m0 (r7 (tc (G 3) tn) tn (tS (tc (G 3) tn) tn i0) f7))) 10 g10) 11 g11) 12 g12) 13 g13) ∧ (∀ k, k ≠ m0 → g10 k = G 10 k ∧ g11 k = G 11 k ∧ g12 k = G 12 k) ∧ (∀ k, k < c0 → g13 k = G 13 k) ∧ g10 m0 = nI (sac (tK (tc (G 3) tn) tn) i0) ∧ g11 m0 = nI (sfi (tK (tc (G 3) tn) tn) (tV (tc (G 3) tn) tn) c0 i0) ∧ ((tK (tc (G 3) tn) tn (i0 + 1) = 43 ∨ tK (tc (G 3) tn) tn (i0 + 1) = 45 ∨ tK (tc (G 3) tn) tn (i0 + 1) = 94) ∨ isL (tK (tc (G 3) tn) tn) i0 = true → g12 m0 = rS (tK (tc (G 3) tn) tn) (tV (tc (G 3) tn) tn) i0) ∧ c1 = c0 + slc (tK (tc (G 3) tn) tn) i0 ∧ (∀ j, j < slc (tK (tc (G 3) tn) tn) i0 → g13 (c0 + j) = nI (tV (tc (G 3) tn) tn (i0 + 3 + 2 * j))) ∧ (r7 (tc (G 3) tn) tn (tS (tc (G 3) tn) tn i0) f7) = nI (tV (tc (G 3) tn) tn i0)) ∧ ((stR (tK (tc (G 3) tn) tn) i0).1 = false → ∃ (g10 : Nat → Int32) (g11 : Nat → Int32) (g12 : Nat → Int32) (g13 : Nat → Int32) (c1 : Nat) (f8 : Int32), r = (bI false) ∧ u = (upd (upd (upd (upd (upd (upd F 5 (nI (rk (tK (tc (G 3) tn) tn ((stR (tK (tc (G 3) tn) tn) i0).2))))) 6 (nI (tS (tc (G 3) tn) tn ((stR (tK (tc (G 3) tn) tn) i0).2)))) 7 (r7 (tc (G 3) tn) tn (tS (tc (G 3) tn) tn ((stR (tK (tc (G 3) tn) tn) i0).2)) (f8))) 8 (nI (tE (tc (G 3) tn) tn ((stR (tK (tc (G 3) tn) tn) i0).2)))) 14 (nI m0)) 15 (nI c1), hs, mv, va_up (va_up (va_up (va_up (va_up G 9 (upd (G 9) m0 (r7 (tc (G 3) tn) tn (tS (tc (G 3) tn) tn i0) f7))) 10 g10) 11 g11) 12 g12) 13 g13))) := by
  refine RMi_of (lv := [(0, .ref (K 0))]) (cc := cX7_readsStatement) (maxL := 1) (ret := (some .boolean)) rfl rfl (by decide +kernel) (Nat.le_of_ble_eq_true rfl) rfl ?_
  intro p e s m args below meth c X hml hr hlk
  generalize hQ : MQ below _ args s 0 0 _ = Q
  refine zz_world (P' := (RP D C K (upd (upd (upd (upd F 5 (nI (rk (tK (tc (G 3) tn) tn (i0))))) 6 (nI (tS (tc (G 3) tn) tn (i0)))) 7 (r7 (tc (G 3) tn) tn (tS (tc (G 3) tn) tn (i0)) (f7))) 8 (nI (tE (tc (G 3) tn) tn (i0)))) hs mv G)) (rp_F (upd4_self h5 h6 h7 h8)) ?_
  have hrk := rk_is (tK (tc (G 3) tn) tn (i0))
  have hkb : tK (tc (G 3) tn) tn (i0) ≤ 126 := kd_le.1
  refine zz_world (P' := (RP D C K (upd (upd (upd (upd (upd F 5 (nI (rk (tK (tc (G 3) tn) tn (i0))))) 6 (nI (tS (tc (G 3) tn) tn (i0)))) 7 (r7 (tc (G 3) tn) tn (tS (tc (G 3) tn) tn (i0)) (f7))) 8 (nI (tE (tc (G 3) tn) tn (i0)))) 14 (nI m0)) hs mv G)) (rp_F (upd_self (f := upd (upd (upd (upd F 5 (nI (rk (tK (tc (G 3) tn) tn (i0))))) 6 (nI (tS (tc (G 3) tn) tn (i0)))) 7 (r7 (tc (G 3) tn) tn (tS (tc (G 3) tn) tn (i0)) (f7))) 8 (nI (tE (tc (G 3) tn) tn (i0)))) (k := 14) (x := nI m0) h14).symm) ?_
  refine zz_world (P' := (RP D C K (upd (upd (upd (upd (upd (upd F 5 (nI (rk (tK (tc (G 3) tn) tn (i0))))) 6 (nI (tS (tc (G 3) tn) tn (i0)))) 7 (r7 (tc (G 3) tn) tn (tS (tc (G 3) tn) tn (i0)) (f7))) 8 (nI (tE (tc (G 3) tn) tn (i0)))) 14 (nI m0)) 15 (nI c0)) hs mv G)) (rp_F (upd_self (f := upd (upd (upd (upd (upd F 5 (nI (rk (tK (tc (G 3) tn) tn (i0))))) 6 (nI (tS (tc (G 3) tn) tn (i0)))) 7 (r7 (tc (G 3) tn) tn (tS (tc (G 3) tn) tn (i0)) (f7))) 8 (nI (tE (tc (G 3) tn) tn (i0)))) 14 (nI m0)) (k := 15) (x := nI c0) h15).symm) ?_
  refine zz_world (P' := (RP D C K (upd (upd (upd (upd (upd (upd F 5 (nI (rk (tK (tc (G 3) tn) tn (i0))))) 6 (nI (tS (tc (G 3) tn) tn (i0)))) 7 (r7 (tc (G 3) tn) tn (tS (tc (G 3) tn) tn (i0)) (f7))) 8 (nI (tE (tc (G 3) tn) tn (i0)))) 14 (nI m0)) 15 (nI c0)) hs mv (va_up G 10 (G 10)))) (rp_G (va_up_id (f := G) (k := 10)).symm) ?_
  refine zz_world (P' := (RP D C K (upd (upd (upd (upd (upd (upd F 5 (nI (rk (tK (tc (G 3) tn) tn (i0))))) 6 (nI (tS (tc (G 3) tn) tn (i0)))) 7 (r7 (tc (G 3) tn) tn (tS (tc (G 3) tn) tn (i0)) (f7))) 8 (nI (tE (tc (G 3) tn) tn (i0)))) 14 (nI m0)) 15 (nI c0)) hs mv (va_up (va_up G 10 (G 10)) 11 (G 11)))) (rp_G (va_up_id (f := va_up G 10 (G 10)) (k := 11)).symm) ?_
  refine zz_world (P' := (RP D C K (upd (upd (upd (upd (upd (upd F 5 (nI (rk (tK (tc (G 3) tn) tn (i0))))) 6 (nI (tS (tc (G 3) tn) tn (i0)))) 7 (r7 (tc (G 3) tn) tn (tS (tc (G 3) tn) tn (i0)) (f7))) 8 (nI (tE (tc (G 3) tn) tn (i0)))) 14 (nI m0)) 15 (nI c0)) hs mv (va_up (va_up (va_up G 10 (G 10)) 11 (G 11)) 12 (G 12)))) (rp_G (va_up_id (f := va_up (va_up G 10 (G 10)) 11 (G 11)) (k := 12)).symm) ?_
  refine zz_world (P' := (RP D C K (upd (upd (upd (upd (upd (upd F 5 (nI (rk (tK (tc (G 3) tn) tn (i0))))) 6 (nI (tS (tc (G 3) tn) tn (i0)))) 7 (r7 (tc (G 3) tn) tn (tS (tc (G 3) tn) tn (i0)) (f7))) 8 (nI (tE (tc (G 3) tn) tn (i0)))) 14 (nI m0)) 15 (nI c0)) hs mv (va_up (va_up (va_up (va_up G 10 (G 10)) 11 (G 11)) 12 (G 12)) 13 (G 13)))) (rp_G (va_up_id (f := va_up (va_up (va_up G 10 (G 10)) 11 (G 11)) 12 (G 12)) (k := 13)).symm) ?_
  refine zz_aload_n 0 X.1 0 dX7_readsStatement_0 rfl ?_
  refine rr_get 1 X 9 (by decide) (v := .ref (K 9)) rfl (by decide +kernel) rfl dX7_readsStatement_1 ?_
  refine zz_aload_n 4 X.1 0 dX7_readsStatement_4 rfl ?_
  refine rr_get 5 X 14 (by decide) (v := .int (nI m0)) rfl (by decide +kernel) rfl dX7_readsStatement_5 ?_
  refine zz_aload_n 8 X.1 0 dX7_readsStatement_8 rfl ?_
  refine rr_get 9 X 7 (by decide) (v := .int (r7 (tc (G 3) tn) tn (tS (tc (G 3) tn) tn (i0)) (f7))) rfl (by decide +kernel) rfl dX7_readsStatement_9 ?_
  refine rr_iast 12 hAp X 3 9 (f := G 9) (G' := va_up (va_up (va_up (va_up (va_up G 9 (upd (G 9) m0 (r7 (tc (G 3) tn) tn (tS (tc (G 3) tn) tn (i0)) (f7)))) 10 (G 10)) 11 (G 11)) 12 (G 12)) 13 (G 13)) rfl rfl (by omega) (by decide) dX7_readsStatement_12 ?_
  refine zz_aload_n 13 X.1 0 dX7_readsStatement_13 rfl ?_
  refine zz_iconst 14 X.1 (v := nI 1) dX7_readsStatement_14 rfl ?_
  refine rr_callVi 15 X hml (As := [.int (nI 1)]) (kt_X7_takes l D C K hAp (upd (upd (upd (upd (upd (upd F 5 (nI (rk (tK (tc (G 3) tn) tn (i0))))) 6 (nI (tS (tc (G 3) tn) tn (i0)))) 7 (r7 (tc (G 3) tn) tn (tS (tc (G 3) tn) tn (i0)) (f7))) 8 (nI (tE (tc (G 3) tn) tn (i0)))) 14 (nI m0)) 15 (nI c0)) hs mv (va_up (va_up (va_up (va_up (va_up G 9 (upd (G 9) m0 (r7 (tc (G 3) tn) tn (tS (tc (G 3) tn) tn (i0)) (f7)))) 10 (G 10)) 11 (G 11)) 12 (G 12)) 13 (G 13)) i0 f7 tn 1 (hT) (by first | rfl | assumption | omega) (by first | rfl | assumption | omega) (by first | rfl | assumption | omega) (by first | rfl | assumption | omega) (by first | rfl | assumption | omega) (by first | rfl | assumption | omega) (by first | rfl | assumption | omega)) gX7_readsStatement_X7_takes rfl ⟨rfl, rfl⟩ yd_X7_takes ⟨Nat.le_of_ble_eq_true rfl, Nat.le_of_ble_eq_true rfl⟩ rfl rfl (Nat.le_of_ble_eq_true rfl) dX7_readsStatement_15 ?_
  rintro r1 ⟨F1, hs1, mv1, G1⟩ hu1
  rcases (show (rk (tK (tc (G 3) tn) tn (i0)) = 1) ∨ (rk (tK (tc (G 3) tn) tn (i0)) ≠ 1) by omega) with hc1 | hc1
  · skip
    obtain ⟨rfl, hv1⟩ := (hu1.1 hc1)
    cases hv1
    refine zz_world (P' := (RP D C K (upd (upd (upd (upd (upd (upd F 5 (nI (rk (tK (tc (G 3) tn) tn (i0 + 1))))) 6 (nI (tS (tc (G 3) tn) tn (i0 + 1)))) 7 (r7 (tc (G 3) tn) tn (tS (tc (G 3) tn) tn (i0 + 1)) (r7 (tc (G 3) tn) tn (tS (tc (G 3) tn) tn i0) f7))) 8 (nI (tE (tc (G 3) tn) tn (i0 + 1)))) 14 (nI m0)) 15 (nI c0)) hs mv (va_up (va_up (va_up (va_up (va_up G 9 (upd (G 9) m0 (r7 (tc (G 3) tn) tn (tS (tc (G 3) tn) tn (i0)) (f7)))) 10 (G 10)) 11 (G 11)) 12 (G 12)) 13 (G 13)))) (fun _ h => h) ?_
    refine zz_ifB_eq 18 37 X.1 dX7_readsStatement_18 (by decide) (fun h18 => ?_) (fun h18 => ?_)
    · exact absurd h18 (by decide)
    · skip
      refine zz_aload_n 21 X.1 0 dX7_readsStatement_21 rfl ?_
      refine rr_callVi 22 X hml (As := []) (kt_X7_readsAction l D C K hAp (upd (upd (upd (upd (upd (upd F 5 (nI (rk (tK (tc (G 3) tn) tn (i0 + 1))))) 6 (nI (tS (tc (G 3) tn) tn (i0 + 1)))) 7 (r7 (tc (G 3) tn) tn (tS (tc (G 3) tn) tn (i0 + 1)) (r7 (tc (G 3) tn) tn (tS (tc (G 3) tn) tn i0) f7))) 8 (nI (tE (tc (G 3) tn) tn (i0 + 1)))) 14 (nI m0)) 15 (nI c0)) hs mv (va_up (va_up (va_up (va_up (va_up G 9 (upd (G 9) m0 (r7 (tc (G 3) tn) tn (tS (tc (G 3) tn) tn (i0)) (f7)))) 10 (G 10)) 11 (G 11)) 12 (G 12)) 13 (G 13)) i0 (r7 (tc (G 3) tn) tn (tS (tc (G 3) tn) tn i0) f7) tn m0 c0 (hT) (by first | rfl | assumption | omega) (by first | rfl | assumption | omega) (by first | rfl | assumption | omega) (by first | rfl | assumption | omega) (by first | rfl | assumption | omega) (by first | rfl | assumption | omega) (rfl) (by first | rfl | assumption | omega) (rfl) (by first | rfl | assumption | omega)) gX7_readsStatement_X7_readsAction rfl ⟨rfl, rfl⟩ yd_X7_readsAction ⟨Nat.le_of_ble_eq_true rfl, Nat.le_of_ble_eq_true rfl⟩ rfl rfl (Nat.le_of_ble_eq_true rfl) dX7_readsStatement_22 ?_
      rintro r2 ⟨F2, hs2, mv2, G2⟩ hu2
      obtain ⟨g10_2, g11_2, g12_2, g13_2, c1_2, f8_2, rfl, hv2, hf2_0, hf2_1, hf2_2⟩ := hu2
      cases hv2
      refine zz_world (P' := (RP D C K (upd (upd (upd (upd (upd (upd F 5 (nI (rk (tK (tc (G 3) tn) tn ((acR (tK (tc (G 3) tn) tn) (i0 + 1)).2))))) 6 (nI (tS (tc (G 3) tn) tn ((acR (tK (tc (G 3) tn) tn) (i0 + 1)).2)))) 7 (r7 (tc (G 3) tn) tn (tS (tc (G 3) tn) tn ((acR (tK (tc (G 3) tn) tn) (i0 + 1)).2)) (f8_2))) 8 (nI (tE (tc (G 3) tn) tn ((acR (tK (tc (G 3) tn) tn) (i0 + 1)).2)))) 14 (nI m0)) 15 (nI c1_2)) hs mv (va_up (va_up (va_up (va_up (va_up G 9 (upd (G 9) m0 (r7 (tc (G 3) tn) tn (tS (tc (G 3) tn) tn (i0)) (f7)))) 10 g10_2) 11 g11_2) 12 g12_2) 13 g13_2))) (fun _ h => h) ?_
      refine zz_topi (bI ((acR (tK (tc (G 3) tn) tn) (i0 + 1)).1)) rfl ?_
      refine zz_ifB_eq 25 37 X.1 dX7_readsStatement_25 (by decide) (fun h25 => ?_) (fun h25 => ?_)
      · skip
        refine zz_iconst 37 X.1 (v := nI 0) dX7_readsStatement_37 rfl ?_
        refine zz_topi (bI false) rfl ?_
        rw [← hQ]
        refine zz_iret 38 X.1 hr (bI_nar _) hlk (upd (upd (upd (upd (upd (upd F 5 (nI (rk (tK (tc (G 3) tn) tn ((acR (tK (tc (G 3) tn) tn) (i0 + 1)).2))))) 6 (nI (tS (tc (G 3) tn) tn ((acR (tK (tc (G 3) tn) tn) (i0 + 1)).2)))) 7 (r7 (tc (G 3) tn) tn (tS (tc (G 3) tn) tn ((acR (tK (tc (G 3) tn) tn) (i0 + 1)).2)) (f8_2))) 8 (nI (tE (tc (G 3) tn) tn ((acR (tK (tc (G 3) tn) tn) (i0 + 1)).2)))) 14 (nI m0)) 15 (nI c1_2), hs, mv, va_up (va_up (va_up (va_up (va_up G 9 (upd (G 9) m0 (r7 (tc (G 3) tn) tn (tS (tc (G 3) tn) tn (i0)) (f7)))) 10 g10_2) 11 g11_2) 12 g12_2) 13 g13_2) ?_ (fun _ h _ => h) dX7_readsStatement_38
        have hS : stR (tK (tc (G 3) tn) tn) i0 = (false, (acR (tK (tc (G 3) tn) tn) (i0 + 1)).2) := by
          unfold stR
          rw [if_neg (show ¬ (tK (tc (G 3) tn) tn) i0 ≠ 2 by omega), if_pos h25]
        rw [hS]
        refine ⟨fun hz => ?_, fun hz => ?_⟩
        · exact Bool.noConfusion hz
        · exact ⟨g10_2, g11_2, g12_2, g13_2, c1_2, f8_2, rfl, rfl⟩
      · skip
        refine zz_aload_n 28 X.1 0 dX7_readsStatement_28 rfl ?_
        refine zz_bipush 29 X.1 (v := nI 59) dX7_readsStatement_29 rfl ?_
        refine rr_callVi 31 X hml (As := [.int (nI 59)]) (kt_X7_takesSign l D C K hAp (upd (upd (upd (upd (upd (upd F 5 (nI (rk (tK (tc (G 3) tn) tn ((acR (tK (tc (G 3) tn) tn) (i0 + 1)).2))))) 6 (nI (tS (tc (G 3) tn) tn ((acR (tK (tc (G 3) tn) tn) (i0 + 1)).2)))) 7 (r7 (tc (G 3) tn) tn (tS (tc (G 3) tn) tn ((acR (tK (tc (G 3) tn) tn) (i0 + 1)).2)) (f8_2))) 8 (nI (tE (tc (G 3) tn) tn ((acR (tK (tc (G 3) tn) tn) (i0 + 1)).2)))) 14 (nI m0)) 15 (nI c1_2)) hs mv (va_up (va_up (va_up (va_up (va_up G 9 (upd (G 9) m0 (r7 (tc (G 3) tn) tn (tS (tc (G 3) tn) tn (i0)) (f7)))) 10 g10_2) 11 g11_2) 12 g12_2) 13 g13_2) ((acR (tK (tc (G 3) tn) tn) (i0 + 1)).2) f8_2 tn 59 (hT) (by first | rfl | assumption | omega) (by first | rfl | assumption | omega) (by first | rfl | assumption | omega) (by first | rfl | assumption | omega) (by first | rfl | assumption | omega) (by first | rfl | assumption | omega) (by first | rfl | assumption | omega)) gX7_readsStatement_X7_takesSign rfl ⟨rfl, rfl⟩ yd_X7_takesSign ⟨Nat.le_of_ble_eq_true rfl, Nat.le_of_ble_eq_true rfl⟩ rfl rfl (Nat.le_of_ble_eq_true rfl) dX7_readsStatement_31 ?_
        rintro r3 ⟨F3, hs3, mv3, G3⟩ hu3
        rcases (show (tK (tc (G 3) tn) tn (((acR (tK (tc (G 3) tn) tn) (i0 + 1)).2)) = 59) ∨ (tK (tc (G 3) tn) tn (((acR (tK (tc (G 3) tn) tn) (i0 + 1)).2)) ≠ 59) by omega) with hc3 | hc3
        · skip
          obtain ⟨rfl, hv3⟩ := (hu3.1 hc3)
          cases hv3
          refine zz_world (P' := (RP D C K (upd (upd (upd (upd (upd (upd F 5 (nI (rk (tK (tc (G 3) tn) tn (((acR (tK (tc (G 3) tn) tn) (i0 + 1)).2) + 1))))) 6 (nI (tS (tc (G 3) tn) tn (((acR (tK (tc (G 3) tn) tn) (i0 + 1)).2) + 1)))) 7 (r7 (tc (G 3) tn) tn (tS (tc (G 3) tn) tn (((acR (tK (tc (G 3) tn) tn) (i0 + 1)).2) + 1)) (r7 (tc (G 3) tn) tn (tS (tc (G 3) tn) tn ((acR (tK (tc (G 3) tn) tn) (i0 + 1)).2)) f8_2))) 8 (nI (tE (tc (G 3) tn) tn (((acR (tK (tc (G 3) tn) tn) (i0 + 1)).2) + 1)))) 14 (nI m0)) 15 (nI c1_2)) hs mv (va_up (va_up (va_up (va_up (va_up G 9 (upd (G 9) m0 (r7 (tc (G 3) tn) tn (tS (tc (G 3) tn) tn (i0)) (f7)))) 10 g10_2) 11 g11_2) 12 g12_2) 13 g13_2))) (fun _ h => h) ?_
          refine zz_ifB_ne 34 39 X.1 dX7_readsStatement_34 (by decide) (fun h34 => ?_) (fun h34 => ?_)
          · skip
            refine zz_aload_n 39 X.1 0 dX7_readsStatement_39 rfl ?_
            refine zz_dup 40 X.1 dX7_readsStatement_40 rfl ?_
            refine rr_get 41 X 14 (by decide) (v := .int (nI m0)) rfl (by decide +kernel) rfl dX7_readsStatement_41 ?_
            refine zz_iconst 44 X.1 (v := nI 1) dX7_readsStatement_44 rfl ?_
            refine zz_iadd 45 X.1 (v := (nI (m0 + 1))) dX7_readsStatement_45 (nI_add _ _) ?_
            refine rr_put 46 hAp X 14 (by decide) (F' := upd (upd (upd (upd (upd (upd F 5 (nI (rk (tK (tc (G 3) tn) tn (((acR (tK (tc (G 3) tn) tn) (i0 + 1)).2) + 1))))) 6 (nI (tS (tc (G 3) tn) tn (((acR (tK (tc (G 3) tn) tn) (i0 + 1)).2) + 1)))) 7 (r7 (tc (G 3) tn) tn (tS (tc (G 3) tn) tn (((acR (tK (tc (G 3) tn) tn) (i0 + 1)).2) + 1)) (r7 (tc (G 3) tn) tn (tS (tc (G 3) tn) tn ((acR (tK (tc (G 3) tn) tn) (i0 + 1)).2)) f8_2))) 8 (nI (tE (tc (G 3) tn) tn (((acR (tK (tc (G 3) tn) tn) (i0 + 1)).2) + 1)))) 14 (nI (m0 + 1))) 15 (nI c1_2)) rfl (by decide +kernel) ⟨rfl, rfl⟩ (by decide +kernel) dX7_readsStatement_46 ?_
            refine zz_iconst 49 X.1 (v := nI 1) dX7_readsStatement_49 rfl ?_
            refine zz_topi (bI true) rfl ?_
            rw [← hQ]
            refine zz_iret 50 X.1 hr (bI_nar _) hlk (upd (upd (upd (upd (upd (upd F 5 (nI (rk (tK (tc (G 3) tn) tn (((acR (tK (tc (G 3) tn) tn) (i0 + 1)).2) + 1))))) 6 (nI (tS (tc (G 3) tn) tn (((acR (tK (tc (G 3) tn) tn) (i0 + 1)).2) + 1)))) 7 (r7 (tc (G 3) tn) tn (tS (tc (G 3) tn) tn (((acR (tK (tc (G 3) tn) tn) (i0 + 1)).2) + 1)) (r7 (tc (G 3) tn) tn (tS (tc (G 3) tn) tn ((acR (tK (tc (G 3) tn) tn) (i0 + 1)).2)) f8_2))) 8 (nI (tE (tc (G 3) tn) tn (((acR (tK (tc (G 3) tn) tn) (i0 + 1)).2) + 1)))) 14 (nI (m0 + 1))) 15 (nI c1_2), hs, mv, va_up (va_up (va_up (va_up (va_up G 9 (upd (G 9) m0 (r7 (tc (G 3) tn) tn (tS (tc (G 3) tn) tn (i0)) (f7)))) 10 g10_2) 11 g11_2) 12 g12_2) 13 g13_2) ?_ (fun _ h _ => h) dX7_readsStatement_50
            have hS : stR (tK (tc (G 3) tn) tn) i0 = (true, ((acR (tK (tc (G 3) tn) tn) (i0 + 1)).2) + 1) := by
              unfold stR
              rw [if_neg (show ¬ (tK (tc (G 3) tn) tn) i0 ≠ 2 by omega), if_neg (by rw [h25]; decide)]
              first | (rw [if_pos (show (tK (tc (G 3) tn) tn) (acR (tK (tc (G 3) tn) tn) (i0 + 1)).2 = 59 by omega)]; done) | (rw [if_neg (show ¬ (tK (tc (G 3) tn) tn) (acR (tK (tc (G 3) tn) tn) (i0 + 1)).2 = 59 by omega)]; done)
            rw [hS]
            refine ⟨fun hz => ?_, fun hz => ?_⟩
            · have hz3 := hf2_2 h25
              exact ⟨g10_2, g11_2, g12_2, g13_2, c1_2, r7 (tc (G 3) tn) tn (tS (tc (G 3) tn) tn ((acR (tK (tc (G 3) tn) tn) (i0 + 1)).2)) f8_2, rfl, rfl, hf2_0, hf2_1, hz3.1, hz3.2.1, hz3.2.2.1, hz3.2.2.2.1, hz3.2.2.2.2, r7_v (Or.inl (show tK (tc (G 3) tn) tn i0 = 2 by omega))⟩
            · exact Bool.noConfusion hz
          · exact absurd h34 (by decide)
        · skip
          obtain ⟨rfl, hv3⟩ := (hu3.2 hc3)
          cases hv3
          refine zz_world (P' := (RP D C K (upd (upd (upd (upd (upd (upd F 5 (nI (rk (tK (tc (G 3) tn) tn (((acR (tK (tc (G 3) tn) tn) (i0 + 1)).2)))))) 6 (nI (tS (tc (G 3) tn) tn (((acR (tK (tc (G 3) tn) tn) (i0 + 1)).2))))) 7 (r7 (tc (G 3) tn) tn (tS (tc (G 3) tn) tn (((acR (tK (tc (G 3) tn) tn) (i0 + 1)).2))) (f8_2))) 8 (nI (tE (tc (G 3) tn) tn (((acR (tK (tc (G 3) tn) tn) (i0 + 1)).2))))) 14 (nI m0)) 15 (nI c1_2)) hs mv (va_up (va_up (va_up (va_up (va_up G 9 (upd (G 9) m0 (r7 (tc (G 3) tn) tn (tS (tc (G 3) tn) tn (i0)) (f7)))) 10 g10_2) 11 g11_2) 12 g12_2) 13 g13_2))) (fun _ h => h) ?_
          refine zz_ifB_ne 34 39 X.1 dX7_readsStatement_34 (by decide) (fun h34 => ?_) (fun h34 => ?_)
          · exact absurd h34 (by decide)
          · skip
            refine zz_iconst 37 X.1 (v := nI 0) dX7_readsStatement_37 rfl ?_
            refine zz_topi (bI false) rfl ?_
            rw [← hQ]
            refine zz_iret 38 X.1 hr (bI_nar _) hlk (upd (upd (upd (upd (upd (upd F 5 (nI (rk (tK (tc (G 3) tn) tn (((acR (tK (tc (G 3) tn) tn) (i0 + 1)).2)))))) 6 (nI (tS (tc (G 3) tn) tn (((acR (tK (tc (G 3) tn) tn) (i0 + 1)).2))))) 7 (r7 (tc (G 3) tn) tn (tS (tc (G 3) tn) tn (((acR (tK (tc (G 3) tn) tn) (i0 + 1)).2))) (f8_2))) 8 (nI (tE (tc (G 3) tn) tn (((acR (tK (tc (G 3) tn) tn) (i0 + 1)).2))))) 14 (nI m0)) 15 (nI c1_2), hs, mv, va_up (va_up (va_up (va_up (va_up G 9 (upd (G 9) m0 (r7 (tc (G 3) tn) tn (tS (tc (G 3) tn) tn (i0)) (f7)))) 10 g10_2) 11 g11_2) 12 g12_2) 13 g13_2) ?_ (fun _ h _ => h) dX7_readsStatement_38
            have hS : stR (tK (tc (G 3) tn) tn) i0 = (false, ((acR (tK (tc (G 3) tn) tn) (i0 + 1)).2)) := by
              unfold stR
              rw [if_neg (show ¬ (tK (tc (G 3) tn) tn) i0 ≠ 2 by omega), if_neg (by rw [h25]; decide)]
              first | (rw [if_pos (show (tK (tc (G 3) tn) tn) (acR (tK (tc (G 3) tn) tn) (i0 + 1)).2 = 59 by omega)]; done) | (rw [if_neg (show ¬ (tK (tc (G 3) tn) tn) (acR (tK (tc (G 3) tn) tn) (i0 + 1)).2 = 59 by omega)]; done)
            rw [hS]
            refine ⟨fun hz => ?_, fun hz => ?_⟩
            · exact Bool.noConfusion hz
            · exact ⟨g10_2, g11_2, g12_2, g13_2, c1_2, f8_2, rfl, rfl⟩
  · skip
    obtain ⟨rfl, hv1⟩ := (hu1.2 hc1)
    cases hv1
    refine zz_world (P' := (RP D C K (upd (upd (upd (upd (upd (upd F 5 (nI (rk (tK (tc (G 3) tn) tn (i0))))) 6 (nI (tS (tc (G 3) tn) tn (i0)))) 7 (r7 (tc (G 3) tn) tn (tS (tc (G 3) tn) tn (i0)) (f7))) 8 (nI (tE (tc (G 3) tn) tn (i0)))) 14 (nI m0)) 15 (nI c0)) hs mv (va_up (va_up (va_up (va_up (va_up G 9 (upd (G 9) m0 (r7 (tc (G 3) tn) tn (tS (tc (G 3) tn) tn (i0)) (f7)))) 10 (G 10)) 11 (G 11)) 12 (G 12)) 13 (G 13)))) (fun _ h => h) ?_
    refine zz_ifB_eq 18 37 X.1 dX7_readsStatement_18 (by decide) (fun h18 => ?_) (fun h18 => ?_)
    · skip
      refine zz_iconst 37 X.1 (v := nI 0) dX7_readsStatement_37 rfl ?_
      refine zz_topi (bI false) rfl ?_
      rw [← hQ]
      refine zz_iret 38 X.1 hr (bI_nar _) hlk (upd (upd (upd (upd (upd (upd F 5 (nI (rk (tK (tc (G 3) tn) tn (i0))))) 6 (nI (tS (tc (G 3) tn) tn (i0)))) 7 (r7 (tc (G 3) tn) tn (tS (tc (G 3) tn) tn (i0)) (f7))) 8 (nI (tE (tc (G 3) tn) tn (i0)))) 14 (nI m0)) 15 (nI c0), hs, mv, va_up (va_up (va_up (va_up (va_up G 9 (upd (G 9) m0 (r7 (tc (G 3) tn) tn (tS (tc (G 3) tn) tn (i0)) (f7)))) 10 (G 10)) 11 (G 11)) 12 (G 12)) 13 (G 13)) ?_ (fun _ h _ => h) dX7_readsStatement_38
      have hS : stR (tK (tc (G 3) tn) tn) i0 = (false, i0) := by
        unfold stR
        rw [if_pos (show (tK (tc (G 3) tn) tn) i0 ≠ 2 by omega)]
      rw [hS]
      refine ⟨fun hz => ?_, fun hz => ?_⟩
      · exact Bool.noConfusion hz
      · exact ⟨G 10, G 11, G 12, G 13, c0, f7, rfl, rfl⟩
    · exact absurd h18 (by decide)

abbrev rm_X7_readsAll : Room := { frames := 9, cells := 0, slots := 0, locals := 189 }
theorem yd_X7_readsAll : yX7_readsAll.cls = RX7 ∧ yX7_readsAll.cls ≠ "java/lang/invoke/MethodHandle" ∧ yX7_readsAll.cls ≠ "java/lang/invoke/VarHandle" ∧ (parseMethodDescriptor yX7_readsAll.desc).map (fun d => d.parameters.length) = some 0 := by decide +kernel
set_option maxHeartbeats 4000000 in
set_option maxRecDepth 100000 in
theorem kt_X7_readsAll (l : Launch) (D : va_G) (C : Nat → ClassId) (K : Nat → Nat) (hAp : RAp K) (F : Nat → Int32) (hs mv : Nat → Bool) (G : Nat → Nat → Int32) (tn : Nat) (hT : F 4 = nI tn) (htn : tn ≤ 400) (hB : HB (G 3) tn) : RMi l yX7_readsAll wsX7_readsAll rm_X7_readsAll D C K [] F hs mv G (fun (r : Int32) (u : MSt) => ∃ (m1 : Nat) (g9 : Nat → Int32) (g10 : Nat → Int32) (g11 : Nat → Int32) (g12 : Nat → Int32) (g13 : Nat → Int32) (x5 : Int32) (x7 : Int32) (x8 : Int32) (x15 : Int32), r = (bI (decide ((tK (tc (G 3) tn) tn) (sI (tK (tc (G 3) tn) tn) m1) = 0))) ∧ u = (upd (upd (upd (upd (upd (upd F 5 x5) 6 (nI (tS (tc (G 3) tn) tn (if (tK (tc (G 3) tn) tn) (sI (tK (tc (G 3) tn) tn) m1) = 0 then sI (tK (tc (G 3) tn) tn) m1 else (stR (tK (tc (G 3) tn) tn) (sI (tK (tc (G 3) tn) tn) m1)).2)))) 7 x7) 8 x8) 14 (nI m1)) 15 x15, hs, mv, va_up (va_up (va_up (va_up (va_up G 9 g9) 10 g10) 11 g11) 12 g12) 13 g13) ∧ okS (tK (tc (G 3) tn) tn) m1 ∧ ((tK (tc (G 3) tn) tn) (sI (tK (tc (G 3) tn) tn) m1) = 0 ∨ (stR (tK (tc (G 3) tn) tn) (sI (tK (tc (G 3) tn) tn) m1)).1 = false) ∧ ((tK (tc (G 3) tn) tn) (sI (tK (tc (G 3) tn) tn) m1) = 0 → TBL (tK (tc (G 3) tn) tn) (tV (tc (G 3) tn) tn) m1 g9 g10 g11 g12 g13)) := by
  refine RMi_of (lv := [(0, .ref (K 0))]) (cc := cX7_readsAll) (maxL := 1) (ret := (some .boolean)) rfl rfl (by decide +kernel) (Nat.le_of_ble_eq_true rfl) rfl ?_
  intro p e s m args below meth c X hml hr hlk
  generalize hQ : MQ below _ args s 0 0 _ = Q
  refine zz_world (P' := (RP D C K F hs mv (va_up G 9 (G 9)))) (rp_G (va_up_id (f := G) (k := 9)).symm) ?_
  refine zz_world (P' := (RP D C K F hs mv (va_up (va_up G 9 (G 9)) 10 (G 10)))) (rp_G (va_up_id (f := va_up G 9 (G 9)) (k := 10)).symm) ?_
  refine zz_world (P' := (RP D C K F hs mv (va_up (va_up (va_up G 9 (G 9)) 10 (G 10)) 11 (G 11)))) (rp_G (va_up_id (f := va_up (va_up G 9 (G 9)) 10 (G 10)) (k := 11)).symm) ?_
  refine zz_world (P' := (RP D C K F hs mv (va_up (va_up (va_up (va_up G 9 (G 9)) 10 (G 10)) 11 (G 11)) 12 (G 12)))) (rp_G (va_up_id (f := va_up (va_up (va_up G 9 (G 9)) 10 (G 10)) 11 (G 11)) (k := 12)).symm) ?_
  refine zz_world (P' := (RP D C K F hs mv (va_up (va_up (va_up (va_up (va_up G 9 (G 9)) 10 (G 10)) 11 (G 11)) 12 (G 12)) 13 (G 13)))) (rp_G (va_up_id (f := va_up (va_up (va_up (va_up G 9 (G 9)) 10 (G 10)) 11 (G 11)) 12 (G 12)) (k := 13)).symm) ?_
  refine zz_aload_n 0 X.1 0 dX7_readsAll_0 rfl ?_
  refine zz_iconst 1 X.1 (v := nI 0) dX7_readsAll_1 rfl ?_
  refine rr_put 2 hAp X 8 (by decide) (F' := upd F 8 (nI 0)) rfl (by decide +kernel) ⟨rfl, rfl⟩ (by decide +kernel) dX7_readsAll_2 ?_
  refine zz_aload_n 5 X.1 0 dX7_readsAll_5 rfl ?_
  refine zz_iconst 6 X.1 (v := nI 0) dX7_readsAll_6 rfl ?_
  refine rr_put 7 hAp X 14 (by decide) (F' := upd (upd F 8 (nI 0)) 14 (nI 0)) rfl (by decide +kernel) ⟨rfl, rfl⟩ (by decide +kernel) dX7_readsAll_7 ?_
  refine zz_aload_n 10 X.1 0 dX7_readsAll_10 rfl ?_
  refine zz_iconst 11 X.1 (v := nI 0) dX7_readsAll_11 rfl ?_
  refine rr_put 12 hAp X 15 (by decide) (F' := upd (upd (upd F 8 (nI 0)) 14 (nI 0)) 15 (nI 0)) rfl (by decide +kernel) ⟨rfl, rfl⟩ (by decide +kernel) dX7_readsAll_12 ?_
  refine zz_aload_n 15 X.1 0 dX7_readsAll_15 rfl ?_
  refine rr_callVv 16 X hml (As := []) (kt_X7_reads_e l D C K hAp (upd (upd (upd F 8 (nI 0)) 14 (nI 0)) 15 (nI 0)) hs mv (va_up (va_up (va_up (va_up (va_up G 9 (G 9)) 10 (G 10)) 11 (G 11)) 12 (G 12)) 13 (G 13)) 0 tn (hT) (by first | rfl | assumption | omega) (by first | rfl | assumption | omega) (rfl) (by first | rfl | assumption | omega)) gX7_readsAll_X7_reads rfl ⟨rfl, rfl⟩ yd_X7_reads ⟨Nat.le_of_ble_eq_true rfl, Nat.le_of_ble_eq_true rfl⟩ rfl rfl (Nat.le_of_ble_eq_true rfl) dX7_readsAll_16 ?_
  rintro ⟨F1, hs1, mv1, G1⟩ hu1
  cases hu1
  refine zz_world (P' := (RP D C K (upd (upd (upd (upd (upd (upd F 5 (nI (rk (kd (tc (G 3) tn) tn (sk (tc (G 3) tn) tn 0))))) 6 (nI (sk (tc (G 3) tn) tn 0))) 7 (r7 (tc (G 3) tn) tn (sk (tc (G 3) tn) tn 0) (F 7))) 8 (nI (sk (tc (G 3) tn) tn 0 + tl (tc (G 3) tn) tn (sk (tc (G 3) tn) tn 0)))) 14 (nI 0)) 15 (nI 0)) hs mv (va_up (va_up (va_up (va_up (va_up G 9 (G 9)) 10 (G 10)) 11 (G 11)) 12 (G 12)) 13 (G 13)))) (fun _ h => h) ?_
  have C19 : ∀ (d : Nat) (m0 : Nat) (f9 : Int32) (a9 : Nat → Int32) (a10 : Nat → Int32) (a11 : Nat → Int32) (a12 : Nat → Int32) (a13 : Nat → Int32) (hok : okS (tK (tc (G 3) tn) tn) m0) (hTB : TBL (tK (tc (G 3) tn) tn) (tV (tc (G 3) tn) tn) m0 a9 a10 a11 a12 a13) (hd : 400 - m0 < d), ZZ p l e rm_X7_readsAll s m args below meth c 0 0 Q (zz_A (RAd K) s.heap.size) (RP D C K (upd (upd (upd (upd (upd (upd F 5 (nI (rk (tK (tc (G 3) tn) tn (sI (tK (tc (G 3) tn) tn) m0))))) 6 (nI (tS (tc (G 3) tn) tn (sI (tK (tc (G 3) tn) tn) m0)))) 7 (r7 (tc (G 3) tn) tn (tS (tc (G 3) tn) tn (sI (tK (tc (G 3) tn) tn) m0)) (f9))) 8 (nI (tE (tc (G 3) tn) tn (sI (tK (tc (G 3) tn) tn) m0)))) 14 (nI m0)) 15 (nI (sC (tK (tc (G 3) tn) tn) m0))) hs mv (va_up (va_up (va_up (va_up (va_up G 9 a9) 10 a10) 11 a11) 12 a12) 13 a13)) 1 [(0, .ref (K 0))] [] 19 := by
    intro d
    induction d with
    | zero => intro m0 f9 a9 a10 a11 a12 a13 hok hTB hd; exact absurd hd (Nat.not_lt_zero _)
    | succ d ih19 =>
      intro m0 f9 a9 a10 a11 a12 a13 hok hTB hd
      have hrk := rk_is (tK (tc (G 3) tn) tn (sI (tK (tc (G 3) tn) tn) m0))
      have hkb : tK (tc (G 3) tn) tn (sI (tK (tc (G 3) tn) tn) m0) ≤ 126 := kd_le.1
      refine zz_aload_n 19 X.1 0 dX7_readsAll_19 rfl ?_
      refine rr_get 20 X 5 (by decide) (v := .int (nI (rk (tK (tc (G 3) tn) tn (sI (tK (tc (G 3) tn) tn) m0))))) rfl (by decide +kernel) rfl dX7_readsAll_20 ?_
      refine zz_if_eq 23 35 X.1 (nI_toInt (by omega)) dX7_readsAll_23 (by decide) (fun h23 => ?_) (fun h23 => ?_)
      · skip
        refine zz_iconst 35 X.1 (v := nI 1) dX7_readsAll_35 rfl ?_
        refine zz_topi (bI true) rfl ?_
        rw [← hQ]
        refine zz_iret 36 X.1 hr (bI_nar _) hlk (upd (upd (upd (upd (upd (upd F 5 (nI (rk (tK (tc (G 3) tn) tn (sI (tK (tc (G 3) tn) tn) m0))))) 6 (nI (tS (tc (G 3) tn) tn (sI (tK (tc (G 3) tn) tn) m0)))) 7 (r7 (tc (G 3) tn) tn (tS (tc (G 3) tn) tn (sI (tK (tc (G 3) tn) tn) m0)) (f9))) 8 (nI (tE (tc (G 3) tn) tn (sI (tK (tc (G 3) tn) tn) m0)))) 14 (nI m0)) 15 (nI (sC (tK (tc (G 3) tn) tn) m0)), hs, mv, va_up (va_up (va_up (va_up (va_up G 9 a9) 10 a10) 11 a11) 12 a12) 13 a13) ?_ (fun _ h _ => h) dX7_readsAll_36
        have hE : (if (tK (tc (G 3) tn) tn) (sI (tK (tc (G 3) tn) tn) m0) = 0 then sI (tK (tc (G 3) tn) tn) m0 else (stR (tK (tc (G 3) tn) tn) (sI (tK (tc (G 3) tn) tn) m0)).2) = sI (tK (tc (G 3) tn) tn) m0 := by
          rw [if_pos (show (tK (tc (G 3) tn) tn) (sI (tK (tc (G 3) tn) tn) m0) = 0 by omega)]
        refine ⟨m0, a9, a10, a11, a12, a13, (nI (rk (tK (tc (G 3) tn) tn (sI (tK (tc (G 3) tn) tn) m0)))), (r7 (tc (G 3) tn) tn (tS (tc (G 3) tn) tn (sI (tK (tc (G 3) tn) tn) m0)) (f9)), (nI (tE (tc (G 3) tn) tn (sI (tK (tc (G 3) tn) tn) m0))), (nI (sC (tK (tc (G 3) tn) tn) m0)), ?_, ?_, hok, ?_, ?_⟩
        · exact congrArg bI (decide_eq_true (show (tK (tc (G 3) tn) tn) (sI (tK (tc (G 3) tn) tn) m0) = 0 by omega)).symm
        · rw [hE]
        · exact Or.inl (show (tK (tc (G 3) tn) tn) (sI (tK (tc (G 3) tn) tn) m0) = 0 by omega)
        · exact fun _ => hTB
      · skip
        have hz0 : (tK (tc (G 3) tn) tn) (sI (tK (tc (G 3) tn) tn) m0) ≠ 0 := by omega
        have hlt := tK_lt (i := sI (tK (tc (G 3) tn) tn) m0) (tc_n (g := G 3) (n := tn)) hz0
        have hge := sI_ge m0 hok
        refine zz_aload_n 26 X.1 0 dX7_readsAll_26 rfl ?_
        refine rr_callVi 27 X hml (As := []) (kt_X7_readsStatement l D C K hAp (upd (upd (upd (upd (upd (upd F 5 (nI (rk (tK (tc (G 3) tn) tn (sI (tK (tc (G 3) tn) tn) m0))))) 6 (nI (tS (tc (G 3) tn) tn (sI (tK (tc (G 3) tn) tn) m0)))) 7 (r7 (tc (G 3) tn) tn (tS (tc (G 3) tn) tn (sI (tK (tc (G 3) tn) tn) m0)) (f9))) 8 (nI (tE (tc (G 3) tn) tn (sI (tK (tc (G 3) tn) tn) m0)))) 14 (nI m0)) 15 (nI (sC (tK (tc (G 3) tn) tn) m0))) hs mv (va_up (va_up (va_up (va_up (va_up G 9 a9) 10 a10) 11 a11) 12 a12) 13 a13) (sI (tK (tc (G 3) tn) tn) m0) f9 tn m0 (sC (tK (tc (G 3) tn) tn) m0) (hT) (by first | rfl | assumption | omega) (by first | rfl | assumption | omega) (by first | rfl | assumption | omega) (by first | rfl | assumption | omega) (by first | rfl | assumption | omega) (by first | rfl | assumption | omega) (rfl) (by first | rfl | assumption | omega) (rfl) (by first | rfl | assumption | omega)) gX7_readsAll_X7_readsStatement rfl ⟨rfl, rfl⟩ yd_X7_readsStatement ⟨Nat.le_of_ble_eq_true rfl, Nat.le_of_ble_eq_true rfl⟩ rfl rfl (Nat.le_of_ble_eq_true rfl) dX7_readsAll_27 ?_
        rintro r2 ⟨F2, hs2, mv2, G2⟩ hu2
        rcases (show ((stR (tK (tc (G 3) tn) tn) (sI (tK (tc (G 3) tn) tn) m0)).1 = true) ∨ ((stR (tK (tc (G 3) tn) tn) (sI (tK (tc (G 3) tn) tn) m0)).1 = false) by exact (zb_tf _)) with hc2 | hc2
        · skip
          obtain ⟨g10_2, g11_2, g12_2, g13_2, c1_2, f8_2, rfl, hv2, hf2_0, hf2_1, hf2_2, hf2_3, hf2_4, hf2_5, hf2_6, hf2_7⟩ := (hu2.1 hc2)
          cases hv2
          refine zz_world (P' := (RP D C K (upd (upd (upd (upd (upd (upd F 5 (nI (rk (tK (tc (G 3) tn) tn ((stR (tK (tc (G 3) tn) tn) (sI (tK (tc (G 3) tn) tn) m0)).2))))) 6 (nI (tS (tc (G 3) tn) tn ((stR (tK (tc (G 3) tn) tn) (sI (tK (tc (G 3) tn) tn) m0)).2)))) 7 (r7 (tc (G 3) tn) tn (tS (tc (G 3) tn) tn ((stR (tK (tc (G 3) tn) tn) (sI (tK (tc (G 3) tn) tn) m0)).2)) (f8_2))) 8 (nI (tE (tc (G 3) tn) tn ((stR (tK (tc (G 3) tn) tn) (sI (tK (tc (G 3) tn) tn) m0)).2)))) 14 (nI (m0 + 1))) 15 (nI c1_2)) hs mv (va_up (va_up (va_up (va_up (va_up G 9 (upd a9 m0 (r7 (tc (G 3) tn) tn (tS (tc (G 3) tn) tn (sI (tK (tc (G 3) tn) tn) m0)) f9))) 10 g10_2) 11 g11_2) 12 g12_2) 13 g13_2))) (fun _ h => h) ?_
          refine zz_world (P' := (RP D C K (upd (upd (upd (upd (upd (upd F 5 (nI (rk (tK (tc (G 3) tn) tn ((stR (tK (tc (G 3) tn) tn) (sI (tK (tc (G 3) tn) tn) m0)).2))))) 6 (nI (tS (tc (G 3) tn) tn ((stR (tK (tc (G 3) tn) tn) (sI (tK (tc (G 3) tn) tn) m0)).2)))) 7 (r7 (tc (G 3) tn) tn (tS (tc (G 3) tn) tn ((stR (tK (tc (G 3) tn) tn) (sI (tK (tc (G 3) tn) tn) m0)).2)) (f8_2))) 8 (nI (tE (tc (G 3) tn) tn ((stR (tK (tc (G 3) tn) tn) (sI (tK (tc (G 3) tn) tn) m0)).2)))) 14 (nI (m0 + 1))) 15 (nI (sC (tK (tc (G 3) tn) tn) (m0 + 1)))) hs mv (va_up (va_up (va_up (va_up (va_up G 9 (upd a9 m0 (r7 (tc (G 3) tn) tn (tS (tc (G 3) tn) tn (sI (tK (tc (G 3) tn) tn) m0)) f9))) 10 g10_2) 11 g11_2) 12 g12_2) 13 g13_2))) (rp_F (by rw [hf2_5]; rfl)) ?_
          refine zz_ifB_ne 30 19 X.1 dX7_readsAll_30 (by decide) (fun h30 => ?_) (fun h30 => ?_)
          · skip
            refine zz_lvs [0] rfl ?_
            exact ih19 (m0 + 1) f8_2 (upd a9 m0 (r7 (tc (G 3) tn) tn (tS (tc (G 3) tn) tn (sI (tK (tc (G 3) tn) tn) m0)) f9)) g10_2 g11_2 g12_2 g13_2 (okS_up hok hz0 hc2) (TBL_up hTB (fun k hk => ⟨upd_ne hk, hf2_0 k hk⟩) hf2_1 ⟨by rw [upd_eq]; exact hf2_7, hf2_2, hf2_3, hf2_4⟩ hf2_6) (by omega)
          · exact absurd h30 (by decide)
        · skip
          obtain ⟨g10_2, g11_2, g12_2, g13_2, c1_2, f8_2, rfl, hv2⟩ := (hu2.2 hc2)
          cases hv2
          refine zz_world (P' := (RP D C K (upd (upd (upd (upd (upd (upd F 5 (nI (rk (tK (tc (G 3) tn) tn ((stR (tK (tc (G 3) tn) tn) (sI (tK (tc (G 3) tn) tn) m0)).2))))) 6 (nI (tS (tc (G 3) tn) tn ((stR (tK (tc (G 3) tn) tn) (sI (tK (tc (G 3) tn) tn) m0)).2)))) 7 (r7 (tc (G 3) tn) tn (tS (tc (G 3) tn) tn ((stR (tK (tc (G 3) tn) tn) (sI (tK (tc (G 3) tn) tn) m0)).2)) (f8_2))) 8 (nI (tE (tc (G 3) tn) tn ((stR (tK (tc (G 3) tn) tn) (sI (tK (tc (G 3) tn) tn) m0)).2)))) 14 (nI m0)) 15 (nI c1_2)) hs mv (va_up (va_up (va_up (va_up (va_up G 9 (upd a9 m0 (r7 (tc (G 3) tn) tn (tS (tc (G 3) tn) tn (sI (tK (tc (G 3) tn) tn) m0)) f9))) 10 g10_2) 11 g11_2) 12 g12_2) 13 g13_2))) (fun _ h => h) ?_
          refine zz_ifB_ne 30 19 X.1 dX7_readsAll_30 (by decide) (fun h30 => ?_) (fun h30 => ?_)
          · exact absurd h30 (by decide)
          · skip
            refine zz_iconst 33 X.1 (v := nI 0) dX7_readsAll_33 rfl ?_
            refine zz_topi (bI false) rfl ?_
            rw [← hQ]
            refine zz_iret 34 X.1 hr (bI_nar _) hlk (upd (upd (upd (upd (upd (upd F 5 (nI (rk (tK (tc (G 3) tn) tn ((stR (tK (tc (G 3) tn) tn) (sI (tK (tc (G 3) tn) tn) m0)).2))))) 6 (nI (tS (tc (G 3) tn) tn ((stR (tK (tc (G 3) tn) tn) (sI (tK (tc (G 3) tn) tn) m0)).2)))) 7 (r7 (tc (G 3) tn) tn (tS (tc (G 3) tn) tn ((stR (tK (tc (G 3) tn) tn) (sI (tK (tc (G 3) tn) tn) m0)).2)) (f8_2))) 8 (nI (tE (tc (G 3) tn) tn ((stR (tK (tc (G 3) tn) tn) (sI (tK (tc (G 3) tn) tn) m0)).2)))) 14 (nI m0)) 15 (nI c1_2), hs, mv, va_up (va_up (va_up (va_up (va_up G 9 (upd a9 m0 (r7 (tc (G 3) tn) tn (tS (tc (G 3) tn) tn (sI (tK (tc (G 3) tn) tn) m0)) f9))) 10 g10_2) 11 g11_2) 12 g12_2) 13 g13_2) ?_ (fun _ h _ => h) dX7_readsAll_34
            have hE : (if (tK (tc (G 3) tn) tn) (sI (tK (tc (G 3) tn) tn) m0) = 0 then sI (tK (tc (G 3) tn) tn) m0 else (stR (tK (tc (G 3) tn) tn) (sI (tK (tc (G 3) tn) tn) m0)).2) = (stR (tK (tc (G 3) tn) tn) (sI (tK (tc (G 3) tn) tn) m0)).2 := by
              rw [if_neg (show ¬ (tK (tc (G 3) tn) tn) (sI (tK (tc (G 3) tn) tn) m0) = 0 by omega)]
            refine ⟨m0, upd a9 m0 (r7 (tc (G 3) tn) tn (tS (tc (G 3) tn) tn (sI (tK (tc (G 3) tn) tn) m0)) f9), g10_2, g11_2, g12_2, g13_2, (nI (rk (tK (tc (G 3) tn) tn ((stR (tK (tc (G 3) tn) tn) (sI (tK (tc (G 3) tn) tn) m0)).2)))), (r7 (tc (G 3) tn) tn (tS (tc (G 3) tn) tn ((stR (tK (tc (G 3) tn) tn) (sI (tK (tc (G 3) tn) tn) m0)).2)) (f8_2)), (nI (tE (tc (G 3) tn) tn ((stR (tK (tc (G 3) tn) tn) (sI (tK (tc (G 3) tn) tn) m0)).2))), (nI c1_2), ?_, ?_, hok, ?_, ?_⟩
            · exact congrArg bI (decide_eq_false (show ¬ (tK (tc (G 3) tn) tn) (sI (tK (tc (G 3) tn) tn) m0) = 0 by omega)).symm
            · rw [hE]
            · exact Or.inr hc2
            · exact fun z => absurd z (show ¬ (tK (tc (G 3) tn) tn) (sI (tK (tc (G 3) tn) tn) m0) = 0 by omega)
  refine zz_lvs [0] rfl ?_
  exact C19 (400 - 0 + 1) 0 (F 7) (G 9) (G 10) (G 11) (G 12) (G 13) (fun k hk => absurd hk (Nat.not_lt_zero _)) (TBL_0) (Nat.lt_succ_self _)
