/-! The reference's actions, statements, texts. -/

abbrev rm_X7_readsAction : Room := { frames := 7, cells := 0, slots := 0, locals := 147 }
theorem yd_X7_readsAction : yX7_readsAction.cls = RX7 ∧ yX7_readsAction.cls ≠ "java/lang/invoke/MethodHandle" ∧ yX7_readsAction.cls ≠ "java/lang/invoke/VarHandle" ∧ (parseMethodDescriptor yX7_readsAction.desc).map (fun d => d.parameters.length) = some 0 := by decide +kernel
set_option maxHeartbeats 4000000 in
set_option maxRecDepth 100000 in
theorem kt_X7_readsAction (l : Launch) (D : va_G) (C : Nat → ClassId) (K : Nat → Nat) (hAp : RAp K) (F : Nat → Int32) (hs mv : Nat → Bool) (G : Nat → Nat → Int32) (i0 : Nat) (f7 : Int32) (tn : Nat) (m0 : Nat) (c0 : Nat) (hT : F 4 = nI tn) (htn : tn ≤ 400) (hB : HB (G 3) tn) (h5 : F 5 = nI (rk (tK (tc (G 3) tn) tn (i0 + 1)))) (h6 : F 6 = nI (tS (tc (G 3) tn) tn (i0 + 1))) (h7 : F 7 = r7 (tc (G 3) tn) tn (tS (tc (G 3) tn) tn (i0 + 1)) f7) (h8 : F 8 = nI (tE (tc (G 3) tn) tn (i0 + 1))) (h14 : F 14 = nI m0) (hm0 : m0 < 100) (h15 : F 15 = nI c0) (hc2 : 2 * c0 ≤ i0) : RMi l yX7_readsAction wsX7_readsAction rm_X7_readsAction D C K [] F hs mv G (fun (r : Int32) (u : MSt) => ∃ (g10 : Nat → Int32) (g11 : Nat → Int32) (g12 : Nat → Int32) (g13 : Nat → Int32) (c1 : Nat) (f8 : Int32), r = (bI ((acR (tK (tc (G 3) tn) tn) (i0 + 1)).1)) ∧ u = (upd (upd (upd (upd (upd F 5 (nI (rk (tK (tc (G 3) tn) tn ((acR (tK (tc (G 3) tn) tn) (i0 + 1)).2))))) 6 (nI (tS (tc (G 3) tn) tn ((acR (tK (tc (G 3) tn) tn) (i0 + 1)).2)))) 7 (r7 (tc (G 3) tn) tn (tS (tc (G 3) tn) tn ((acR (tK (tc (G 3) tn) tn) (i0 + 1)).2)) (f8))) 8 (nI (tE (tc (G 3) tn) tn ((acR (tK (tc (G 3) tn) tn) (i0 + 1)).2)))) 15 (nI c1), hs, mv, va_up (va_up (va_up (va_up G 10 g10) 11 g11) 12 g12) 13 g13) ∧ (∀ k, k ≠ m0 → g10 k = G 10 k ∧ g11 k = G 11 k ∧ g12 k = G 12 k) ∧ (∀ k, k < c0 → g13 k = G 13 k) ∧ ((acR (tK (tc (G 3) tn) tn) (i0 + 1)).1 = true → g10 m0 = nI (sac (tK (tc (G 3) tn) tn) i0) ∧ g11 m0 = nI (sfi (tK (tc (G 3) tn) tn) (tV (tc (G 3) tn) tn) c0 i0) ∧ ((tK (tc (G 3) tn) tn (i0 + 1) = 43 ∨ tK (tc (G 3) tn) tn (i0 + 1) = 45 ∨ tK (tc (G 3) tn) tn (i0 + 1) = 94) ∨ isL (tK (tc (G 3) tn) tn) i0 = true → g12 m0 = rS (tK (tc (G 3) tn) tn) (tV (tc (G 3) tn) tn) i0) ∧ c1 = c0 + slc (tK (tc (G 3) tn) tn) i0 ∧ (∀ j, j < slc (tK (tc (G 3) tn) tn) i0 → g13 (c0 + j) = nI (tV (tc (G 3) tn) tn (i0 + 3 + 2 * j))))) := by
  refine RMi_of (lv := [(0, .ref (K 0))]) (cc := cX7_readsAction) (maxL := 3) (ret := (some .boolean)) rfl rfl (by decide +kernel) (Nat.le_of_ble_eq_true rfl) rfl ?_
  intro p e s m args below meth c X hml hr hlk
  generalize hQ : MQ below _ args s 0 0 _ = Q
  refine zz_world (P' := (RP D C K (upd (upd (upd (upd F 5 (nI (rk (tK (tc (G 3) tn) tn (i0 + 1))))) 6 (nI (tS (tc (G 3) tn) tn (i0 + 1)))) 7 (r7 (tc (G 3) tn) tn (tS (tc (G 3) tn) tn (i0 + 1)) (f7))) 8 (nI (tE (tc (G 3) tn) tn (i0 + 1)))) hs mv G)) (rp_F (upd4_self h5 h6 h7 h8)) ?_
  have hrk := rk_is (tK (tc (G 3) tn) tn (i0 + 1))
  have hkb : tK (tc (G 3) tn) tn (i0 + 1) ≤ 126 := kd_le.1
  refine zz_world (P' := (RP D C K (upd (upd (upd (upd (upd F 5 (nI (rk (tK (tc (G 3) tn) tn (i0 + 1))))) 6 (nI (tS (tc (G 3) tn) tn (i0 + 1)))) 7 (r7 (tc (G 3) tn) tn (tS (tc (G 3) tn) tn (i0 + 1)) (f7))) 8 (nI (tE (tc (G 3) tn) tn (i0 + 1)))) 15 (nI c0)) hs mv G)) (rp_F (upd_self (f := upd (upd (upd (upd F 5 (nI (rk (tK (tc (G 3) tn) tn (i0 + 1))))) 6 (nI (tS (tc (G 3) tn) tn (i0 + 1)))) 7 (r7 (tc (G 3) tn) tn (tS (tc (G 3) tn) tn (i0 + 1)) (f7))) 8 (nI (tE (tc (G 3) tn) tn (i0 + 1)))) (k := 15) (x := nI c0) h15).symm) ?_
  refine zz_world (P' := (RP D C K (upd (upd (upd (upd (upd F 5 (nI (rk (tK (tc (G 3) tn) tn (i0 + 1))))) 6 (nI (tS (tc (G 3) tn) tn (i0 + 1)))) 7 (r7 (tc (G 3) tn) tn (tS (tc (G 3) tn) tn (i0 + 1)) (f7))) 8 (nI (tE (tc (G 3) tn) tn (i0 + 1)))) 15 (nI c0)) hs mv (va_up G 10 (G 10)))) (rp_G (va_up_id (f := G) (k := 10)).symm) ?_
  refine zz_world (P' := (RP D C K (upd (upd (upd (upd (upd F 5 (nI (rk (tK (tc (G 3) tn) tn (i0 + 1))))) 6 (nI (tS (tc (G 3) tn) tn (i0 + 1)))) 7 (r7 (tc (G 3) tn) tn (tS (tc (G 3) tn) tn (i0 + 1)) (f7))) 8 (nI (tE (tc (G 3) tn) tn (i0 + 1)))) 15 (nI c0)) hs mv (va_up (va_up G 10 (G 10)) 11 (G 11)))) (rp_G (va_up_id (f := va_up G 10 (G 10)) (k := 11)).symm) ?_
  refine zz_world (P' := (RP D C K (upd (upd (upd (upd (upd F 5 (nI (rk (tK (tc (G 3) tn) tn (i0 + 1))))) 6 (nI (tS (tc (G 3) tn) tn (i0 + 1)))) 7 (r7 (tc (G 3) tn) tn (tS (tc (G 3) tn) tn (i0 + 1)) (f7))) 8 (nI (tE (tc (G 3) tn) tn (i0 + 1)))) 15 (nI c0)) hs mv (va_up (va_up (va_up G 10 (G 10)) 11 (G 11)) 12 (G 12)))) (rp_G (va_up_id (f := va_up (va_up G 10 (G 10)) 11 (G 11)) (k := 12)).symm) ?_
  refine zz_world (P' := (RP D C K (upd (upd (upd (upd (upd F 5 (nI (rk (tK (tc (G 3) tn) tn (i0 + 1))))) 6 (nI (tS (tc (G 3) tn) tn (i0 + 1)))) 7 (r7 (tc (G 3) tn) tn (tS (tc (G 3) tn) tn (i0 + 1)) (f7))) 8 (nI (tE (tc (G 3) tn) tn (i0 + 1)))) 15 (nI c0)) hs mv (va_up (va_up (va_up (va_up G 10 (G 10)) 11 (G 11)) 12 (G 12)) 13 (G 13)))) (rp_G (va_up_id (f := va_up (va_up (va_up G 10 (G 10)) 11 (G 11)) 12 (G 12)) (k := 13)).symm) ?_
  refine zz_aload_n 0 X.1 0 dX7_readsAction_0 rfl ?_
  refine rr_get 1 X 5 (by decide) (v := .int (nI (rk (tK (tc (G 3) tn) tn (i0 + 1))))) rfl (by decide +kernel) rfl dX7_readsAction_1 ?_
  refine zz_iconst 4 X.1 (v := nI 3) dX7_readsAction_4 rfl ?_
  refine zz_icmp_eq 5 10 X.1 (nI_toInt (by omega)) (nI_toInt (by omega)) dX7_readsAction_5 (by decide) (fun h5 => ?_) (fun h5 => ?_)
  · skip
    obtain ⟨kk, hkk⟩ : ∃ kk, kk = tK (tc (G 3) tn) tn (i0 + 1) := ⟨_, rfl⟩
    refine zz_aload_n 10 X.1 0 dX7_readsAction_10 rfl ?_
    refine rr_get 11 X 7 (by decide) (v := .int (r7 (tc (G 3) tn) tn (tS (tc (G 3) tn) tn (i0 + 1)) (f7))) rfl (by decide +kernel) rfl dX7_readsAction_11 ?_
    refine zz_topi (nI kk) ((r7_s (show 5 ≤ tK (tc (G 3) tn) tn (i0 + 1) by omega)).trans (congrArg nI hkk.symm)) ?_
    refine zz_istore_n 14 X.1 (lv' := [(1, .int (nI kk)), (0, .ref (K 0))]) dX7_readsAction_14 (by decide) rfl ?_
    refine zz_aload_n 15 X.1 1 dX7_readsAction_15 rfl ?_
    refine rr_get 16 X 10 (by decide) (v := .ref (K 10)) rfl (by decide +kernel) rfl dX7_readsAction_16 ?_
    refine zz_aload_n 19 X.1 1 dX7_readsAction_19 rfl ?_
    refine rr_get 20 X 14 (by decide) (v := .int (F 14)) rfl (by decide +kernel) rfl dX7_readsAction_20 ?_
    refine zz_topi (nI m0) (h14) ?_
    refine zz_iload_n 23 X.1 0 dX7_readsAction_23 rfl ?_
    refine rr_iast 24 hAp X 4 10 (f := G 10) (G' := va_up (va_up (va_up (va_up G 10 (upd (G 10) m0 (nI kk))) 11 (G 11)) 12 (G 12)) 13 (G 13)) rfl rfl (by omega) (by decide) dX7_readsAction_24 ?_
    refine zz_iload_n 25 X.1 0 dX7_readsAction_25 rfl ?_
    refine zz_bipush 26 X.1 (v := nI 43) dX7_readsAction_26 rfl ?_
    refine zz_icmp_eq 28 73 X.1 (nI_toInt (by omega)) (nI_toInt (by omega)) dX7_readsAction_28 (by decide) (fun h28 => ?_) (fun h28 => ?_)
    · skip
      refine zz_iconst 73 X.1 (v := nI 1) dX7_readsAction_73 rfl ?_
      refine zz_goto 74 78 X.1 dX7_readsAction_74 (by decide) ?_
      refine zz_istore_n 78 X.1 (lv' := [(2, .int (nI 1)), (1, .int (nI kk)), (0, .ref (K 0))]) dX7_readsAction_78 (by decide) rfl ?_
      refine zz_iload_n 79 X.1 0 dX7_readsAction_79 rfl ?_
      refine zz_if_ne 80 85 X.1 (nI_toInt (by omega)) dX7_readsAction_80 (by decide) (fun h80 => ?_) (fun h80 => ?_)
      · skip
        have C85 : ∀  (hkO : kk = 43 ∨ kk = 45 ∨ kk = 94 ∨ kk = 38 ∨ kk = 124 ∨ kk = 126 ∨ kk = 33 ∨ kk = 61), ZZ p l e rm_X7_readsAction s m args below meth c 0 0 Q (zz_A (RAd K) s.heap.size) (RP D C K (upd (upd (upd (upd (upd F 5 (nI (rk (tK (tc (G 3) tn) tn (i0 + 1))))) 6 (nI (tS (tc (G 3) tn) tn (i0 + 1)))) 7 (r7 (tc (G 3) tn) tn (tS (tc (G 3) tn) tn (i0 + 1)) (f7))) 8 (nI (tE (tc (G 3) tn) tn (i0 + 1)))) 15 (nI c0)) hs mv (va_up (va_up (va_up (va_up G 10 (upd (G 10) m0 (nI kk))) 11 (G 11)) 12 (G 12)) 13 (G 13))) 3 [(0, .ref (K 0)), (1, .int (nI kk))] [] 85 := by
          intro hkO
          refine zz_aload_n 85 X.1 0 dX7_readsAction_85 rfl ?_
          refine rr_callVv 86 X hml (As := []) (kt_X7_reads l D C K hAp (upd (upd (upd (upd (upd F 5 (nI (rk (tK (tc (G 3) tn) tn (i0 + 1))))) 6 (nI (tS (tc (G 3) tn) tn (i0 + 1)))) 7 (r7 (tc (G 3) tn) tn (tS (tc (G 3) tn) tn (i0 + 1)) (f7))) 8 (nI (tE (tc (G 3) tn) tn (i0 + 1)))) 15 (nI c0)) hs mv (va_up (va_up (va_up (va_up G 10 (upd (G 10) m0 (nI kk))) 11 (G 11)) 12 (G 12)) 13 (G 13)) (i0 + 1) tn (hT) (by first | rfl | assumption | omega) (by first | rfl | assumption | omega) (by first | rfl | assumption | omega)) gX7_readsAction_X7_reads rfl ⟨rfl, rfl⟩ yd_X7_reads ⟨Nat.le_of_ble_eq_true rfl, Nat.le_of_ble_eq_true rfl⟩ rfl rfl (Nat.le_of_ble_eq_true rfl) dX7_readsAction_86 ?_
          rintro ⟨F1, hs1, mv1, G1⟩ hu1
          cases hu1
          refine zz_world (P' := (RP D C K (upd (upd (upd (upd (upd F 5 (nI (rk (tK (tc (G 3) tn) tn ((i0 + 1) + 1))))) 6 (nI (tS (tc (G 3) tn) tn ((i0 + 1) + 1)))) 7 (r7 (tc (G 3) tn) tn (tS (tc (G 3) tn) tn ((i0 + 1) + 1)) (r7 (tc (G 3) tn) tn (tS (tc (G 3) tn) tn (i0 + 1)) (f7)))) 8 (nI (tE (tc (G 3) tn) tn ((i0 + 1) + 1)))) 15 (nI c0)) hs mv (va_up (va_up (va_up (va_up G 10 (upd (G 10) m0 (nI kk))) 11 (G 11)) 12 (G 12)) 13 (G 13)))) (fun _ h => h) ?_
          have hrk2 := rk_is (tK (tc (G 3) tn) tn (i0 + 1 + 1))
          refine zz_iload_n 89 X.1 1 dX7_readsAction_89 rfl ?_
          refine zz_bipush 90 X.1 (v := nI 43) dX7_readsAction_90 rfl ?_
          refine zz_icmp_eq 92 107 X.1 (nI_toInt (by omega)) (nI_toInt (by omega)) dX7_readsAction_92 (by decide) (fun h92 => ?_) (fun h92 => ?_)
          · skip
            refine zz_aload_n 107 X.1 0 dX7_readsAction_107 rfl ?_
            refine rr_callVi 108 X hml (As := []) (kt_X7_readsRange l D C K hAp (upd (upd (upd (upd (upd F 5 (nI (rk (tK (tc (G 3) tn) tn ((i0 + 1) + 1))))) 6 (nI (tS (tc (G 3) tn) tn ((i0 + 1) + 1)))) 7 (r7 (tc (G 3) tn) tn (tS (tc (G 3) tn) tn ((i0 + 1) + 1)) (r7 (tc (G 3) tn) tn (tS (tc (G 3) tn) tn (i0 + 1)) (f7)))) 8 (nI (tE (tc (G 3) tn) tn ((i0 + 1) + 1)))) 15 (nI c0)) hs mv (va_up (va_up (va_up (va_up G 10 (upd (G 10) m0 (nI kk))) 11 (G 11)) 12 (G 12)) 13 (G 13)) ((i0 + 1) + 1) (r7 (tc (G 3) tn) tn (tS (tc (G 3) tn) tn (i0 + 1)) (f7)) tn m0 (hT) (by first | rfl | assumption | omega) (by first | rfl | assumption | omega) (by first | rfl | assumption | omega) (by first | rfl | assumption | omega) (by first | rfl | assumption | omega) (by first | rfl | assumption | omega) (h14) (by first | rfl | assumption | omega)) gX7_readsAction_X7_readsRange rfl ⟨rfl, rfl⟩ yd_X7_readsRange ⟨Nat.le_of_ble_eq_true rfl, Nat.le_of_ble_eq_true rfl⟩ rfl rfl (Nat.le_of_ble_eq_true rfl) dX7_readsAction_108 ?_
            rintro r2 ⟨F2, hs2, mv2, G2⟩ hu2
            obtain ⟨g11_2, g12_2, f8_2, rfl, hv2, hf2_0, hf2_1⟩ := hu2
            cases hv2
            refine zz_world (P' := (RP D C K (upd (upd (upd (upd (upd F 5 (nI (rk (tK (tc (G 3) tn) tn ((rgR (tK (tc (G 3) tn) tn) ((i0 + 1) + 1)).2))))) 6 (nI (tS (tc (G 3) tn) tn ((rgR (tK (tc (G 3) tn) tn) ((i0 + 1) + 1)).2)))) 7 (r7 (tc (G 3) tn) tn (tS (tc (G 3) tn) tn ((rgR (tK (tc (G 3) tn) tn) ((i0 + 1) + 1)).2)) (f8_2))) 8 (nI (tE (tc (G 3) tn) tn ((rgR (tK (tc (G 3) tn) tn) ((i0 + 1) + 1)).2)))) 15 (nI c0)) hs mv (va_up (va_up (va_up (va_up G 10 (upd (G 10) m0 (nI kk))) 11 g11_2) 12 g12_2) 13 (G 13)))) (fun _ h => h) ?_
            rw [← hQ]
            refine zz_iret 111 X.1 hr (bI_nar _) hlk (upd (upd (upd (upd (upd F 5 (nI (rk (tK (tc (G 3) tn) tn ((rgR (tK (tc (G 3) tn) tn) ((i0 + 1) + 1)).2))))) 6 (nI (tS (tc (G 3) tn) tn ((rgR (tK (tc (G 3) tn) tn) ((i0 + 1) + 1)).2)))) 7 (r7 (tc (G 3) tn) tn (tS (tc (G 3) tn) tn ((rgR (tK (tc (G 3) tn) tn) ((i0 + 1) + 1)).2)) (f8_2))) 8 (nI (tE (tc (G 3) tn) tn ((rgR (tK (tc (G 3) tn) tn) ((i0 + 1) + 1)).2)))) 15 (nI c0), hs, mv, va_up (va_up (va_up (va_up G 10 (upd (G 10) m0 (nI kk))) 11 g11_2) 12 g12_2) 13 (G 13)) ?_ (fun _ h _ => h) dX7_readsAction_111
            have hA : acR (tK (tc (G 3) tn) tn) (i0 + 1) = rgR (tK (tc (G 3) tn) tn) (i0 + 1 + 1) := if_pos (show (tK (tc (G 3) tn) tn) (i0 + 1) = 43 ∨ (tK (tc (G 3) tn) tn) (i0 + 1) = 45 ∨ (tK (tc (G 3) tn) tn) (i0 + 1) = 94 by omega)
            have hL : isL (tK (tc (G 3) tn) tn) i0 = false := isL_f (fun z => by have h0 : tK (tc (G 3) tn) tn (i0 + 1) = 61 := z.1; omega)
            rw [hA]
            refine ⟨upd (G 10) m0 (nI kk), g11_2, g12_2, G 13, c0, f8_2, rfl, rfl, fun k hk => ⟨?_, ?_, ?_⟩, fun k hk => ?_, fun hz => ?_⟩
            · first | rfl | exact upd_ne hk
            · exact (hf2_0 k hk).1
            · exact (hf2_0 k hk).2
            · rfl
            · have hz2 := hf2_1 hz
              refine ⟨?_, ?_, fun _ => ?_, ?_, fun j hj => ?_⟩
              · rw [upd_eq, hkk]; unfold sac; rw [hL]; rfl
              · rw [hz2.1]; unfold sfi; rw [hL]; rfl
              · rw [hz2.2]; unfold rS; rw [hL]; rfl
              · unfold slc; rw [hL]; rfl
              · unfold slc at hj; rw [hL] at hj; exact absurd hj (Nat.not_lt_zero _)
          · exfalso; omega
        refine zz_lvs [2, 1] rfl ?_
        exact C85  (by omega)
      · exfalso; omega
    · skip
      refine zz_iload_n 31 X.1 0 dX7_readsAction_31 rfl ?_
      refine zz_bipush 32 X.1 (v := nI 45) dX7_readsAction_32 rfl ?_
      refine zz_icmp_eq 34 73 X.1 (nI_toInt (by omega)) (nI_toInt (by omega)) dX7_readsAction_34 (by decide) (fun h34 => ?_) (fun h34 => ?_)
      · skip
        refine zz_iconst 73 X.1 (v := nI 1) dX7_readsAction_73 rfl ?_
        refine zz_goto 74 78 X.1 dX7_readsAction_74 (by decide) ?_
        refine zz_istore_n 78 X.1 (lv' := [(2, .int (nI 1)), (1, .int (nI kk)), (0, .ref (K 0))]) dX7_readsAction_78 (by decide) rfl ?_
        refine zz_iload_n 79 X.1 0 dX7_readsAction_79 rfl ?_
        refine zz_if_ne 80 85 X.1 (nI_toInt (by omega)) dX7_readsAction_80 (by decide) (fun h80 => ?_) (fun h80 => ?_)
        · skip
          have C85 : ∀  (hkO : kk = 43 ∨ kk = 45 ∨ kk = 94 ∨ kk = 38 ∨ kk = 124 ∨ kk = 126 ∨ kk = 33 ∨ kk = 61), ZZ p l e rm_X7_readsAction s m args below meth c 0 0 Q (zz_A (RAd K) s.heap.size) (RP D C K (upd (upd (upd (upd (upd F 5 (nI (rk (tK (tc (G 3) tn) tn (i0 + 1))))) 6 (nI (tS (tc (G 3) tn) tn (i0 + 1)))) 7 (r7 (tc (G 3) tn) tn (tS (tc (G 3) tn) tn (i0 + 1)) (f7))) 8 (nI (tE (tc (G 3) tn) tn (i0 + 1)))) 15 (nI c0)) hs mv (va_up (va_up (va_up (va_up G 10 (upd (G 10) m0 (nI kk))) 11 (G 11)) 12 (G 12)) 13 (G 13))) 3 [(0, .ref (K 0)), (1, .int (nI kk))] [] 85 := by
            intro hkO
            refine zz_aload_n 85 X.1 0 dX7_readsAction_85 rfl ?_
            refine rr_callVv 86 X hml (As := []) (kt_X7_reads l D C K hAp (upd (upd (upd (upd (upd F 5 (nI (rk (tK (tc (G 3) tn) tn (i0 + 1))))) 6 (nI (tS (tc (G 3) tn) tn (i0 + 1)))) 7 (r7 (tc (G 3) tn) tn (tS (tc (G 3) tn) tn (i0 + 1)) (f7))) 8 (nI (tE (tc (G 3) tn) tn (i0 + 1)))) 15 (nI c0)) hs mv (va_up (va_up (va_up (va_up G 10 (upd (G 10) m0 (nI kk))) 11 (G 11)) 12 (G 12)) 13 (G 13)) (i0 + 1) tn (hT) (by first | rfl | assumption | omega) (by first | rfl | assumption | omega) (by first | rfl | assumption | omega)) gX7_readsAction_X7_reads rfl ⟨rfl, rfl⟩ yd_X7_reads ⟨Nat.le_of_ble_eq_true rfl, Nat.le_of_ble_eq_true rfl⟩ rfl rfl (Nat.le_of_ble_eq_true rfl) dX7_readsAction_86 ?_
            rintro ⟨F3, hs3, mv3, G3⟩ hu3
            cases hu3
            refine zz_world (P' := (RP D C K (upd (upd (upd (upd (upd F 5 (nI (rk (tK (tc (G 3) tn) tn ((i0 + 1) + 1))))) 6 (nI (tS (tc (G 3) tn) tn ((i0 + 1) + 1)))) 7 (r7 (tc (G 3) tn) tn (tS (tc (G 3) tn) tn ((i0 + 1) + 1)) (r7 (tc (G 3) tn) tn (tS (tc (G 3) tn) tn (i0 + 1)) (f7)))) 8 (nI (tE (tc (G 3) tn) tn ((i0 + 1) + 1)))) 15 (nI c0)) hs mv (va_up (va_up (va_up (va_up G 10 (upd (G 10) m0 (nI kk))) 11 (G 11)) 12 (G 12)) 13 (G 13)))) (fun _ h => h) ?_
            have hrk2 := rk_is (tK (tc (G 3) tn) tn (i0 + 1 + 1))
            refine zz_iload_n 89 X.1 1 dX7_readsAction_89 rfl ?_
            refine zz_bipush 90 X.1 (v := nI 43) dX7_readsAction_90 rfl ?_
            refine zz_icmp_eq 92 107 X.1 (nI_toInt (by omega)) (nI_toInt (by omega)) dX7_readsAction_92 (by decide) (fun h92 => ?_) (fun h92 => ?_)
            · exfalso; omega
            · skip
              refine zz_iload_n 95 X.1 1 dX7_readsAction_95 rfl ?_
              refine zz_bipush 96 X.1 (v := nI 45) dX7_readsAction_96 rfl ?_
              refine zz_icmp_eq 98 107 X.1 (nI_toInt (by omega)) (nI_toInt (by omega)) dX7_readsAction_98 (by decide) (fun h98 => ?_) (fun h98 => ?_)
              · skip
                refine zz_aload_n 107 X.1 0 dX7_readsAction_107 rfl ?_
                refine rr_callVi 108 X hml (As := []) (kt_X7_readsRange l D C K hAp (upd (upd (upd (upd (upd F 5 (nI (rk (tK (tc (G 3) tn) tn ((i0 + 1) + 1))))) 6 (nI (tS (tc (G 3) tn) tn ((i0 + 1) + 1)))) 7 (r7 (tc (G 3) tn) tn (tS (tc (G 3) tn) tn ((i0 + 1) + 1)) (r7 (tc (G 3) tn) tn (tS (tc (G 3) tn) tn (i0 + 1)) (f7)))) 8 (nI (tE (tc (G 3) tn) tn ((i0 + 1) + 1)))) 15 (nI c0)) hs mv (va_up (va_up (va_up (va_up G 10 (upd (G 10) m0 (nI kk))) 11 (G 11)) 12 (G 12)) 13 (G 13)) ((i0 + 1) + 1) (r7 (tc (G 3) tn) tn (tS (tc (G 3) tn) tn (i0 + 1)) (f7)) tn m0 (hT) (by first | rfl | assumption | omega) (by first | rfl | assumption | omega) (by first | rfl | assumption | omega) (by first | rfl | assumption | omega) (by first | rfl | assumption | omega) (by first | rfl | assumption | omega) (h14) (by first | rfl | assumption | omega)) gX7_readsAction_X7_readsRange rfl ⟨rfl, rfl⟩ yd_X7_readsRange ⟨Nat.le_of_ble_eq_true rfl, Nat.le_of_ble_eq_true rfl⟩ rfl rfl (Nat.le_of_ble_eq_true rfl) dX7_readsAction_108 ?_
                rintro r4 ⟨F4, hs4, mv4, G4⟩ hu4
                obtain ⟨g11_4, g12_4, f8_4, rfl, hv4, hf4_0, hf4_1⟩ := hu4
                cases hv4
                refine zz_world (P' := (RP D C K (upd (upd (upd (upd (upd F 5 (nI (rk (tK (tc (G 3) tn) tn ((rgR (tK (tc (G 3) tn) tn) ((i0 + 1) + 1)).2))))) 6 (nI (tS (tc (G 3) tn) tn ((rgR (tK (tc (G 3) tn) tn) ((i0 + 1) + 1)).2)))) 7 (r7 (tc (G 3) tn) tn (tS (tc (G 3) tn) tn ((rgR (tK (tc (G 3) tn) tn) ((i0 + 1) + 1)).2)) (f8_4))) 8 (nI (tE (tc (G 3) tn) tn ((rgR (tK (tc (G 3) tn) tn) ((i0 + 1) + 1)).2)))) 15 (nI c0)) hs mv (va_up (va_up (va_up (va_up G 10 (upd (G 10) m0 (nI kk))) 11 g11_4) 12 g12_4) 13 (G 13)))) (fun _ h => h) ?_
                rw [← hQ]
                refine zz_iret 111 X.1 hr (bI_nar _) hlk (upd (upd (upd (upd (upd F 5 (nI (rk (tK (tc (G 3) tn) tn ((rgR (tK (tc (G 3) tn) tn) ((i0 + 1) + 1)).2))))) 6 (nI (tS (tc (G 3) tn) tn ((rgR (tK (tc (G 3) tn) tn) ((i0 + 1) + 1)).2)))) 7 (r7 (tc (G 3) tn) tn (tS (tc (G 3) tn) tn ((rgR (tK (tc (G 3) tn) tn) ((i0 + 1) + 1)).2)) (f8_4))) 8 (nI (tE (tc (G 3) tn) tn ((rgR (tK (tc (G 3) tn) tn) ((i0 + 1) + 1)).2)))) 15 (nI c0), hs, mv, va_up (va_up (va_up (va_up G 10 (upd (G 10) m0 (nI kk))) 11 g11_4) 12 g12_4) 13 (G 13)) ?_ (fun _ h _ => h) dX7_readsAction_111
                have hA : acR (tK (tc (G 3) tn) tn) (i0 + 1) = rgR (tK (tc (G 3) tn) tn) (i0 + 1 + 1) := if_pos (show (tK (tc (G 3) tn) tn) (i0 + 1) = 43 ∨ (tK (tc (G 3) tn) tn) (i0 + 1) = 45 ∨ (tK (tc (G 3) tn) tn) (i0 + 1) = 94 by omega)
                have hL : isL (tK (tc (G 3) tn) tn) i0 = false := isL_f (fun z => by have h0 : tK (tc (G 3) tn) tn (i0 + 1) = 61 := z.1; omega)
                rw [hA]
                refine ⟨upd (G 10) m0 (nI kk), g11_4, g12_4, G 13, c0, f8_4, rfl, rfl, fun k hk => ⟨?_, ?_, ?_⟩, fun k hk => ?_, fun hz => ?_⟩
                · first | rfl | exact upd_ne hk
                · exact (hf4_0 k hk).1
                · exact (hf4_0 k hk).2
                · rfl
                · have hz2 := hf4_1 hz
                  refine ⟨?_, ?_, fun _ => ?_, ?_, fun j hj => ?_⟩
                  · rw [upd_eq, hkk]; unfold sac; rw [hL]; rfl
                  · rw [hz2.1]; unfold sfi; rw [hL]; rfl
                  · rw [hz2.2]; unfold rS; rw [hL]; rfl
                  · unfold slc; rw [hL]; rfl
                  · unfold slc at hj; rw [hL] at hj; exact absurd hj (Nat.not_lt_zero _)
              · exfalso; omega
          refine zz_lvs [2, 1] rfl ?_
          exact C85  (by omega)
        · exfalso; omega
      · skip
        refine zz_iload_n 37 X.1 0 dX7_readsAction_37 rfl ?_
        refine zz_bipush 38 X.1 (v := nI 94) dX7_readsAction_38 rfl ?_
        refine zz_icmp_eq 40 73 X.1 (nI_toInt (by omega)) (nI_toInt (by omega)) dX7_readsAction_40 (by decide) (fun h40 => ?_) (fun h40 => ?_)
        · skip
          refine zz_iconst 73 X.1 (v := nI 1) dX7_readsAction_73 rfl ?_
          refine zz_goto 74 78 X.1 dX7_readsAction_74 (by decide) ?_
          refine zz_istore_n 78 X.1 (lv' := [(2, .int (nI 1)), (1, .int (nI kk)), (0, .ref (K 0))]) dX7_readsAction_78 (by decide) rfl ?_
          refine zz_iload_n 79 X.1 0 dX7_readsAction_79 rfl ?_
          refine zz_if_ne 80 85 X.1 (nI_toInt (by omega)) dX7_readsAction_80 (by decide) (fun h80 => ?_) (fun h80 => ?_)
          · skip
            have C85 : ∀  (hkO : kk = 43 ∨ kk = 45 ∨ kk = 94 ∨ kk = 38 ∨ kk = 124 ∨ kk = 126 ∨ kk = 33 ∨ kk = 61), ZZ p l e rm_X7_readsAction s m args below meth c 0 0 Q (zz_A (RAd K) s.heap.size) (RP D C K (upd (upd (upd (upd (upd F 5 (nI (rk (tK (tc (G 3) tn) tn (i0 + 1))))) 6 (nI (tS (tc (G 3) tn) tn (i0 + 1)))) 7 (r7 (tc (G 3) tn) tn (tS (tc (G 3) tn) tn (i0 + 1)) (f7))) 8 (nI (tE (tc (G 3) tn) tn (i0 + 1)))) 15 (nI c0)) hs mv (va_up (va_up (va_up (va_up G 10 (upd (G 10) m0 (nI kk))) 11 (G 11)) 12 (G 12)) 13 (G 13))) 3 [(0, .ref (K 0)), (1, .int (nI kk))] [] 85 := by
              intro hkO
              refine zz_aload_n 85 X.1 0 dX7_readsAction_85 rfl ?_
              refine rr_callVv 86 X hml (As := []) (kt_X7_reads l D C K hAp (upd (upd (upd (upd (upd F 5 (nI (rk (tK (tc (G 3) tn) tn (i0 + 1))))) 6 (nI (tS (tc (G 3) tn) tn (i0 + 1)))) 7 (r7 (tc (G 3) tn) tn (tS (tc (G 3) tn) tn (i0 + 1)) (f7))) 8 (nI (tE (tc (G 3) tn) tn (i0 + 1)))) 15 (nI c0)) hs mv (va_up (va_up (va_up (va_up G 10 (upd (G 10) m0 (nI kk))) 11 (G 11)) 12 (G 12)) 13 (G 13)) (i0 + 1) tn (hT) (by first | rfl | assumption | omega) (by first | rfl | assumption | omega) (by first | rfl | assumption | omega)) gX7_readsAction_X7_reads rfl ⟨rfl, rfl⟩ yd_X7_reads ⟨Nat.le_of_ble_eq_true rfl, Nat.le_of_ble_eq_true rfl⟩ rfl rfl (Nat.le_of_ble_eq_true rfl) dX7_readsAction_86 ?_
              rintro ⟨F5, hs5, mv5, G5⟩ hu5
              cases hu5
              refine zz_world (P' := (RP D C K (upd (upd (upd (upd (upd F 5 (nI (rk (tK (tc (G 3) tn) tn ((i0 + 1) + 1))))) 6 (nI (tS (tc (G 3) tn) tn ((i0 + 1) + 1)))) 7 (r7 (tc (G 3) tn) tn (tS (tc (G 3) tn) tn ((i0 + 1) + 1)) (r7 (tc (G 3) tn) tn (tS (tc (G 3) tn) tn (i0 + 1)) (f7)))) 8 (nI (tE (tc (G 3) tn) tn ((i0 + 1) + 1)))) 15 (nI c0)) hs mv (va_up (va_up (va_up (va_up G 10 (upd (G 10) m0 (nI kk))) 11 (G 11)) 12 (G 12)) 13 (G 13)))) (fun _ h => h) ?_
              have hrk2 := rk_is (tK (tc (G 3) tn) tn (i0 + 1 + 1))
              refine zz_iload_n 89 X.1 1 dX7_readsAction_89 rfl ?_
              refine zz_bipush 90 X.1 (v := nI 43) dX7_readsAction_90 rfl ?_
              refine zz_icmp_eq 92 107 X.1 (nI_toInt (by omega)) (nI_toInt (by omega)) dX7_readsAction_92 (by decide) (fun h92 => ?_) (fun h92 => ?_)
              · exfalso; omega
              · skip
                refine zz_iload_n 95 X.1 1 dX7_readsAction_95 rfl ?_
                refine zz_bipush 96 X.1 (v := nI 45) dX7_readsAction_96 rfl ?_
                refine zz_icmp_eq 98 107 X.1 (nI_toInt (by omega)) (nI_toInt (by omega)) dX7_readsAction_98 (by decide) (fun h98 => ?_) (fun h98 => ?_)
                · exfalso; omega
                · skip
                  refine zz_iload_n 101 X.1 1 dX7_readsAction_101 rfl ?_
                  refine zz_bipush 102 X.1 (v := nI 94) dX7_readsAction_102 rfl ?_
                  refine zz_icmp_ne 104 112 X.1 (nI_toInt (by omega)) (nI_toInt (by omega)) dX7_readsAction_104 (by decide) (fun h104 => ?_) (fun h104 => ?_)
                  · exfalso; omega
                  · skip
                    refine zz_aload_n 107 X.1 0 dX7_readsAction_107 rfl ?_
                    refine rr_callVi 108 X hml (As := []) (kt_X7_readsRange l D C K hAp (upd (upd (upd (upd (upd F 5 (nI (rk (tK (tc (G 3) tn) tn ((i0 + 1) + 1))))) 6 (nI (tS (tc (G 3) tn) tn ((i0 + 1) + 1)))) 7 (r7 (tc (G 3) tn) tn (tS (tc (G 3) tn) tn ((i0 + 1) + 1)) (r7 (tc (G 3) tn) tn (tS (tc (G 3) tn) tn (i0 + 1)) (f7)))) 8 (nI (tE (tc (G 3) tn) tn ((i0 + 1) + 1)))) 15 (nI c0)) hs mv (va_up (va_up (va_up (va_up G 10 (upd (G 10) m0 (nI kk))) 11 (G 11)) 12 (G 12)) 13 (G 13)) ((i0 + 1) + 1) (r7 (tc (G 3) tn) tn (tS (tc (G 3) tn) tn (i0 + 1)) (f7)) tn m0 (hT) (by first | rfl | assumption | omega) (by first | rfl | assumption | omega) (by first | rfl | assumption | omega) (by first | rfl | assumption | omega) (by first | rfl | assumption | omega) (by first | rfl | assumption | omega) (h14) (by first | rfl | assumption | omega)) gX7_readsAction_X7_readsRange rfl ⟨rfl, rfl⟩ yd_X7_readsRange ⟨Nat.le_of_ble_eq_true rfl, Nat.le_of_ble_eq_true rfl⟩ rfl rfl (Nat.le_of_ble_eq_true rfl) dX7_readsAction_108 ?_
                    rintro r6 ⟨F6, hs6, mv6, G6⟩ hu6
                    obtain ⟨g11_6, g12_6, f8_6, rfl, hv6, hf6_0, hf6_1⟩ := hu6
                    cases hv6
                    refine zz_world (P' := (RP D C K (upd (upd (upd (upd (upd F 5 (nI (rk (tK (tc (G 3) tn) tn ((rgR (tK (tc (G 3) tn) tn) ((i0 + 1) + 1)).2))))) 6 (nI (tS (tc (G 3) tn) tn ((rgR (tK (tc (G 3) tn) tn) ((i0 + 1) + 1)).2)))) 7 (r7 (tc (G 3) tn) tn (tS (tc (G 3) tn) tn ((rgR (tK (tc (G 3) tn) tn) ((i0 + 1) + 1)).2)) (f8_6))) 8 (nI (tE (tc (G 3) tn) tn ((rgR (tK (tc (G 3) tn) tn) ((i0 + 1) + 1)).2)))) 15 (nI c0)) hs mv (va_up (va_up (va_up (va_up G 10 (upd (G 10) m0 (nI kk))) 11 g11_6) 12 g12_6) 13 (G 13)))) (fun _ h => h) ?_
                    rw [← hQ]
                    refine zz_iret 111 X.1 hr (bI_nar _) hlk (upd (upd (upd (upd (upd F 5 (nI (rk (tK (tc (G 3) tn) tn ((rgR (tK (tc (G 3) tn) tn) ((i0 + 1) + 1)).2))))) 6 (nI (tS (tc (G 3) tn) tn ((rgR (tK (tc (G 3) tn) tn) ((i0 + 1) + 1)).2)))) 7 (r7 (tc (G 3) tn) tn (tS (tc (G 3) tn) tn ((rgR (tK (tc (G 3) tn) tn) ((i0 + 1) + 1)).2)) (f8_6))) 8 (nI (tE (tc (G 3) tn) tn ((rgR (tK (tc (G 3) tn) tn) ((i0 + 1) + 1)).2)))) 15 (nI c0), hs, mv, va_up (va_up (va_up (va_up G 10 (upd (G 10) m0 (nI kk))) 11 g11_6) 12 g12_6) 13 (G 13)) ?_ (fun _ h _ => h) dX7_readsAction_111
                    have hA : acR (tK (tc (G 3) tn) tn) (i0 + 1) = rgR (tK (tc (G 3) tn) tn) (i0 + 1 + 1) := if_pos (show (tK (tc (G 3) tn) tn) (i0 + 1) = 43 ∨ (tK (tc (G 3) tn) tn) (i0 + 1) = 45 ∨ (tK (tc (G 3) tn) tn) (i0 + 1) = 94 by omega)
                    have hL : isL (tK (tc (G 3) tn) tn) i0 = false := isL_f (fun z => by have h0 : tK (tc (G 3) tn) tn (i0 + 1) = 61 := z.1; omega)
                    rw [hA]
                    refine ⟨upd (G 10) m0 (nI kk), g11_6, g12_6, G 13, c0, f8_6, rfl, rfl, fun k hk => ⟨?_, ?_, ?_⟩, fun k hk => ?_, fun hz => ?_⟩
                    · first | rfl | exact upd_ne hk
                    · exact (hf6_0 k hk).1
                    · exact (hf6_0 k hk).2
                    · rfl
                    · have hz2 := hf6_1 hz
                      refine ⟨?_, ?_, fun _ => ?_, ?_, fun j hj => ?_⟩
                      · rw [upd_eq, hkk]; unfold sac; rw [hL]; rfl
                      · rw [hz2.1]; unfold sfi; rw [hL]; rfl
                      · rw [hz2.2]; unfold rS; rw [hL]; rfl
                      · unfold slc; rw [hL]; rfl
                      · unfold slc at hj; rw [hL] at hj; exact absurd hj (Nat.not_lt_zero _)
            refine zz_lvs [2, 1] rfl ?_
            exact C85  (by omega)
          · exfalso; omega
        · skip
          refine zz_iload_n 43 X.1 0 dX7_readsAction_43 rfl ?_
          refine zz_bipush 44 X.1 (v := nI 38) dX7_readsAction_44 rfl ?_
          refine zz_icmp_eq 46 73 X.1 (nI_toInt (by omega)) (nI_toInt (by omega)) dX7_readsAction_46 (by decide) (fun h46 => ?_) (fun h46 => ?_)
          · skip
            refine zz_iconst 73 X.1 (v := nI 1) dX7_readsAction_73 rfl ?_
            refine zz_goto 74 78 X.1 dX7_readsAction_74 (by decide) ?_
            refine zz_istore_n 78 X.1 (lv' := [(2, .int (nI 1)), (1, .int (nI kk)), (0, .ref (K 0))]) dX7_readsAction_78 (by decide) rfl ?_
            refine zz_iload_n 79 X.1 0 dX7_readsAction_79 rfl ?_
            refine zz_if_ne 80 85 X.1 (nI_toInt (by omega)) dX7_readsAction_80 (by decide) (fun h80 => ?_) (fun h80 => ?_)
            · skip
              have C85 : ∀  (hkO : kk = 43 ∨ kk = 45 ∨ kk = 94 ∨ kk = 38 ∨ kk = 124 ∨ kk = 126 ∨ kk = 33 ∨ kk = 61), ZZ p l e rm_X7_readsAction s m args below meth c 0 0 Q (zz_A (RAd K) s.heap.size) (RP D C K (upd (upd (upd (upd (upd F 5 (nI (rk (tK (tc (G 3) tn) tn (i0 + 1))))) 6 (nI (tS (tc (G 3) tn) tn (i0 + 1)))) 7 (r7 (tc (G 3) tn) tn (tS (tc (G 3) tn) tn (i0 + 1)) (f7))) 8 (nI (tE (tc (G 3) tn) tn (i0 + 1)))) 15 (nI c0)) hs mv (va_up (va_up (va_up (va_up G 10 (upd (G 10) m0 (nI kk))) 11 (G 11)) 12 (G 12)) 13 (G 13))) 3 [(0, .ref (K 0)), (1, .int (nI kk))] [] 85 := by
                intro hkO
                refine zz_aload_n 85 X.1 0 dX7_readsAction_85 rfl ?_
                refine rr_callVv 86 X hml (As := []) (kt_X7_reads l D C K hAp (upd (upd (upd (upd (upd F 5 (nI (rk (tK (tc (G 3) tn) tn (i0 + 1))))) 6 (nI (tS (tc (G 3) tn) tn (i0 + 1)))) 7 (r7 (tc (G 3) tn) tn (tS (tc (G 3) tn) tn (i0 + 1)) (f7))) 8 (nI (tE (tc (G 3) tn) tn (i0 + 1)))) 15 (nI c0)) hs mv (va_up (va_up (va_up (va_up G 10 (upd (G 10) m0 (nI kk))) 11 (G 11)) 12 (G 12)) 13 (G 13)) (i0 + 1) tn (hT) (by first | rfl | assumption | omega) (by first | rfl | assumption | omega) (by first | rfl | assumption | omega)) gX7_readsAction_X7_reads rfl ⟨rfl, rfl⟩ yd_X7_reads ⟨Nat.le_of_ble_eq_true rfl, Nat.le_of_ble_eq_true rfl⟩ rfl rfl (Nat.le_of_ble_eq_true rfl) dX7_readsAction_86 ?_
                rintro ⟨F7, hs7, mv7, G7⟩ hu7
                cases hu7
                refine zz_world (P' := (RP D C K (upd (upd (upd (upd (upd F 5 (nI (rk (tK (tc (G 3) tn) tn ((i0 + 1) + 1))))) 6 (nI (tS (tc (G 3) tn) tn ((i0 + 1) + 1)))) 7 (r7 (tc (G 3) tn) tn (tS (tc (G 3) tn) tn ((i0 + 1) + 1)) (r7 (tc (G 3) tn) tn (tS (tc (G 3) tn) tn (i0 + 1)) (f7)))) 8 (nI (tE (tc (G 3) tn) tn ((i0 + 1) + 1)))) 15 (nI c0)) hs mv (va_up (va_up (va_up (va_up G 10 (upd (G 10) m0 (nI kk))) 11 (G 11)) 12 (G 12)) 13 (G 13)))) (fun _ h => h) ?_
                have hrk2 := rk_is (tK (tc (G 3) tn) tn (i0 + 1 + 1))
                refine zz_iload_n 89 X.1 1 dX7_readsAction_89 rfl ?_
                refine zz_bipush 90 X.1 (v := nI 43) dX7_readsAction_90 rfl ?_
                refine zz_icmp_eq 92 107 X.1 (nI_toInt (by omega)) (nI_toInt (by omega)) dX7_readsAction_92 (by decide) (fun h92 => ?_) (fun h92 => ?_)
                · exfalso; omega
                · skip
                  refine zz_iload_n 95 X.1 1 dX7_readsAction_95 rfl ?_
                  refine zz_bipush 96 X.1 (v := nI 45) dX7_readsAction_96 rfl ?_
                  refine zz_icmp_eq 98 107 X.1 (nI_toInt (by omega)) (nI_toInt (by omega)) dX7_readsAction_98 (by decide) (fun h98 => ?_) (fun h98 => ?_)
                  · exfalso; omega
                  · skip
                    refine zz_iload_n 101 X.1 1 dX7_readsAction_101 rfl ?_
                    refine zz_bipush 102 X.1 (v := nI 94) dX7_readsAction_102 rfl ?_
                    refine zz_icmp_ne 104 112 X.1 (nI_toInt (by omega)) (nI_toInt (by omega)) dX7_readsAction_104 (by decide) (fun h104 => ?_) (fun h104 => ?_)
                    · skip
                      refine zz_iload_n 112 X.1 1 dX7_readsAction_112 rfl ?_
                      refine zz_bipush 113 X.1 (v := nI 61) dX7_readsAction_113 rfl ?_
                      refine zz_icmp_ne 115 132 X.1 (nI_toInt (by omega)) (nI_toInt (by omega)) dX7_readsAction_115 (by decide) (fun h115 => ?_) (fun h115 => ?_)
                      · skip
                        refine zz_aload_n 132 X.1 0 dX7_readsAction_132 rfl ?_
                        refine rr_callVi 133 X hml (As := []) (kt_X7_readsSet l D C K hAp (upd (upd (upd (upd (upd F 5 (nI (rk (tK (tc (G 3) tn) tn ((i0 + 1) + 1))))) 6 (nI (tS (tc (G 3) tn) tn ((i0 + 1) + 1)))) 7 (r7 (tc (G 3) tn) tn (tS (tc (G 3) tn) tn ((i0 + 1) + 1)) (r7 (tc (G 3) tn) tn (tS (tc (G 3) tn) tn (i0 + 1)) (f7)))) 8 (nI (tE (tc (G 3) tn) tn ((i0 + 1) + 1)))) 15 (nI c0)) hs mv (va_up (va_up (va_up (va_up G 10 (upd (G 10) m0 (nI kk))) 11 (G 11)) 12 (G 12)) 13 (G 13)) ((i0 + 1) + 1) (r7 (tc (G 3) tn) tn (tS (tc (G 3) tn) tn (i0 + 1)) (f7)) tn m0 (hT) (by first | rfl | assumption | omega) (by first | rfl | assumption | omega) (by first | rfl | assumption | omega) (by first | rfl | assumption | omega) (by first | rfl | assumption | omega) (by first | rfl | assumption | omega) (h14) (by first | rfl | assumption | omega)) gX7_readsAction_X7_readsSet rfl ⟨rfl, rfl⟩ yd_X7_readsSet ⟨Nat.le_of_ble_eq_true rfl, Nat.le_of_ble_eq_true rfl⟩ rfl rfl (Nat.le_of_ble_eq_true rfl) dX7_readsAction_133 ?_
                        rintro r8 ⟨F8, hs8, mv8, G8⟩ hu8
                        rcases (show (tK (tc (G 3) tn) tn (((i0 + 1) + 1)) = 2) ∨ (tK (tc (G 3) tn) tn (((i0 + 1) + 1)) ≠ 2) by omega) with hc8 | hc8
                        · skip
                          obtain ⟨rfl, hv8⟩ := (hu8.1 hc8)
                          cases hv8
                          refine zz_world (P' := (RP D C K (upd (upd (upd (upd (upd F 5 (nI (rk (tK (tc (G 3) tn) tn (((i0 + 1) + 1) + 1))))) 6 (nI (tS (tc (G 3) tn) tn (((i0 + 1) + 1) + 1)))) 7 (r7 (tc (G 3) tn) tn (tS (tc (G 3) tn) tn (((i0 + 1) + 1) + 1)) (r7 (tc (G 3) tn) tn (tS (tc (G 3) tn) tn ((i0 + 1) + 1)) (r7 (tc (G 3) tn) tn (tS (tc (G 3) tn) tn (i0 + 1)) (f7))))) 8 (nI (tE (tc (G 3) tn) tn (((i0 + 1) + 1) + 1)))) 15 (nI c0)) hs mv (va_up (va_up (va_up (va_up G 10 (upd (G 10) m0 (nI kk))) 11 (upd (G 11) m0 (r7 (tc (G 3) tn) tn (tS (tc (G 3) tn) tn ((i0 + 1) + 1)) (r7 (tc (G 3) tn) tn (tS (tc (G 3) tn) tn (i0 + 1)) (f7))))) 12 (G 12)) 13 (G 13)))) (fun _ h => h) ?_
                          rw [← hQ]
                          refine zz_iret 136 X.1 hr (bI_nar _) hlk (upd (upd (upd (upd (upd F 5 (nI (rk (tK (tc (G 3) tn) tn (((i0 + 1) + 1) + 1))))) 6 (nI (tS (tc (G 3) tn) tn (((i0 + 1) + 1) + 1)))) 7 (r7 (tc (G 3) tn) tn (tS (tc (G 3) tn) tn (((i0 + 1) + 1) + 1)) (r7 (tc (G 3) tn) tn (tS (tc (G 3) tn) tn ((i0 + 1) + 1)) (r7 (tc (G 3) tn) tn (tS (tc (G 3) tn) tn (i0 + 1)) (f7))))) 8 (nI (tE (tc (G 3) tn) tn (((i0 + 1) + 1) + 1)))) 15 (nI c0), hs, mv, va_up (va_up (va_up (va_up G 10 (upd (G 10) m0 (nI kk))) 11 (upd (G 11) m0 (r7 (tc (G 3) tn) tn (tS (tc (G 3) tn) tn ((i0 + 1) + 1)) (r7 (tc (G 3) tn) tn (tS (tc (G 3) tn) tn (i0 + 1)) (f7))))) 12 (G 12)) 13 (G 13)) ?_ (fun _ h _ => h) dX7_readsAction_136
                          have hA : acR (tK (tc (G 3) tn) tn) (i0 + 1) = (true, ((i0 + 1) + 1) + 1) := by
                            unfold acR
                            rw [if_neg (show ¬ ((tK (tc (G 3) tn) tn) (i0 + 1) = 43 ∨ (tK (tc (G 3) tn) tn) (i0 + 1) = 45 ∨ (tK (tc (G 3) tn) tn) (i0 + 1) = 94) by omega), if_neg (show ¬ ((tK (tc (G 3) tn) tn) (i0 + 1) = 61 ∧ (tK (tc (G 3) tn) tn) (i0 + 1 + 1) = 91) by omega), if_pos (show (tK (tc (G 3) tn) tn) (i0 + 1) = 38 ∨ (tK (tc (G 3) tn) tn) (i0 + 1) = 124 ∨ (tK (tc (G 3) tn) tn) (i0 + 1) = 126 ∨ (tK (tc (G 3) tn) tn) (i0 + 1) = 33 ∨ (tK (tc (G 3) tn) tn) (i0 + 1) = 61 by omega)]
                            unfold seR
                            first | (rw [if_neg (show ¬ (tK (tc (G 3) tn) tn) (i0 + 1 + 1) ≠ 2 by omega)]; done) | (rw [if_pos (show (tK (tc (G 3) tn) tn) (i0 + 1 + 1) ≠ 2 by omega)]; done)
                          have hL : isL (tK (tc (G 3) tn) tn) i0 = false := isL_f (fun z => by have h0 : tK (tc (G 3) tn) tn (i0 + 1) = 61 ∧ tK (tc (G 3) tn) tn (i0 + 1 + 1) = 91 := z; omega)
                          rw [hA]
                          refine ⟨upd (G 10) m0 (nI kk), upd (G 11) m0 (r7 (tc (G 3) tn) tn (tS (tc (G 3) tn) tn ((i0 + 1) + 1)) (r7 (tc (G 3) tn) tn (tS (tc (G 3) tn) tn (i0 + 1)) (f7))), G 12, G 13, c0, r7 (tc (G 3) tn) tn (tS (tc (G 3) tn) tn ((i0 + 1) + 1)) (r7 (tc (G 3) tn) tn (tS (tc (G 3) tn) tn (i0 + 1)) (f7)), rfl, rfl, fun k hk => ⟨?_, ?_, ?_⟩, fun k hk => ?_, fun hz => ?_⟩
                          · first | rfl | exact upd_ne hk
                          · first | rfl | exact upd_ne hk
                          · rfl
                          · rfl
                          · refine ⟨?_, ?_, fun hx => ?_, ?_, fun j hj => ?_⟩
                            · rw [upd_eq, hkk]; unfold sac; rw [hL]; rfl
                            · rw [upd_eq]; unfold sfi; rw [hL]; exact r7_v (Or.inl (show tK (tc (G 3) tn) tn (i0 + 1 + 1) = 2 by omega))
                            · exfalso; rw [hL] at hx; rcases hx with hx | hx
                              · omega
                              · exact Bool.noConfusion hx
                            · unfold slc; rw [hL]; rfl
                            · unfold slc at hj; rw [hL] at hj; exact absurd hj (Nat.not_lt_zero _)
                        · skip
                          obtain ⟨rfl, hv8⟩ := (hu8.2 hc8)
                          cases hv8
                          refine zz_world (P' := (RP D C K (upd (upd (upd (upd (upd F 5 (nI (rk (tK (tc (G 3) tn) tn (((i0 + 1) + 1)))))) 6 (nI (tS (tc (G 3) tn) tn (((i0 + 1) + 1))))) 7 (r7 (tc (G 3) tn) tn (tS (tc (G 3) tn) tn (((i0 + 1) + 1))) ((r7 (tc (G 3) tn) tn (tS (tc (G 3) tn) tn (i0 + 1)) (f7))))) 8 (nI (tE (tc (G 3) tn) tn (((i0 + 1) + 1))))) 15 (nI c0)) hs mv (va_up (va_up (va_up (va_up G 10 (upd (G 10) m0 (nI kk))) 11 (upd (G 11) m0 (r7 (tc (G 3) tn) tn (tS (tc (G 3) tn) tn ((i0 + 1) + 1)) (r7 (tc (G 3) tn) tn (tS (tc (G 3) tn) tn (i0 + 1)) (f7))))) 12 (G 12)) 13 (G 13)))) (fun _ h => h) ?_
                          rw [← hQ]
                          refine zz_iret 136 X.1 hr (bI_nar _) hlk (upd (upd (upd (upd (upd F 5 (nI (rk (tK (tc (G 3) tn) tn (((i0 + 1) + 1)))))) 6 (nI (tS (tc (G 3) tn) tn (((i0 + 1) + 1))))) 7 (r7 (tc (G 3) tn) tn (tS (tc (G 3) tn) tn (((i0 + 1) + 1))) ((r7 (tc (G 3) tn) tn (tS (tc (G 3) tn) tn (i0 + 1)) (f7))))) 8 (nI (tE (tc (G 3) tn) tn (((i0 + 1) + 1))))) 15 (nI c0), hs, mv, va_up (va_up (va_up (va_up G 10 (upd (G 10) m0 (nI kk))) 11 (upd (G 11) m0 (r7 (tc (G 3) tn) tn (tS (tc (G 3) tn) tn ((i0 + 1) + 1)) (r7 (tc (G 3) tn) tn (tS (tc (G 3) tn) tn (i0 + 1)) (f7))))) 12 (G 12)) 13 (G 13)) ?_ (fun _ h _ => h) dX7_readsAction_136
                          have hA : acR (tK (tc (G 3) tn) tn) (i0 + 1) = (false, ((i0 + 1) + 1)) := by
                            unfold acR
                            rw [if_neg (show ¬ ((tK (tc (G 3) tn) tn) (i0 + 1) = 43 ∨ (tK (tc (G 3) tn) tn) (i0 + 1) = 45 ∨ (tK (tc (G 3) tn) tn) (i0 + 1) = 94) by omega), if_neg (show ¬ ((tK (tc (G 3) tn) tn) (i0 + 1) = 61 ∧ (tK (tc (G 3) tn) tn) (i0 + 1 + 1) = 91) by omega), if_pos (show (tK (tc (G 3) tn) tn) (i0 + 1) = 38 ∨ (tK (tc (G 3) tn) tn) (i0 + 1) = 124 ∨ (tK (tc (G 3) tn) tn) (i0 + 1) = 126 ∨ (tK (tc (G 3) tn) tn) (i0 + 1) = 33 ∨ (tK (tc (G 3) tn) tn) (i0 + 1) = 61 by omega)]
                            unfold seR
                            first | (rw [if_neg (show ¬ (tK (tc (G 3) tn) tn) (i0 + 1 + 1) ≠ 2 by omega)]; done) | (rw [if_pos (show (tK (tc (G 3) tn) tn) (i0 + 1 + 1) ≠ 2 by omega)]; done)
                          have hL : isL (tK (tc (G 3) tn) tn) i0 = false := isL_f (fun z => by have h0 : tK (tc (G 3) tn) tn (i0 + 1) = 61 ∧ tK (tc (G 3) tn) tn (i0 + 1 + 1) = 91 := z; omega)
                          rw [hA]
                          refine ⟨upd (G 10) m0 (nI kk), upd (G 11) m0 (r7 (tc (G 3) tn) tn (tS (tc (G 3) tn) tn ((i0 + 1) + 1)) (r7 (tc (G 3) tn) tn (tS (tc (G 3) tn) tn (i0 + 1)) (f7))), G 12, G 13, c0, (r7 (tc (G 3) tn) tn (tS (tc (G 3) tn) tn (i0 + 1)) (f7)), rfl, rfl, fun k hk => ⟨?_, ?_, ?_⟩, fun k hk => ?_, fun hz => ?_⟩
                          · first | rfl | exact upd_ne hk
                          · first | rfl | exact upd_ne hk
                          · rfl
                          · rfl
                          · exact Bool.noConfusion hz
                      · exfalso; omega
                    · exfalso; omega
              refine zz_lvs [2, 1] rfl ?_
              exact C85  (by omega)
            · exfalso; omega
          · skip
            refine zz_iload_n 49 X.1 0 dX7_readsAction_49 rfl ?_
            refine zz_bipush 50 X.1 (v := nI 124) dX7_readsAction_50 rfl ?_
            refine zz_icmp_eq 52 73 X.1 (nI_toInt (by omega)) (nI_toInt (by omega)) dX7_readsAction_52 (by decide) (fun h52 => ?_) (fun h52 => ?_)
            · skip
              refine zz_iconst 73 X.1 (v := nI 1) dX7_readsAction_73 rfl ?_
              refine zz_goto 74 78 X.1 dX7_readsAction_74 (by decide) ?_
              refine zz_istore_n 78 X.1 (lv' := [(2, .int (nI 1)), (1, .int (nI kk)), (0, .ref (K 0))]) dX7_readsAction_78 (by decide) rfl ?_
              refine zz_iload_n 79 X.1 0 dX7_readsAction_79 rfl ?_
              refine zz_if_ne 80 85 X.1 (nI_toInt (by omega)) dX7_readsAction_80 (by decide) (fun h80 => ?_) (fun h80 => ?_)
              · skip
                have C85 : ∀  (hkO : kk = 43 ∨ kk = 45 ∨ kk = 94 ∨ kk = 38 ∨ kk = 124 ∨ kk = 126 ∨ kk = 33 ∨ kk = 61), ZZ p l e rm_X7_readsAction s m args below meth c 0 0 Q (zz_A (RAd K) s.heap.size) (RP D C K (upd (upd (upd (upd (upd F 5 (nI (rk (tK (tc (G 3) tn) tn (i0 + 1))))) 6 (nI (tS (tc (G 3) tn) tn (i0 + 1)))) 7 (r7 (tc (G 3) tn) tn (tS (tc (G 3) tn) tn (i0 + 1)) (f7))) 8 (nI (tE (tc (G 3) tn) tn (i0 + 1)))) 15 (nI c0)) hs mv (va_up (va_up (va_up (va_up G 10 (upd (G 10) m0 (nI kk))) 11 (G 11)) 12 (G 12)) 13 (G 13))) 3 [(0, .ref (K 0)), (1, .int (nI kk))] [] 85 := by
                  intro hkO
                  refine zz_aload_n 85 X.1 0 dX7_readsAction_85 rfl ?_
                  refine rr_callVv 86 X hml (As := []) (kt_X7_reads l D C K hAp (upd (upd (upd (upd (upd F 5 (nI (rk (tK (tc (G 3) tn) tn (i0 + 1))))) 6 (nI (tS (tc (G 3) tn) tn (i0 + 1)))) 7 (r7 (tc (G 3) tn) tn (tS (tc (G 3) tn) tn (i0 + 1)) (f7))) 8 (nI (tE (tc (G 3) tn) tn (i0 + 1)))) 15 (nI c0)) hs mv (va_up (va_up (va_up (va_up G 10 (upd (G 10) m0 (nI kk))) 11 (G 11)) 12 (G 12)) 13 (G 13)) (i0 + 1) tn (hT) (by first | rfl | assumption | omega) (by first | rfl | assumption | omega) (by first | rfl | assumption | omega)) gX7_readsAction_X7_reads rfl ⟨rfl, rfl⟩ yd_X7_reads ⟨Nat.le_of_ble_eq_true rfl, Nat.le_of_ble_eq_true rfl⟩ rfl rfl (Nat.le_of_ble_eq_true rfl) dX7_readsAction_86 ?_
                  rintro ⟨F9, hs9, mv9, G9⟩ hu9
                  cases hu9
                  refine zz_world (P' := (RP D C K (upd (upd (upd (upd (upd F 5 (nI (rk (tK (tc (G 3) tn) tn ((i0 + 1) + 1))))) 6 (nI (tS (tc (G 3) tn) tn ((i0 + 1) + 1)))) 7 (r7 (tc (G 3) tn) tn (tS (tc (G 3) tn) tn ((i0 + 1) + 1)) (r7 (tc (G 3) tn) tn (tS (tc (G 3) tn) tn (i0 + 1)) (f7)))) 8 (nI (tE (tc (G 3) tn) tn ((i0 + 1) + 1)))) 15 (nI c0)) hs mv (va_up (va_up (va_up (va_up G 10 (upd (G 10) m0 (nI kk))) 11 (G 11)) 12 (G 12)) 13 (G 13)))) (fun _ h => h) ?_
                  have hrk2 := rk_is (tK (tc (G 3) tn) tn (i0 + 1 + 1))
                  refine zz_iload_n 89 X.1 1 dX7_readsAction_89 rfl ?_
                  refine zz_bipush 90 X.1 (v := nI 43) dX7_readsAction_90 rfl ?_
                  refine zz_icmp_eq 92 107 X.1 (nI_toInt (by omega)) (nI_toInt (by omega)) dX7_readsAction_92 (by decide) (fun h92 => ?_) (fun h92 => ?_)
                  · exfalso; omega
                  · skip
                    refine zz_iload_n 95 X.1 1 dX7_readsAction_95 rfl ?_
                    refine zz_bipush 96 X.1 (v := nI 45) dX7_readsAction_96 rfl ?_
                    refine zz_icmp_eq 98 107 X.1 (nI_toInt (by omega)) (nI_toInt (by omega)) dX7_readsAction_98 (by decide) (fun h98 => ?_) (fun h98 => ?_)
                    · exfalso; omega
                    · skip
                      refine zz_iload_n 101 X.1 1 dX7_readsAction_101 rfl ?_
                      refine zz_bipush 102 X.1 (v := nI 94) dX7_readsAction_102 rfl ?_
                      refine zz_icmp_ne 104 112 X.1 (nI_toInt (by omega)) (nI_toInt (by omega)) dX7_readsAction_104 (by decide) (fun h104 => ?_) (fun h104 => ?_)
                      · skip
                        refine zz_iload_n 112 X.1 1 dX7_readsAction_112 rfl ?_
                        refine zz_bipush 113 X.1 (v := nI 61) dX7_readsAction_113 rfl ?_
                        refine zz_icmp_ne 115 132 X.1 (nI_toInt (by omega)) (nI_toInt (by omega)) dX7_readsAction_115 (by decide) (fun h115 => ?_) (fun h115 => ?_)
                        · skip
                          refine zz_aload_n 132 X.1 0 dX7_readsAction_132 rfl ?_
                          refine rr_callVi 133 X hml (As := []) (kt_X7_readsSet l D C K hAp (upd (upd (upd (upd (upd F 5 (nI (rk (tK (tc (G 3) tn) tn ((i0 + 1) + 1))))) 6 (nI (tS (tc (G 3) tn) tn ((i0 + 1) + 1)))) 7 (r7 (tc (G 3) tn) tn (tS (tc (G 3) tn) tn ((i0 + 1) + 1)) (r7 (tc (G 3) tn) tn (tS (tc (G 3) tn) tn (i0 + 1)) (f7)))) 8 (nI (tE (tc (G 3) tn) tn ((i0 + 1) + 1)))) 15 (nI c0)) hs mv (va_up (va_up (va_up (va_up G 10 (upd (G 10) m0 (nI kk))) 11 (G 11)) 12 (G 12)) 13 (G 13)) ((i0 + 1) + 1) (r7 (tc (G 3) tn) tn (tS (tc (G 3) tn) tn (i0 + 1)) (f7)) tn m0 (hT) (by first | rfl | assumption | omega) (by first | rfl | assumption | omega) (by first | rfl | assumption | omega) (by first | rfl | assumption | omega) (by first | rfl | assumption | omega) (by first | rfl | assumption | omega) (h14) (by first | rfl | assumption | omega)) gX7_readsAction_X7_readsSet rfl ⟨rfl, rfl⟩ yd_X7_readsSet ⟨Nat.le_of_ble_eq_true rfl, Nat.le_of_ble_eq_true rfl⟩ rfl rfl (Nat.le_of_ble_eq_true rfl) dX7_readsAction_133 ?_
                          rintro r10 ⟨F10, hs10, mv10, G10⟩ hu10
                          rcases (show (tK (tc (G 3) tn) tn (((i0 + 1) + 1)) = 2) ∨ (tK (tc (G 3) tn) tn (((i0 + 1) + 1)) ≠ 2) by omega) with hc10 | hc10
                          · skip
                            obtain ⟨rfl, hv10⟩ := (hu10.1 hc10)
                            cases hv10
                            refine zz_world (P' := (RP D C K (upd (upd (upd (upd (upd F 5 (nI (rk (tK (tc (G 3) tn) tn (((i0 + 1) + 1) + 1))))) 6 (nI (tS (tc (G 3) tn) tn (((i0 + 1) + 1) + 1)))) 7 (r7 (tc (G 3) tn) tn (tS (tc (G 3) tn) tn (((i0 + 1) + 1) + 1)) (r7 (tc (G 3) tn) tn (tS (tc (G 3) tn) tn ((i0 + 1) + 1)) (r7 (tc (G 3) tn) tn (tS (tc (G 3) tn) tn (i0 + 1)) (f7))))) 8 (nI (tE (tc (G 3) tn) tn (((i0 + 1) + 1) + 1)))) 15 (nI c0)) hs mv (va_up (va_up (va_up (va_up G 10 (upd (G 10) m0 (nI kk))) 11 (upd (G 11) m0 (r7 (tc (G 3) tn) tn (tS (tc (G 3) tn) tn ((i0 + 1) + 1)) (r7 (tc (G 3) tn) tn (tS (tc (G 3) tn) tn (i0 + 1)) (f7))))) 12 (G 12)) 13 (G 13)))) (fun _ h => h) ?_
                            rw [← hQ]
                            refine zz_iret 136 X.1 hr (bI_nar _) hlk (upd (upd (upd (upd (upd F 5 (nI (rk (tK (tc (G 3) tn) tn (((i0 + 1) + 1) + 1))))) 6 (nI (tS (tc (G 3) tn) tn (((i0 + 1) + 1) + 1)))) 7 (r7 (tc (G 3) tn) tn (tS (tc (G 3) tn) tn (((i0 + 1) + 1) + 1)) (r7 (tc (G 3) tn) tn (tS (tc (G 3) tn) tn ((i0 + 1) + 1)) (r7 (tc (G 3) tn) tn (tS (tc (G 3) tn) tn (i0 + 1)) (f7))))) 8 (nI (tE (tc (G 3) tn) tn (((i0 + 1) + 1) + 1)))) 15 (nI c0), hs, mv, va_up (va_up (va_up (va_up G 10 (upd (G 10) m0 (nI kk))) 11 (upd (G 11) m0 (r7 (tc (G 3) tn) tn (tS (tc (G 3) tn) tn ((i0 + 1) + 1)) (r7 (tc (G 3) tn) tn (tS (tc (G 3) tn) tn (i0 + 1)) (f7))))) 12 (G 12)) 13 (G 13)) ?_ (fun _ h _ => h) dX7_readsAction_136
                            have hA : acR (tK (tc (G 3) tn) tn) (i0 + 1) = (true, ((i0 + 1) + 1) + 1) := by
                              unfold acR
                              rw [if_neg (show ¬ ((tK (tc (G 3) tn) tn) (i0 + 1) = 43 ∨ (tK (tc (G 3) tn) tn) (i0 + 1) = 45 ∨ (tK (tc (G 3) tn) tn) (i0 + 1) = 94) by omega), if_neg (show ¬ ((tK (tc (G 3) tn) tn) (i0 + 1) = 61 ∧ (tK (tc (G 3) tn) tn) (i0 + 1 + 1) = 91) by omega), if_pos (show (tK (tc (G 3) tn) tn) (i0 + 1) = 38 ∨ (tK (tc (G 3) tn) tn) (i0 + 1) = 124 ∨ (tK (tc (G 3) tn) tn) (i0 + 1) = 126 ∨ (tK (tc (G 3) tn) tn) (i0 + 1) = 33 ∨ (tK (tc (G 3) tn) tn) (i0 + 1) = 61 by omega)]
                              unfold seR
                              first | (rw [if_neg (show ¬ (tK (tc (G 3) tn) tn) (i0 + 1 + 1) ≠ 2 by omega)]; done) | (rw [if_pos (show (tK (tc (G 3) tn) tn) (i0 + 1 + 1) ≠ 2 by omega)]; done)
                            have hL : isL (tK (tc (G 3) tn) tn) i0 = false := isL_f (fun z => by have h0 : tK (tc (G 3) tn) tn (i0 + 1) = 61 ∧ tK (tc (G 3) tn) tn (i0 + 1 + 1) = 91 := z; omega)
                            rw [hA]
                            refine ⟨upd (G 10) m0 (nI kk), upd (G 11) m0 (r7 (tc (G 3) tn) tn (tS (tc (G 3) tn) tn ((i0 + 1) + 1)) (r7 (tc (G 3) tn) tn (tS (tc (G 3) tn) tn (i0 + 1)) (f7))), G 12, G 13, c0, r7 (tc (G 3) tn) tn (tS (tc (G 3) tn) tn ((i0 + 1) + 1)) (r7 (tc (G 3) tn) tn (tS (tc (G 3) tn) tn (i0 + 1)) (f7)), rfl, rfl, fun k hk => ⟨?_, ?_, ?_⟩, fun k hk => ?_, fun hz => ?_⟩
                            · first | rfl | exact upd_ne hk
                            · first | rfl | exact upd_ne hk
                            · rfl
                            · rfl
                            · refine ⟨?_, ?_, fun hx => ?_, ?_, fun j hj => ?_⟩
                              · rw [upd_eq, hkk]; unfold sac; rw [hL]; rfl
                              · rw [upd_eq]; unfold sfi; rw [hL]; exact r7_v (Or.inl (show tK (tc (G 3) tn) tn (i0 + 1 + 1) = 2 by omega))
                              · exfalso; rw [hL] at hx; rcases hx with hx | hx
                                · omega
                                · exact Bool.noConfusion hx
                              · unfold slc; rw [hL]; rfl
                              · unfold slc at hj; rw [hL] at hj; exact absurd hj (Nat.not_lt_zero _)
                          · skip
                            obtain ⟨rfl, hv10⟩ := (hu10.2 hc10)
                            cases hv10
                            refine zz_world (P' := (RP D C K (upd (upd (upd (upd (upd F 5 (nI (rk (tK (tc (G 3) tn) tn (((i0 + 1) + 1)))))) 6 (nI (tS (tc (G 3) tn) tn (((i0 + 1) + 1))))) 7 (r7 (tc (G 3) tn) tn (tS (tc (G 3) tn) tn (((i0 + 1) + 1))) ((r7 (tc (G 3) tn) tn (tS (tc (G 3) tn) tn (i0 + 1)) (f7))))) 8 (nI (tE (tc (G 3) tn) tn (((i0 + 1) + 1))))) 15 (nI c0)) hs mv (va_up (va_up (va_up (va_up G 10 (upd (G 10) m0 (nI kk))) 11 (upd (G 11) m0 (r7 (tc (G 3) tn) tn (tS (tc (G 3) tn) tn ((i0 + 1) + 1)) (r7 (tc (G 3) tn) tn (tS (tc (G 3) tn) tn (i0 + 1)) (f7))))) 12 (G 12)) 13 (G 13)))) (fun _ h => h) ?_
                            rw [← hQ]
                            refine zz_iret 136 X.1 hr (bI_nar _) hlk (upd (upd (upd (upd (upd F 5 (nI (rk (tK (tc (G 3) tn) tn (((i0 + 1) + 1)))))) 6 (nI (tS (tc (G 3) tn) tn (((i0 + 1) + 1))))) 7 (r7 (tc (G 3) tn) tn (tS (tc (G 3) tn) tn (((i0 + 1) + 1))) ((r7 (tc (G 3) tn) tn (tS (tc (G 3) tn) tn (i0 + 1)) (f7))))) 8 (nI (tE (tc (G 3) tn) tn (((i0 + 1) + 1))))) 15 (nI c0), hs, mv, va_up (va_up (va_up (va_up G 10 (upd (G 10) m0 (nI kk))) 11 (upd (G 11) m0 (r7 (tc (G 3) tn) tn (tS (tc (G 3) tn) tn ((i0 + 1) + 1)) (r7 (tc (G 3) tn) tn (tS (tc (G 3) tn) tn (i0 + 1)) (f7))))) 12 (G 12)) 13 (G 13)) ?_ (fun _ h _ => h) dX7_readsAction_136
                            have hA : acR (tK (tc (G 3) tn) tn) (i0 + 1) = (false, ((i0 + 1) + 1)) := by
                              unfold acR
                              rw [if_neg (show ¬ ((tK (tc (G 3) tn) tn) (i0 + 1) = 43 ∨ (tK (tc (G 3) tn) tn) (i0 + 1) = 45 ∨ (tK (tc (G 3) tn) tn) (i0 + 1) = 94) by omega), if_neg (show ¬ ((tK (tc (G 3) tn) tn) (i0 + 1) = 61 ∧ (tK (tc (G 3) tn) tn) (i0 + 1 + 1) = 91) by omega), if_pos (show (tK (tc (G 3) tn) tn) (i0 + 1) = 38 ∨ (tK (tc (G 3) tn) tn) (i0 + 1) = 124 ∨ (tK (tc (G 3) tn) tn) (i0 + 1) = 126 ∨ (tK (tc (G 3) tn) tn) (i0 + 1) = 33 ∨ (tK (tc (G 3) tn) tn) (i0 + 1) = 61 by omega)]
                              unfold seR
                              first | (rw [if_neg (show ¬ (tK (tc (G 3) tn) tn) (i0 + 1 + 1) ≠ 2 by omega)]; done) | (rw [if_pos (show (tK (tc (G 3) tn) tn) (i0 + 1 + 1) ≠ 2 by omega)]; done)
                            have hL : isL (tK (tc (G 3) tn) tn) i0 = false := isL_f (fun z => by have h0 : tK (tc (G 3) tn) tn (i0 + 1) = 61 ∧ tK (tc (G 3) tn) tn (i0 + 1 + 1) = 91 := z; omega)
                            rw [hA]
                            refine ⟨upd (G 10) m0 (nI kk), upd (G 11) m0 (r7 (tc (G 3) tn) tn (tS (tc (G 3) tn) tn ((i0 + 1) + 1)) (r7 (tc (G 3) tn) tn (tS (tc (G 3) tn) tn (i0 + 1)) (f7))), G 12, G 13, c0, (r7 (tc (G 3) tn) tn (tS (tc (G 3) tn) tn (i0 + 1)) (f7)), rfl, rfl, fun k hk => ⟨?_, ?_, ?_⟩, fun k hk => ?_, fun hz => ?_⟩
                            · first | rfl | exact upd_ne hk
                            · first | rfl | exact upd_ne hk
                            · rfl
                            · rfl
                            · exact Bool.noConfusion hz
                        · exfalso; omega
                      · exfalso; omega
                refine zz_lvs [2, 1] rfl ?_
                exact C85  (by omega)
              · exfalso; omega
            · skip
              refine zz_iload_n 55 X.1 0 dX7_readsAction_55 rfl ?_
              refine zz_bipush 56 X.1 (v := nI 126) dX7_readsAction_56 rfl ?_
              refine zz_icmp_eq 58 73 X.1 (nI_toInt (by omega)) (nI_toInt (by omega)) dX7_readsAction_58 (by decide) (fun h58 => ?_) (fun h58 => ?_)
              · skip
                refine zz_iconst 73 X.1 (v := nI 1) dX7_readsAction_73 rfl ?_
                refine zz_goto 74 78 X.1 dX7_readsAction_74 (by decide) ?_
                refine zz_istore_n 78 X.1 (lv' := [(2, .int (nI 1)), (1, .int (nI kk)), (0, .ref (K 0))]) dX7_readsAction_78 (by decide) rfl ?_
                refine zz_iload_n 79 X.1 0 dX7_readsAction_79 rfl ?_
                refine zz_if_ne 80 85 X.1 (nI_toInt (by omega)) dX7_readsAction_80 (by decide) (fun h80 => ?_) (fun h80 => ?_)
                · skip
                  have C85 : ∀  (hkO : kk = 43 ∨ kk = 45 ∨ kk = 94 ∨ kk = 38 ∨ kk = 124 ∨ kk = 126 ∨ kk = 33 ∨ kk = 61), ZZ p l e rm_X7_readsAction s m args below meth c 0 0 Q (zz_A (RAd K) s.heap.size) (RP D C K (upd (upd (upd (upd (upd F 5 (nI (rk (tK (tc (G 3) tn) tn (i0 + 1))))) 6 (nI (tS (tc (G 3) tn) tn (i0 + 1)))) 7 (r7 (tc (G 3) tn) tn (tS (tc (G 3) tn) tn (i0 + 1)) (f7))) 8 (nI (tE (tc (G 3) tn) tn (i0 + 1)))) 15 (nI c0)) hs mv (va_up (va_up (va_up (va_up G 10 (upd (G 10) m0 (nI kk))) 11 (G 11)) 12 (G 12)) 13 (G 13))) 3 [(0, .ref (K 0)), (1, .int (nI kk))] [] 85 := by
                    intro hkO
                    refine zz_aload_n 85 X.1 0 dX7_readsAction_85 rfl ?_
                    refine rr_callVv 86 X hml (As := []) (kt_X7_reads l D C K hAp (upd (upd (upd (upd (upd F 5 (nI (rk (tK (tc (G 3) tn) tn (i0 + 1))))) 6 (nI (tS (tc (G 3) tn) tn (i0 + 1)))) 7 (r7 (tc (G 3) tn) tn (tS (tc (G 3) tn) tn (i0 + 1)) (f7))) 8 (nI (tE (tc (G 3) tn) tn (i0 + 1)))) 15 (nI c0)) hs mv (va_up (va_up (va_up (va_up G 10 (upd (G 10) m0 (nI kk))) 11 (G 11)) 12 (G 12)) 13 (G 13)) (i0 + 1) tn (hT) (by first | rfl | assumption | omega) (by first | rfl | assumption | omega) (by first | rfl | assumption | omega)) gX7_readsAction_X7_reads rfl ⟨rfl, rfl⟩ yd_X7_reads ⟨Nat.le_of_ble_eq_true rfl, Nat.le_of_ble_eq_true rfl⟩ rfl rfl (Nat.le_of_ble_eq_true rfl) dX7_readsAction_86 ?_
                    rintro ⟨F11, hs11, mv11, G11⟩ hu11
                    cases hu11
                    refine zz_world (P' := (RP D C K (upd (upd (upd (upd (upd F 5 (nI (rk (tK (tc (G 3) tn) tn ((i0 + 1) + 1))))) 6 (nI (tS (tc (G 3) tn) tn ((i0 + 1) + 1)))) 7 (r7 (tc (G 3) tn) tn (tS (tc (G 3) tn) tn ((i0 + 1) + 1)) (r7 (tc (G 3) tn) tn (tS (tc (G 3) tn) tn (i0 + 1)) (f7)))) 8 (nI (tE (tc (G 3) tn) tn ((i0 + 1) + 1)))) 15 (nI c0)) hs mv (va_up (va_up (va_up (va_up G 10 (upd (G 10) m0 (nI kk))) 11 (G 11)) 12 (G 12)) 13 (G 13)))) (fun _ h => h) ?_
                    have hrk2 := rk_is (tK (tc (G 3) tn) tn (i0 + 1 + 1))
                    refine zz_iload_n 89 X.1 1 dX7_readsAction_89 rfl ?_
                    refine zz_bipush 90 X.1 (v := nI 43) dX7_readsAction_90 rfl ?_
                    refine zz_icmp_eq 92 107 X.1 (nI_toInt (by omega)) (nI_toInt (by omega)) dX7_readsAction_92 (by decide) (fun h92 => ?_) (fun h92 => ?_)
                    · exfalso; omega
                    · skip
                      refine zz_iload_n 95 X.1 1 dX7_readsAction_95 rfl ?_
                      refine zz_bipush 96 X.1 (v := nI 45) dX7_readsAction_96 rfl ?_
                      refine zz_icmp_eq 98 107 X.1 (nI_toInt (by omega)) (nI_toInt (by omega)) dX7_readsAction_98 (by decide) (fun h98 => ?_) (fun h98 => ?_)
                      · exfalso; omega
                      · skip
                        refine zz_iload_n 101 X.1 1 dX7_readsAction_101 rfl ?_
                        refine zz_bipush 102 X.1 (v := nI 94) dX7_readsAction_102 rfl ?_
                        refine zz_icmp_ne 104 112 X.1 (nI_toInt (by omega)) (nI_toInt (by omega)) dX7_readsAction_104 (by decide) (fun h104 => ?_) (fun h104 => ?_)
                        · skip
                          refine zz_iload_n 112 X.1 1 dX7_readsAction_112 rfl ?_
                          refine zz_bipush 113 X.1 (v := nI 61) dX7_readsAction_113 rfl ?_
                          refine zz_icmp_ne 115 132 X.1 (nI_toInt (by omega)) (nI_toInt (by omega)) dX7_readsAction_115 (by decide) (fun h115 => ?_) (fun h115 => ?_)
                          · skip
                            refine zz_aload_n 132 X.1 0 dX7_readsAction_132 rfl ?_
                            refine rr_callVi 133 X hml (As := []) (kt_X7_readsSet l D C K hAp (upd (upd (upd (upd (upd F 5 (nI (rk (tK (tc (G 3) tn) tn ((i0 + 1) + 1))))) 6 (nI (tS (tc (G 3) tn) tn ((i0 + 1) + 1)))) 7 (r7 (tc (G 3) tn) tn (tS (tc (G 3) tn) tn ((i0 + 1) + 1)) (r7 (tc (G 3) tn) tn (tS (tc (G 3) tn) tn (i0 + 1)) (f7)))) 8 (nI (tE (tc (G 3) tn) tn ((i0 + 1) + 1)))) 15 (nI c0)) hs mv (va_up (va_up (va_up (va_up G 10 (upd (G 10) m0 (nI kk))) 11 (G 11)) 12 (G 12)) 13 (G 13)) ((i0 + 1) + 1) (r7 (tc (G 3) tn) tn (tS (tc (G 3) tn) tn (i0 + 1)) (f7)) tn m0 (hT) (by first | rfl | assumption | omega) (by first | rfl | assumption | omega) (by first | rfl | assumption | omega) (by first | rfl | assumption | omega) (by first | rfl | assumption | omega) (by first | rfl | assumption | omega) (h14) (by first | rfl | assumption | omega)) gX7_readsAction_X7_readsSet rfl ⟨rfl, rfl⟩ yd_X7_readsSet ⟨Nat.le_of_ble_eq_true rfl, Nat.le_of_ble_eq_true rfl⟩ rfl rfl (Nat.le_of_ble_eq_true rfl) dX7_readsAction_133 ?_
                            rintro r12 ⟨F12, hs12, mv12, G12⟩ hu12
                            rcases (show (tK (tc (G 3) tn) tn (((i0 + 1) + 1)) = 2) ∨ (tK (tc (G 3) tn) tn (((i0 + 1) + 1)) ≠ 2) by omega) with hc12 | hc12
                            · skip
                              obtain ⟨rfl, hv12⟩ := (hu12.1 hc12)
                              cases hv12
                              refine zz_world (P' := (RP D C K (upd (upd (upd (upd (upd F 5 (nI (rk (tK (tc (G 3) tn) tn (((i0 + 1) + 1) + 1))))) 6 (nI (tS (tc (G 3) tn) tn (((i0 + 1) + 1) + 1)))) 7 (r7 (tc (G 3) tn) tn (tS (tc (G 3) tn) tn (((i0 + 1) + 1) + 1)) (r7 (tc (G 3) tn) tn (tS (tc (G 3) tn) tn ((i0 + 1) + 1)) (r7 (tc (G 3) tn) tn (tS (tc (G 3) tn) tn (i0 + 1)) (f7))))) 8 (nI (tE (tc (G 3) tn) tn (((i0 + 1) + 1) + 1)))) 15 (nI c0)) hs mv (va_up (va_up (va_up (va_up G 10 (upd (G 10) m0 (nI kk))) 11 (upd (G 11) m0 (r7 (tc (G 3) tn) tn (tS (tc (G 3) tn) tn ((i0 + 1) + 1)) (r7 (tc (G 3) tn) tn (tS (tc (G 3) tn) tn (i0 + 1)) (f7))))) 12 (G 12)) 13 (G 13)))) (fun _ h => h) ?_
                              rw [← hQ]
                              refine zz_iret 136 X.1 hr (bI_nar _) hlk (upd (upd (upd (upd (upd F 5 (nI (rk (tK (tc (G 3) tn) tn (((i0 + 1) + 1) + 1))))) 6 (nI (tS (tc (G 3) tn) tn (((i0 + 1) + 1) + 1)))) 7 (r7 (tc (G 3) tn) tn (tS (tc (G 3) tn) tn (((i0 + 1) + 1) + 1)) (r7 (tc (G 3) tn) tn (tS (tc (G 3) tn) tn ((i0 + 1) + 1)) (r7 (tc (G 3) tn) tn (tS (tc (G 3) tn) tn (i0 + 1)) (f7))))) 8 (nI (tE (tc (G 3) tn) tn (((i0 + 1) + 1) + 1)))) 15 (nI c0), hs, mv, va_up (va_up (va_up (va_up G 10 (upd (G 10) m0 (nI kk))) 11 (upd (G 11) m0 (r7 (tc (G 3) tn) tn (tS (tc (G 3) tn) tn ((i0 + 1) + 1)) (r7 (tc (G 3) tn) tn (tS (tc (G 3) tn) tn (i0 + 1)) (f7))))) 12 (G 12)) 13 (G 13)) ?_ (fun _ h _ => h) dX7_readsAction_136
                              have hA : acR (tK (tc (G 3) tn) tn) (i0 + 1) = (true, ((i0 + 1) + 1) + 1) := by
                                unfold acR
                                rw [if_neg (show ¬ ((tK (tc (G 3) tn) tn) (i0 + 1) = 43 ∨ (tK (tc (G 3) tn) tn) (i0 + 1) = 45 ∨ (tK (tc (G 3) tn) tn) (i0 + 1) = 94) by omega), if_neg (show ¬ ((tK (tc (G 3) tn) tn) (i0 + 1) = 61 ∧ (tK (tc (G 3) tn) tn) (i0 + 1 + 1) = 91) by omega), if_pos (show (tK (tc (G 3) tn) tn) (i0 + 1) = 38 ∨ (tK (tc (G 3) tn) tn) (i0 + 1) = 124 ∨ (tK (tc (G 3) tn) tn) (i0 + 1) = 126 ∨ (tK (tc (G 3) tn) tn) (i0 + 1) = 33 ∨ (tK (tc (G 3) tn) tn) (i0 + 1) = 61 by omega)]
                                unfold seR
                                first | (rw [if_neg (show ¬ (tK (tc (G 3) tn) tn) (i0 + 1 + 1) ≠ 2 by omega)]; done) | (rw [if_pos (show (tK (tc (G 3) tn) tn) (i0 + 1 + 1) ≠ 2 by omega)]; done)
                              have hL : isL (tK (tc (G 3) tn) tn) i0 = false := isL_f (fun z => by have h0 : tK (tc (G 3) tn) tn (i0 + 1) = 61 ∧ tK (tc (G 3) tn) tn (i0 + 1 + 1) = 91 := z; omega)
                              rw [hA]
                              refine ⟨upd (G 10) m0 (nI kk), upd (G 11) m0 (r7 (tc (G 3) tn) tn (tS (tc (G 3) tn) tn ((i0 + 1) + 1)) (r7 (tc (G 3) tn) tn (tS (tc (G 3) tn) tn (i0 + 1)) (f7))), G 12, G 13, c0, r7 (tc (G 3) tn) tn (tS (tc (G 3) tn) tn ((i0 + 1) + 1)) (r7 (tc (G 3) tn) tn (tS (tc (G 3) tn) tn (i0 + 1)) (f7)), rfl, rfl, fun k hk => ⟨?_, ?_, ?_⟩, fun k hk => ?_, fun hz => ?_⟩
                              · first | rfl | exact upd_ne hk
                              · first | rfl | exact upd_ne hk
                              · rfl
                              · rfl
                              · refine ⟨?_, ?_, fun hx => ?_, ?_, fun j hj => ?_⟩
                                · rw [upd_eq, hkk]; unfold sac; rw [hL]; rfl
                                · rw [upd_eq]; unfold sfi; rw [hL]; exact r7_v (Or.inl (show tK (tc (G 3) tn) tn (i0 + 1 + 1) = 2 by omega))
                                · exfalso; rw [hL] at hx; rcases hx with hx | hx
                                  · omega
                                  · exact Bool.noConfusion hx
                                · unfold slc; rw [hL]; rfl
                                · unfold slc at hj; rw [hL] at hj; exact absurd hj (Nat.not_lt_zero _)
                            · skip
                              obtain ⟨rfl, hv12⟩ := (hu12.2 hc12)
                              cases hv12
                              refine zz_world (P' := (RP D C K (upd (upd (upd (upd (upd F 5 (nI (rk (tK (tc (G 3) tn) tn (((i0 + 1) + 1)))))) 6 (nI (tS (tc (G 3) tn) tn (((i0 + 1) + 1))))) 7 (r7 (tc (G 3) tn) tn (tS (tc (G 3) tn) tn (((i0 + 1) + 1))) ((r7 (tc (G 3) tn) tn (tS (tc (G 3) tn) tn (i0 + 1)) (f7))))) 8 (nI (tE (tc (G 3) tn) tn (((i0 + 1) + 1))))) 15 (nI c0)) hs mv (va_up (va_up (va_up (va_up G 10 (upd (G 10) m0 (nI kk))) 11 (upd (G 11) m0 (r7 (tc (G 3) tn) tn (tS (tc (G 3) tn) tn ((i0 + 1) + 1)) (r7 (tc (G 3) tn) tn (tS (tc (G 3) tn) tn (i0 + 1)) (f7))))) 12 (G 12)) 13 (G 13)))) (fun _ h => h) ?_
                              rw [← hQ]
                              refine zz_iret 136 X.1 hr (bI_nar _) hlk (upd (upd (upd (upd (upd F 5 (nI (rk (tK (tc (G 3) tn) tn (((i0 + 1) + 1)))))) 6 (nI (tS (tc (G 3) tn) tn (((i0 + 1) + 1))))) 7 (r7 (tc (G 3) tn) tn (tS (tc (G 3) tn) tn (((i0 + 1) + 1))) ((r7 (tc (G 3) tn) tn (tS (tc (G 3) tn) tn (i0 + 1)) (f7))))) 8 (nI (tE (tc (G 3) tn) tn (((i0 + 1) + 1))))) 15 (nI c0), hs, mv, va_up (va_up (va_up (va_up G 10 (upd (G 10) m0 (nI kk))) 11 (upd (G 11) m0 (r7 (tc (G 3) tn) tn (tS (tc (G 3) tn) tn ((i0 + 1) + 1)) (r7 (tc (G 3) tn) tn (tS (tc (G 3) tn) tn (i0 + 1)) (f7))))) 12 (G 12)) 13 (G 13)) ?_ (fun _ h _ => h) dX7_readsAction_136
                              have hA : acR (tK (tc (G 3) tn) tn) (i0 + 1) = (false, ((i0 + 1) + 1)) := by
                                unfold acR
                                rw [if_neg (show ¬ ((tK (tc (G 3) tn) tn) (i0 + 1) = 43 ∨ (tK (tc (G 3) tn) tn) (i0 + 1) = 45 ∨ (tK (tc (G 3) tn) tn) (i0 + 1) = 94) by omega), if_neg (show ¬ ((tK (tc (G 3) tn) tn) (i0 + 1) = 61 ∧ (tK (tc (G 3) tn) tn) (i0 + 1 + 1) = 91) by omega), if_pos (show (tK (tc (G 3) tn) tn) (i0 + 1) = 38 ∨ (tK (tc (G 3) tn) tn) (i0 + 1) = 124 ∨ (tK (tc (G 3) tn) tn) (i0 + 1) = 126 ∨ (tK (tc (G 3) tn) tn) (i0 + 1) = 33 ∨ (tK (tc (G 3) tn) tn) (i0 + 1) = 61 by omega)]
                                unfold seR
                                first | (rw [if_neg (show ¬ (tK (tc (G 3) tn) tn) (i0 + 1 + 1) ≠ 2 by omega)]; done) | (rw [if_pos (show (tK (tc (G 3) tn) tn) (i0 + 1 + 1) ≠ 2 by omega)]; done)
                              have hL : isL (tK (tc (G 3) tn) tn) i0 = false := isL_f (fun z => by have h0 : tK (tc (G 3) tn) tn (i0 + 1) = 61 ∧ tK (tc (G 3) tn) tn (i0 + 1 + 1) = 91 := z; omega)
                              rw [hA]
                              refine ⟨upd (G 10) m0 (nI kk), upd (G 11) m0 (r7 (tc (G 3) tn) tn (tS (tc (G 3) tn) tn ((i0 + 1) + 1)) (r7 (tc (G 3) tn) tn (tS (tc (G 3) tn) tn (i0 + 1)) (f7))), G 12, G 13, c0, (r7 (tc (G 3) tn) tn (tS (tc (G 3) tn) tn (i0 + 1)) (f7)), rfl, rfl, fun k hk => ⟨?_, ?_, ?_⟩, fun k hk => ?_, fun hz => ?_⟩
                              · first | rfl | exact upd_ne hk
                              · first | rfl | exact upd_ne hk
                              · rfl
                              · rfl
                              · exact Bool.noConfusion hz
                          · exfalso; omega
                        · exfalso; omega
                  refine zz_lvs [2, 1] rfl ?_
                  exact C85  (by omega)
                · exfalso; omega
              · skip
                refine zz_iload_n 61 X.1 0 dX7_readsAction_61 rfl ?_
                refine zz_bipush 62 X.1 (v := nI 33) dX7_readsAction_62 rfl ?_
                refine zz_icmp_eq 64 73 X.1 (nI_toInt (by omega)) (nI_toInt (by omega)) dX7_readsAction_64 (by decide) (fun h64 => ?_) (fun h64 => ?_)
                · skip
                  refine zz_iconst 73 X.1 (v := nI 1) dX7_readsAction_73 rfl ?_
                  refine zz_goto 74 78 X.1 dX7_readsAction_74 (by decide) ?_
                  refine zz_istore_n 78 X.1 (lv' := [(2, .int (nI 1)), (1, .int (nI kk)), (0, .ref (K 0))]) dX7_readsAction_78 (by decide) rfl ?_
                  refine zz_iload_n 79 X.1 0 dX7_readsAction_79 rfl ?_
                  refine zz_if_ne 80 85 X.1 (nI_toInt (by omega)) dX7_readsAction_80 (by decide) (fun h80 => ?_) (fun h80 => ?_)
                  · skip
                    have C85 : ∀  (hkO : kk = 43 ∨ kk = 45 ∨ kk = 94 ∨ kk = 38 ∨ kk = 124 ∨ kk = 126 ∨ kk = 33 ∨ kk = 61), ZZ p l e rm_X7_readsAction s m args below meth c 0 0 Q (zz_A (RAd K) s.heap.size) (RP D C K (upd (upd (upd (upd (upd F 5 (nI (rk (tK (tc (G 3) tn) tn (i0 + 1))))) 6 (nI (tS (tc (G 3) tn) tn (i0 + 1)))) 7 (r7 (tc (G 3) tn) tn (tS (tc (G 3) tn) tn (i0 + 1)) (f7))) 8 (nI (tE (tc (G 3) tn) tn (i0 + 1)))) 15 (nI c0)) hs mv (va_up (va_up (va_up (va_up G 10 (upd (G 10) m0 (nI kk))) 11 (G 11)) 12 (G 12)) 13 (G 13))) 3 [(0, .ref (K 0)), (1, .int (nI kk))] [] 85 := by
                      intro hkO
                      refine zz_aload_n 85 X.1 0 dX7_readsAction_85 rfl ?_
                      refine rr_callVv 86 X hml (As := []) (kt_X7_reads l D C K hAp (upd (upd (upd (upd (upd F 5 (nI (rk (tK (tc (G 3) tn) tn (i0 + 1))))) 6 (nI (tS (tc (G 3) tn) tn (i0 + 1)))) 7 (r7 (tc (G 3) tn) tn (tS (tc (G 3) tn) tn (i0 + 1)) (f7))) 8 (nI (tE (tc (G 3) tn) tn (i0 + 1)))) 15 (nI c0)) hs mv (va_up (va_up (va_up (va_up G 10 (upd (G 10) m0 (nI kk))) 11 (G 11)) 12 (G 12)) 13 (G 13)) (i0 + 1) tn (hT) (by first | rfl | assumption | omega) (by first | rfl | assumption | omega) (by first | rfl | assumption | omega)) gX7_readsAction_X7_reads rfl ⟨rfl, rfl⟩ yd_X7_reads ⟨Nat.le_of_ble_eq_true rfl, Nat.le_of_ble_eq_true rfl⟩ rfl rfl (Nat.le_of_ble_eq_true rfl) dX7_readsAction_86 ?_
                      rintro ⟨F13, hs13, mv13, G13⟩ hu13
                      cases hu13
                      refine zz_world (P' := (RP D C K (upd (upd (upd (upd (upd F 5 (nI (rk (tK (tc (G 3) tn) tn ((i0 + 1) + 1))))) 6 (nI (tS (tc (G 3) tn) tn ((i0 + 1) + 1)))) 7 (r7 (tc (G 3) tn) tn (tS (tc (G 3) tn) tn ((i0 + 1) + 1)) (r7 (tc (G 3) tn) tn (tS (tc (G 3) tn) tn (i0 + 1)) (f7)))) 8 (nI (tE (tc (G 3) tn) tn ((i0 + 1) + 1)))) 15 (nI c0)) hs mv (va_up (va_up (va_up (va_up G 10 (upd (G 10) m0 (nI kk))) 11 (G 11)) 12 (G 12)) 13 (G 13)))) (fun _ h => h) ?_
                      have hrk2 := rk_is (tK (tc (G 3) tn) tn (i0 + 1 + 1))
                      refine zz_iload_n 89 X.1 1 dX7_readsAction_89 rfl ?_
                      refine zz_bipush 90 X.1 (v := nI 43) dX7_readsAction_90 rfl ?_
                      refine zz_icmp_eq 92 107 X.1 (nI_toInt (by omega)) (nI_toInt (by omega)) dX7_readsAction_92 (by decide) (fun h92 => ?_) (fun h92 => ?_)
                      · exfalso; omega
                      · skip
                        refine zz_iload_n 95 X.1 1 dX7_readsAction_95 rfl ?_
                        refine zz_bipush 96 X.1 (v := nI 45) dX7_readsAction_96 rfl ?_
                        refine zz_icmp_eq 98 107 X.1 (nI_toInt (by omega)) (nI_toInt (by omega)) dX7_readsAction_98 (by decide) (fun h98 => ?_) (fun h98 => ?_)
                        · exfalso; omega
                        · skip
                          refine zz_iload_n 101 X.1 1 dX7_readsAction_101 rfl ?_
                          refine zz_bipush 102 X.1 (v := nI 94) dX7_readsAction_102 rfl ?_
                          refine zz_icmp_ne 104 112 X.1 (nI_toInt (by omega)) (nI_toInt (by omega)) dX7_readsAction_104 (by decide) (fun h104 => ?_) (fun h104 => ?_)
                          · skip
                            refine zz_iload_n 112 X.1 1 dX7_readsAction_112 rfl ?_
                            refine zz_bipush 113 X.1 (v := nI 61) dX7_readsAction_113 rfl ?_
                            refine zz_icmp_ne 115 132 X.1 (nI_toInt (by omega)) (nI_toInt (by omega)) dX7_readsAction_115 (by decide) (fun h115 => ?_) (fun h115 => ?_)
                            · skip
                              refine zz_aload_n 132 X.1 0 dX7_readsAction_132 rfl ?_
                              refine rr_callVi 133 X hml (As := []) (kt_X7_readsSet l D C K hAp (upd (upd (upd (upd (upd F 5 (nI (rk (tK (tc (G 3) tn) tn ((i0 + 1) + 1))))) 6 (nI (tS (tc (G 3) tn) tn ((i0 + 1) + 1)))) 7 (r7 (tc (G 3) tn) tn (tS (tc (G 3) tn) tn ((i0 + 1) + 1)) (r7 (tc (G 3) tn) tn (tS (tc (G 3) tn) tn (i0 + 1)) (f7)))) 8 (nI (tE (tc (G 3) tn) tn ((i0 + 1) + 1)))) 15 (nI c0)) hs mv (va_up (va_up (va_up (va_up G 10 (upd (G 10) m0 (nI kk))) 11 (G 11)) 12 (G 12)) 13 (G 13)) ((i0 + 1) + 1) (r7 (tc (G 3) tn) tn (tS (tc (G 3) tn) tn (i0 + 1)) (f7)) tn m0 (hT) (by first | rfl | assumption | omega) (by first | rfl | assumption | omega) (by first | rfl | assumption | omega) (by first | rfl | assumption | omega) (by first | rfl | assumption | omega) (by first | rfl | assumption | omega) (h14) (by first | rfl | assumption | omega)) gX7_readsAction_X7_readsSet rfl ⟨rfl, rfl⟩ yd_X7_readsSet ⟨Nat.le_of_ble_eq_true rfl, Nat.le_of_ble_eq_true rfl⟩ rfl rfl (Nat.le_of_ble_eq_true rfl) dX7_readsAction_133 ?_
                              rintro r14 ⟨F14, hs14, mv14, G14⟩ hu14
                              rcases (show (tK (tc (G 3) tn) tn (((i0 + 1) + 1)) = 2) ∨ (tK (tc (G 3) tn) tn (((i0 + 1) + 1)) ≠ 2) by omega) with hc14 | hc14
                              · skip
                                obtain ⟨rfl, hv14⟩ := (hu14.1 hc14)
                                cases hv14
                                refine zz_world (P' := (RP D C K (upd (upd (upd (upd (upd F 5 (nI (rk (tK (tc (G 3) tn) tn (((i0 + 1) + 1) + 1))))) 6 (nI (tS (tc (G 3) tn) tn (((i0 + 1) + 1) + 1)))) 7 (r7 (tc (G 3) tn) tn (tS (tc (G 3) tn) tn (((i0 + 1) + 1) + 1)) (r7 (tc (G 3) tn) tn (tS (tc (G 3) tn) tn ((i0 + 1) + 1)) (r7 (tc (G 3) tn) tn (tS (tc (G 3) tn) tn (i0 + 1)) (f7))))) 8 (nI (tE (tc (G 3) tn) tn (((i0 + 1) + 1) + 1)))) 15 (nI c0)) hs mv (va_up (va_up (va_up (va_up G 10 (upd (G 10) m0 (nI kk))) 11 (upd (G 11) m0 (r7 (tc (G 3) tn) tn (tS (tc (G 3) tn) tn ((i0 + 1) + 1)) (r7 (tc (G 3) tn) tn (tS (tc (G 3) tn) tn (i0 + 1)) (f7))))) 12 (G 12)) 13 (G 13)))) (fun _ h => h) ?_
                                rw [← hQ]
                                refine zz_iret 136 X.1 hr (bI_nar _) hlk (upd (upd (upd (upd (upd F 5 (nI (rk (tK (tc (G 3) tn) tn (((i0 + 1) + 1) + 1))))) 6 (nI (tS (tc (G 3) tn) tn (((i0 + 1) + 1) + 1)))) 7 (r7 (tc (G 3) tn) tn (tS (tc (G 3) tn) tn (((i0 + 1) + 1) + 1)) (r7 (tc (G 3) tn) tn (tS (tc (G 3) tn) tn ((i0 + 1) + 1)) (r7 (tc (G 3) tn) tn (tS (tc (G 3) tn) tn (i0 + 1)) (f7))))) 8 (nI (tE (tc (G 3) tn) tn (((i0 + 1) + 1) + 1)))) 15 (nI c0), hs, mv, va_up (va_up (va_up (va_up G 10 (upd (G 10) m0 (nI kk))) 11 (upd (G 11) m0 (r7 (tc (G 3) tn) tn (tS (tc (G 3) tn) tn ((i0 + 1) + 1)) (r7 (tc (G 3) tn) tn (tS (tc (G 3) tn) tn (i0 + 1)) (f7))))) 12 (G 12)) 13 (G 13)) ?_ (fun _ h _ => h) dX7_readsAction_136
                                have hA : acR (tK (tc (G 3) tn) tn) (i0 + 1) = (true, ((i0 + 1) + 1) + 1) := by
                                  unfold acR
                                  rw [if_neg (show ¬ ((tK (tc (G 3) tn) tn) (i0 + 1) = 43 ∨ (tK (tc (G 3) tn) tn) (i0 + 1) = 45 ∨ (tK (tc (G 3) tn) tn) (i0 + 1) = 94) by omega), if_neg (show ¬ ((tK (tc (G 3) tn) tn) (i0 + 1) = 61 ∧ (tK (tc (G 3) tn) tn) (i0 + 1 + 1) = 91) by omega), if_pos (show (tK (tc (G 3) tn) tn) (i0 + 1) = 38 ∨ (tK (tc (G 3) tn) tn) (i0 + 1) = 124 ∨ (tK (tc (G 3) tn) tn) (i0 + 1) = 126 ∨ (tK (tc (G 3) tn) tn) (i0 + 1) = 33 ∨ (tK (tc (G 3) tn) tn) (i0 + 1) = 61 by omega)]
                                  unfold seR
                                  first | (rw [if_neg (show ¬ (tK (tc (G 3) tn) tn) (i0 + 1 + 1) ≠ 2 by omega)]; done) | (rw [if_pos (show (tK (tc (G 3) tn) tn) (i0 + 1 + 1) ≠ 2 by omega)]; done)
                                have hL : isL (tK (tc (G 3) tn) tn) i0 = false := isL_f (fun z => by have h0 : tK (tc (G 3) tn) tn (i0 + 1) = 61 ∧ tK (tc (G 3) tn) tn (i0 + 1 + 1) = 91 := z; omega)
                                rw [hA]
                                refine ⟨upd (G 10) m0 (nI kk), upd (G 11) m0 (r7 (tc (G 3) tn) tn (tS (tc (G 3) tn) tn ((i0 + 1) + 1)) (r7 (tc (G 3) tn) tn (tS (tc (G 3) tn) tn (i0 + 1)) (f7))), G 12, G 13, c0, r7 (tc (G 3) tn) tn (tS (tc (G 3) tn) tn ((i0 + 1) + 1)) (r7 (tc (G 3) tn) tn (tS (tc (G 3) tn) tn (i0 + 1)) (f7)), rfl, rfl, fun k hk => ⟨?_, ?_, ?_⟩, fun k hk => ?_, fun hz => ?_⟩
                                · first | rfl | exact upd_ne hk
                                · first | rfl | exact upd_ne hk
                                · rfl
                                · rfl
                                · refine ⟨?_, ?_, fun hx => ?_, ?_, fun j hj => ?_⟩
                                  · rw [upd_eq, hkk]; unfold sac; rw [hL]; rfl
                                  · rw [upd_eq]; unfold sfi; rw [hL]; exact r7_v (Or.inl (show tK (tc (G 3) tn) tn (i0 + 1 + 1) = 2 by omega))
                                  · exfalso; rw [hL] at hx; rcases hx with hx | hx
                                    · omega
                                    · exact Bool.noConfusion hx
                                  · unfold slc; rw [hL]; rfl
                                  · unfold slc at hj; rw [hL] at hj; exact absurd hj (Nat.not_lt_zero _)
                              · skip
                                obtain ⟨rfl, hv14⟩ := (hu14.2 hc14)
                                cases hv14
                                refine zz_world (P' := (RP D C K (upd (upd (upd (upd (upd F 5 (nI (rk (tK (tc (G 3) tn) tn (((i0 + 1) + 1)))))) 6 (nI (tS (tc (G 3) tn) tn (((i0 + 1) + 1))))) 7 (r7 (tc (G 3) tn) tn (tS (tc (G 3) tn) tn (((i0 + 1) + 1))) ((r7 (tc (G 3) tn) tn (tS (tc (G 3) tn) tn (i0 + 1)) (f7))))) 8 (nI (tE (tc (G 3) tn) tn (((i0 + 1) + 1))))) 15 (nI c0)) hs mv (va_up (va_up (va_up (va_up G 10 (upd (G 10) m0 (nI kk))) 11 (upd (G 11) m0 (r7 (tc (G 3) tn) tn (tS (tc (G 3) tn) tn ((i0 + 1) + 1)) (r7 (tc (G 3) tn) tn (tS (tc (G 3) tn) tn (i0 + 1)) (f7))))) 12 (G 12)) 13 (G 13)))) (fun _ h => h) ?_
                                rw [← hQ]
                                refine zz_iret 136 X.1 hr (bI_nar _) hlk (upd (upd (upd (upd (upd F 5 (nI (rk (tK (tc (G 3) tn) tn (((i0 + 1) + 1)))))) 6 (nI (tS (tc (G 3) tn) tn (((i0 + 1) + 1))))) 7 (r7 (tc (G 3) tn) tn (tS (tc (G 3) tn) tn (((i0 + 1) + 1))) ((r7 (tc (G 3) tn) tn (tS (tc (G 3) tn) tn (i0 + 1)) (f7))))) 8 (nI (tE (tc (G 3) tn) tn (((i0 + 1) + 1))))) 15 (nI c0), hs, mv, va_up (va_up (va_up (va_up G 10 (upd (G 10) m0 (nI kk))) 11 (upd (G 11) m0 (r7 (tc (G 3) tn) tn (tS (tc (G 3) tn) tn ((i0 + 1) + 1)) (r7 (tc (G 3) tn) tn (tS (tc (G 3) tn) tn (i0 + 1)) (f7))))) 12 (G 12)) 13 (G 13)) ?_ (fun _ h _ => h) dX7_readsAction_136
                                have hA : acR (tK (tc (G 3) tn) tn) (i0 + 1) = (false, ((i0 + 1) + 1)) := by
                                  unfold acR
                                  rw [if_neg (show ¬ ((tK (tc (G 3) tn) tn) (i0 + 1) = 43 ∨ (tK (tc (G 3) tn) tn) (i0 + 1) = 45 ∨ (tK (tc (G 3) tn) tn) (i0 + 1) = 94) by omega), if_neg (show ¬ ((tK (tc (G 3) tn) tn) (i0 + 1) = 61 ∧ (tK (tc (G 3) tn) tn) (i0 + 1 + 1) = 91) by omega), if_pos (show (tK (tc (G 3) tn) tn) (i0 + 1) = 38 ∨ (tK (tc (G 3) tn) tn) (i0 + 1) = 124 ∨ (tK (tc (G 3) tn) tn) (i0 + 1) = 126 ∨ (tK (tc (G 3) tn) tn) (i0 + 1) = 33 ∨ (tK (tc (G 3) tn) tn) (i0 + 1) = 61 by omega)]
                                  unfold seR
                                  first | (rw [if_neg (show ¬ (tK (tc (G 3) tn) tn) (i0 + 1 + 1) ≠ 2 by omega)]; done) | (rw [if_pos (show (tK (tc (G 3) tn) tn) (i0 + 1 + 1) ≠ 2 by omega)]; done)
                                have hL : isL (tK (tc (G 3) tn) tn) i0 = false := isL_f (fun z => by have h0 : tK (tc (G 3) tn) tn (i0 + 1) = 61 ∧ tK (tc (G 3) tn) tn (i0 + 1 + 1) = 91 := z; omega)
                                rw [hA]
                                refine ⟨upd (G 10) m0 (nI kk), upd (G 11) m0 (r7 (tc (G 3) tn) tn (tS (tc (G 3) tn) tn ((i0 + 1) + 1)) (r7 (tc (G 3) tn) tn (tS (tc (G 3) tn) tn (i0 + 1)) (f7))), G 12, G 13, c0, (r7 (tc (G 3) tn) tn (tS (tc (G 3) tn) tn (i0 + 1)) (f7)), rfl, rfl, fun k hk => ⟨?_, ?_, ?_⟩, fun k hk => ?_, fun hz => ?_⟩
                                · first | rfl | exact upd_ne hk
                                · first | rfl | exact upd_ne hk
                                · rfl
                                · rfl
                                · exact Bool.noConfusion hz
                            · exfalso; omega
                          · exfalso; omega
                    refine zz_lvs [2, 1] rfl ?_
                    exact C85  (by omega)
                  · exfalso; omega
                · skip
                  refine zz_iload_n 67 X.1 0 dX7_readsAction_67 rfl ?_
                  refine zz_bipush 68 X.1 (v := nI 61) dX7_readsAction_68 rfl ?_
                  refine zz_icmp_ne 70 77 X.1 (nI_toInt (by omega)) (nI_toInt (by omega)) dX7_readsAction_70 (by decide) (fun h70 => ?_) (fun h70 => ?_)
                  · skip
                    refine zz_iconst 77 X.1 (v := nI 0) dX7_readsAction_77 rfl ?_
                    refine zz_istore_n 78 X.1 (lv' := [(2, .int (nI 0)), (1, .int (nI kk)), (0, .ref (K 0))]) dX7_readsAction_78 (by decide) rfl ?_
                    refine zz_iload_n 79 X.1 0 dX7_readsAction_79 rfl ?_
                    refine zz_if_ne 80 85 X.1 (nI_toInt (by omega)) dX7_readsAction_80 (by decide) (fun h80 => ?_) (fun h80 => ?_)
                    · exfalso; omega
                    · skip
                      refine zz_iconst 83 X.1 (v := nI 0) dX7_readsAction_83 rfl ?_
                      refine zz_topi (bI false) rfl ?_
                      rw [← hQ]
                      refine zz_iret 84 X.1 hr (bI_nar _) hlk (upd (upd (upd (upd (upd F 5 (nI (rk (tK (tc (G 3) tn) tn (i0 + 1))))) 6 (nI (tS (tc (G 3) tn) tn (i0 + 1)))) 7 (r7 (tc (G 3) tn) tn (tS (tc (G 3) tn) tn (i0 + 1)) (f7))) 8 (nI (tE (tc (G 3) tn) tn (i0 + 1)))) 15 (nI c0), hs, mv, va_up (va_up (va_up (va_up G 10 (upd (G 10) m0 (nI kk))) 11 (G 11)) 12 (G 12)) 13 (G 13)) ?_ (fun _ h _ => h) dX7_readsAction_84
                      have hA : acR (tK (tc (G 3) tn) tn) (i0 + 1) = (false, i0 + 1) := by
                        unfold acR
                        rw [if_neg (show ¬ ((tK (tc (G 3) tn) tn) (i0 + 1) = 43 ∨ (tK (tc (G 3) tn) tn) (i0 + 1) = 45 ∨ (tK (tc (G 3) tn) tn) (i0 + 1) = 94) by omega), if_neg (show ¬ ((tK (tc (G 3) tn) tn) (i0 + 1) = 61 ∧ (tK (tc (G 3) tn) tn) (i0 + 1 + 1) = 91) by omega), if_neg (show ¬ ((tK (tc (G 3) tn) tn) (i0 + 1) = 38 ∨ (tK (tc (G 3) tn) tn) (i0 + 1) = 124 ∨ (tK (tc (G 3) tn) tn) (i0 + 1) = 126 ∨ (tK (tc (G 3) tn) tn) (i0 + 1) = 33 ∨ (tK (tc (G 3) tn) tn) (i0 + 1) = 61) by omega)]
                      rw [hA]
                      refine ⟨upd (G 10) m0 (nI kk), G 11, G 12, G 13, c0, f7, rfl, rfl, fun k hk => ⟨?_, ?_, ?_⟩, fun k hk => ?_, fun hz => ?_⟩
                      · first | rfl | exact upd_ne hk
                      · first | rfl | exact upd_ne hk
                      · rfl
                      · rfl
                      · exact Bool.noConfusion hz
                  · skip
                    refine zz_iconst 73 X.1 (v := nI 1) dX7_readsAction_73 rfl ?_
                    refine zz_goto 74 78 X.1 dX7_readsAction_74 (by decide) ?_
                    refine zz_istore_n 78 X.1 (lv' := [(2, .int (nI 1)), (1, .int (nI kk)), (0, .ref (K 0))]) dX7_readsAction_78 (by decide) rfl ?_
                    refine zz_iload_n 79 X.1 0 dX7_readsAction_79 rfl ?_
                    refine zz_if_ne 80 85 X.1 (nI_toInt (by omega)) dX7_readsAction_80 (by decide) (fun h80 => ?_) (fun h80 => ?_)
                    · skip
                      have C85 : ∀  (hkO : kk = 43 ∨ kk = 45 ∨ kk = 94 ∨ kk = 38 ∨ kk = 124 ∨ kk = 126 ∨ kk = 33 ∨ kk = 61), ZZ p l e rm_X7_readsAction s m args below meth c 0 0 Q (zz_A (RAd K) s.heap.size) (RP D C K (upd (upd (upd (upd (upd F 5 (nI (rk (tK (tc (G 3) tn) tn (i0 + 1))))) 6 (nI (tS (tc (G 3) tn) tn (i0 + 1)))) 7 (r7 (tc (G 3) tn) tn (tS (tc (G 3) tn) tn (i0 + 1)) (f7))) 8 (nI (tE (tc (G 3) tn) tn (i0 + 1)))) 15 (nI c0)) hs mv (va_up (va_up (va_up (va_up G 10 (upd (G 10) m0 (nI kk))) 11 (G 11)) 12 (G 12)) 13 (G 13))) 3 [(0, .ref (K 0)), (1, .int (nI kk))] [] 85 := by
                        intro hkO
                        refine zz_aload_n 85 X.1 0 dX7_readsAction_85 rfl ?_
                        refine rr_callVv 86 X hml (As := []) (kt_X7_reads l D C K hAp (upd (upd (upd (upd (upd F 5 (nI (rk (tK (tc (G 3) tn) tn (i0 + 1))))) 6 (nI (tS (tc (G 3) tn) tn (i0 + 1)))) 7 (r7 (tc (G 3) tn) tn (tS (tc (G 3) tn) tn (i0 + 1)) (f7))) 8 (nI (tE (tc (G 3) tn) tn (i0 + 1)))) 15 (nI c0)) hs mv (va_up (va_up (va_up (va_up G 10 (upd (G 10) m0 (nI kk))) 11 (G 11)) 12 (G 12)) 13 (G 13)) (i0 + 1) tn (hT) (by first | rfl | assumption | omega) (by first | rfl | assumption | omega) (by first | rfl | assumption | omega)) gX7_readsAction_X7_reads rfl ⟨rfl, rfl⟩ yd_X7_reads ⟨Nat.le_of_ble_eq_true rfl, Nat.le_of_ble_eq_true rfl⟩ rfl rfl (Nat.le_of_ble_eq_true rfl) dX7_readsAction_86 ?_
                        rintro ⟨F15, hs15, mv15, G15⟩ hu15
                        cases hu15
                        refine zz_world (P' := (RP D C K (upd (upd (upd (upd (upd F 5 (nI (rk (tK (tc (G 3) tn) tn ((i0 + 1) + 1))))) 6 (nI (tS (tc (G 3) tn) tn ((i0 + 1) + 1)))) 7 (r7 (tc (G 3) tn) tn (tS (tc (G 3) tn) tn ((i0 + 1) + 1)) (r7 (tc (G 3) tn) tn (tS (tc (G 3) tn) tn (i0 + 1)) (f7)))) 8 (nI (tE (tc (G 3) tn) tn ((i0 + 1) + 1)))) 15 (nI c0)) hs mv (va_up (va_up (va_up (va_up G 10 (upd (G 10) m0 (nI kk))) 11 (G 11)) 12 (G 12)) 13 (G 13)))) (fun _ h => h) ?_
                        have hrk2 := rk_is (tK (tc (G 3) tn) tn (i0 + 1 + 1))
                        refine zz_iload_n 89 X.1 1 dX7_readsAction_89 rfl ?_
                        refine zz_bipush 90 X.1 (v := nI 43) dX7_readsAction_90 rfl ?_
                        refine zz_icmp_eq 92 107 X.1 (nI_toInt (by omega)) (nI_toInt (by omega)) dX7_readsAction_92 (by decide) (fun h92 => ?_) (fun h92 => ?_)
                        · exfalso; omega
                        · skip
                          refine zz_iload_n 95 X.1 1 dX7_readsAction_95 rfl ?_
                          refine zz_bipush 96 X.1 (v := nI 45) dX7_readsAction_96 rfl ?_
                          refine zz_icmp_eq 98 107 X.1 (nI_toInt (by omega)) (nI_toInt (by omega)) dX7_readsAction_98 (by decide) (fun h98 => ?_) (fun h98 => ?_)
                          · exfalso; omega
                          · skip
                            refine zz_iload_n 101 X.1 1 dX7_readsAction_101 rfl ?_
                            refine zz_bipush 102 X.1 (v := nI 94) dX7_readsAction_102 rfl ?_
                            refine zz_icmp_ne 104 112 X.1 (nI_toInt (by omega)) (nI_toInt (by omega)) dX7_readsAction_104 (by decide) (fun h104 => ?_) (fun h104 => ?_)
                            · skip
                              refine zz_iload_n 112 X.1 1 dX7_readsAction_112 rfl ?_
                              refine zz_bipush 113 X.1 (v := nI 61) dX7_readsAction_113 rfl ?_
                              refine zz_icmp_ne 115 132 X.1 (nI_toInt (by omega)) (nI_toInt (by omega)) dX7_readsAction_115 (by decide) (fun h115 => ?_) (fun h115 => ?_)
                              · exfalso; omega
                              · skip
                                refine zz_aload_n 118 X.1 0 dX7_readsAction_118 rfl ?_
                                refine zz_bipush 119 X.1 (v := nI 91) dX7_readsAction_119 rfl ?_
                                refine rr_callVi 121 X hml (As := [.int (nI 91)]) (kt_X7_takesSign l D C K hAp (upd (upd (upd (upd (upd F 5 (nI (rk (tK (tc (G 3) tn) tn ((i0 + 1) + 1))))) 6 (nI (tS (tc (G 3) tn) tn ((i0 + 1) + 1)))) 7 (r7 (tc (G 3) tn) tn (tS (tc (G 3) tn) tn ((i0 + 1) + 1)) (r7 (tc (G 3) tn) tn (tS (tc (G 3) tn) tn (i0 + 1)) (f7)))) 8 (nI (tE (tc (G 3) tn) tn ((i0 + 1) + 1)))) 15 (nI c0)) hs mv (va_up (va_up (va_up (va_up G 10 (upd (G 10) m0 (nI kk))) 11 (G 11)) 12 (G 12)) 13 (G 13)) ((i0 + 1) + 1) (r7 (tc (G 3) tn) tn (tS (tc (G 3) tn) tn (i0 + 1)) (f7)) tn 91 (hT) (by first | rfl | assumption | omega) (by first | rfl | assumption | omega) (by first | rfl | assumption | omega) (by first | rfl | assumption | omega) (by first | rfl | assumption | omega) (by first | rfl | assumption | omega) (by first | rfl | assumption | omega)) gX7_readsAction_X7_takesSign rfl ⟨rfl, rfl⟩ yd_X7_takesSign ⟨Nat.le_of_ble_eq_true rfl, Nat.le_of_ble_eq_true rfl⟩ rfl rfl (Nat.le_of_ble_eq_true rfl) dX7_readsAction_121 ?_
                                rintro r16 ⟨F16, hs16, mv16, G16⟩ hu16
                                rcases (show (tK (tc (G 3) tn) tn (((i0 + 1) + 1)) = 91) ∨ (tK (tc (G 3) tn) tn (((i0 + 1) + 1)) ≠ 91) by omega) with hc16 | hc16
                                · skip
                                  obtain ⟨rfl, hv16⟩ := (hu16.1 hc16)
                                  cases hv16
                                  refine zz_world (P' := (RP D C K (upd (upd (upd (upd (upd F 5 (nI (rk (tK (tc (G 3) tn) tn (((i0 + 1) + 1) + 1))))) 6 (nI (tS (tc (G 3) tn) tn (((i0 + 1) + 1) + 1)))) 7 (r7 (tc (G 3) tn) tn (tS (tc (G 3) tn) tn (((i0 + 1) + 1) + 1)) (r7 (tc (G 3) tn) tn (tS (tc (G 3) tn) tn ((i0 + 1) + 1)) (r7 (tc (G 3) tn) tn (tS (tc (G 3) tn) tn (i0 + 1)) (f7))))) 8 (nI (tE (tc (G 3) tn) tn (((i0 + 1) + 1) + 1)))) 15 (nI c0)) hs mv (va_up (va_up (va_up (va_up G 10 (upd (G 10) m0 (nI kk))) 11 (G 11)) 12 (G 12)) 13 (G 13)))) (fun _ h => h) ?_
                                  refine zz_ifB_eq 124 132 X.1 dX7_readsAction_124 (by decide) (fun h124 => ?_) (fun h124 => ?_)
                                  · exact absurd h124 (by decide)
                                  · skip
                                    refine zz_aload_n 127 X.1 0 dX7_readsAction_127 rfl ?_
                                    refine rr_callVi 128 X hml (As := []) (kt_X7_readsRow l D C K hAp (upd (upd (upd (upd (upd F 5 (nI (rk (tK (tc (G 3) tn) tn (((i0 + 1) + 1) + 1))))) 6 (nI (tS (tc (G 3) tn) tn (((i0 + 1) + 1) + 1)))) 7 (r7 (tc (G 3) tn) tn (tS (tc (G 3) tn) tn (((i0 + 1) + 1) + 1)) (r7 (tc (G 3) tn) tn (tS (tc (G 3) tn) tn ((i0 + 1) + 1)) (r7 (tc (G 3) tn) tn (tS (tc (G 3) tn) tn (i0 + 1)) (f7))))) 8 (nI (tE (tc (G 3) tn) tn (((i0 + 1) + 1) + 1)))) 15 (nI c0)) hs mv (va_up (va_up (va_up (va_up G 10 (upd (G 10) m0 (nI kk))) 11 (G 11)) 12 (G 12)) 13 (G 13)) (((i0 + 1) + 1) + 1) (r7 (tc (G 3) tn) tn (tS (tc (G 3) tn) tn ((i0 + 1) + 1)) (r7 (tc (G 3) tn) tn (tS (tc (G 3) tn) tn (i0 + 1)) (f7))) tn m0 c0 (hT) (by first | rfl | assumption | omega) (by first | rfl | assumption | omega) (by first | rfl | assumption | omega) (by first | rfl | assumption | omega) (by first | rfl | assumption | omega) (by first | rfl | assumption | omega) (h14) (by first | rfl | assumption | omega) (rfl) (by first | rfl | assumption | omega)) gX7_readsAction_X7_readsRow rfl ⟨rfl, rfl⟩ yd_X7_readsRow ⟨Nat.le_of_ble_eq_true rfl, Nat.le_of_ble_eq_true rfl⟩ rfl rfl (Nat.le_of_ble_eq_true rfl) dX7_readsAction_128 ?_
                                    rintro r17 ⟨F17, hs17, mv17, G17⟩ hu17
                                    obtain ⟨g12_17, g13_17, c1_17, f8_17, rfl, hv17, hf17_0, hf17_1, hf17_2⟩ := hu17
                                    cases hv17
                                    refine zz_world (P' := (RP D C K (upd (upd (upd (upd (upd F 5 (nI (rk (tK (tc (G 3) tn) tn ((roR (tK (tc (G 3) tn) tn) (((i0 + 1) + 1) + 1)).2))))) 6 (nI (tS (tc (G 3) tn) tn ((roR (tK (tc (G 3) tn) tn) (((i0 + 1) + 1) + 1)).2)))) 7 (r7 (tc (G 3) tn) tn (tS (tc (G 3) tn) tn ((roR (tK (tc (G 3) tn) tn) (((i0 + 1) + 1) + 1)).2)) (f8_17))) 8 (nI (tE (tc (G 3) tn) tn ((roR (tK (tc (G 3) tn) tn) (((i0 + 1) + 1) + 1)).2)))) 15 (nI c1_17)) hs mv (va_up (va_up (va_up (va_up G 10 (upd (upd (G 10) m0 (nI kk)) m0 (nI 91))) 11 (upd (G 11) m0 (nI c0))) 12 g12_17) 13 g13_17))) (fun _ h => h) ?_
                                    rw [← hQ]
                                    refine zz_iret 131 X.1 hr (bI_nar _) hlk (upd (upd (upd (upd (upd F 5 (nI (rk (tK (tc (G 3) tn) tn ((roR (tK (tc (G 3) tn) tn) (((i0 + 1) + 1) + 1)).2))))) 6 (nI (tS (tc (G 3) tn) tn ((roR (tK (tc (G 3) tn) tn) (((i0 + 1) + 1) + 1)).2)))) 7 (r7 (tc (G 3) tn) tn (tS (tc (G 3) tn) tn ((roR (tK (tc (G 3) tn) tn) (((i0 + 1) + 1) + 1)).2)) (f8_17))) 8 (nI (tE (tc (G 3) tn) tn ((roR (tK (tc (G 3) tn) tn) (((i0 + 1) + 1) + 1)).2)))) 15 (nI c1_17), hs, mv, va_up (va_up (va_up (va_up G 10 (upd (upd (G 10) m0 (nI kk)) m0 (nI 91))) 11 (upd (G 11) m0 (nI c0))) 12 g12_17) 13 g13_17) ?_ (fun _ h _ => h) dX7_readsAction_131
                                    have hA : acR (tK (tc (G 3) tn) tn) (i0 + 1) = roR (tK (tc (G 3) tn) tn) (i0 + 1 + 2) := by
                                      unfold acR
                                      rw [if_neg (show ¬ ((tK (tc (G 3) tn) tn) (i0 + 1) = 43 ∨ (tK (tc (G 3) tn) tn) (i0 + 1) = 45 ∨ (tK (tc (G 3) tn) tn) (i0 + 1) = 94) by omega), if_pos (show (tK (tc (G 3) tn) tn) (i0 + 1) = 61 ∧ (tK (tc (G 3) tn) tn) (i0 + 1 + 1) = 91 by omega)]
                                    have hL : isL (tK (tc (G 3) tn) tn) i0 = true := isL_t (show tK (tc (G 3) tn) tn (i0 + 1) = 61 ∧ tK (tc (G 3) tn) tn (i0 + 1 + 1) = 91 by omega)
                                    rw [hA]
                                    refine ⟨upd (upd (G 10) m0 (nI kk)) m0 (nI 91), upd (G 11) m0 (nI c0), g12_17, g13_17, c1_17, f8_17, rfl, rfl, fun k hk => ⟨?_, ?_, ?_⟩, fun k hk => ?_, fun hz => ?_⟩
                                    · first | exact upd_ne hk | (rw [upd_ne hk, upd_ne hk])
                                    · first | rfl | exact upd_ne hk
                                    · exact hf17_0 k hk
                                    · exact hf17_1 k hk
                                    · have hz2 := hf17_2 hz
                                      have hs : slc (tK (tc (G 3) tn) tn) i0 = roN (tK (tc (G 3) tn) tn) (i0 + 3) := by unfold slc; rw [hL]; rfl
                                      refine ⟨?_, ?_, fun _ => ?_, ?_, fun j hj => ?_⟩
                                      · rw [upd_eq]; unfold sac; rw [hL]; rfl
                                      · rw [upd_eq]; unfold sfi; rw [hL]; rfl
                                      · rw [hz2.1]; unfold rS; rw [hL, hs]; rfl
                                      · rw [hs]; exact hz2.2.1
                                      · rw [hs] at hj; exact hz2.2.2 j hj
                                · skip
                                  obtain ⟨rfl, hv16⟩ := (hu16.2 hc16)
                                  cases hv16
                                  refine zz_world (P' := (RP D C K (upd (upd (upd (upd (upd F 5 (nI (rk (tK (tc (G 3) tn) tn (((i0 + 1) + 1)))))) 6 (nI (tS (tc (G 3) tn) tn (((i0 + 1) + 1))))) 7 (r7 (tc (G 3) tn) tn (tS (tc (G 3) tn) tn (((i0 + 1) + 1))) ((r7 (tc (G 3) tn) tn (tS (tc (G 3) tn) tn (i0 + 1)) (f7))))) 8 (nI (tE (tc (G 3) tn) tn (((i0 + 1) + 1))))) 15 (nI c0)) hs mv (va_up (va_up (va_up (va_up G 10 (upd (G 10) m0 (nI kk))) 11 (G 11)) 12 (G 12)) 13 (G 13)))) (fun _ h => h) ?_
                                  refine zz_ifB_eq 124 132 X.1 dX7_readsAction_124 (by decide) (fun h124 => ?_) (fun h124 => ?_)
                                  · skip
                                    refine zz_aload_n 132 X.1 0 dX7_readsAction_132 rfl ?_
                                    refine rr_callVi 133 X hml (As := []) (kt_X7_readsSet l D C K hAp (upd (upd (upd (upd (upd F 5 (nI (rk (tK (tc (G 3) tn) tn (((i0 + 1) + 1)))))) 6 (nI (tS (tc (G 3) tn) tn (((i0 + 1) + 1))))) 7 (r7 (tc (G 3) tn) tn (tS (tc (G 3) tn) tn (((i0 + 1) + 1))) ((r7 (tc (G 3) tn) tn (tS (tc (G 3) tn) tn (i0 + 1)) (f7))))) 8 (nI (tE (tc (G 3) tn) tn (((i0 + 1) + 1))))) 15 (nI c0)) hs mv (va_up (va_up (va_up (va_up G 10 (upd (G 10) m0 (nI kk))) 11 (G 11)) 12 (G 12)) 13 (G 13)) ((i0 + 1) + 1) (r7 (tc (G 3) tn) tn (tS (tc (G 3) tn) tn (i0 + 1)) (f7)) tn m0 (hT) (by first | rfl | assumption | omega) (by first | rfl | assumption | omega) (by first | rfl | assumption | omega) (by first | rfl | assumption | omega) (by first | rfl | assumption | omega) (by first | rfl | assumption | omega) (h14) (by first | rfl | assumption | omega)) gX7_readsAction_X7_readsSet rfl ⟨rfl, rfl⟩ yd_X7_readsSet ⟨Nat.le_of_ble_eq_true rfl, Nat.le_of_ble_eq_true rfl⟩ rfl rfl (Nat.le_of_ble_eq_true rfl) dX7_readsAction_133 ?_
                                    rintro r18 ⟨F18, hs18, mv18, G18⟩ hu18
                                    rcases (show (tK (tc (G 3) tn) tn (((i0 + 1) + 1)) = 2) ∨ (tK (tc (G 3) tn) tn (((i0 + 1) + 1)) ≠ 2) by omega) with hc18 | hc18
                                    · skip
                                      obtain ⟨rfl, hv18⟩ := (hu18.1 hc18)
                                      cases hv18
                                      refine zz_world (P' := (RP D C K (upd (upd (upd (upd (upd F 5 (nI (rk (tK (tc (G 3) tn) tn (((i0 + 1) + 1) + 1))))) 6 (nI (tS (tc (G 3) tn) tn (((i0 + 1) + 1) + 1)))) 7 (r7 (tc (G 3) tn) tn (tS (tc (G 3) tn) tn (((i0 + 1) + 1) + 1)) (r7 (tc (G 3) tn) tn (tS (tc (G 3) tn) tn ((i0 + 1) + 1)) (r7 (tc (G 3) tn) tn (tS (tc (G 3) tn) tn (i0 + 1)) (f7))))) 8 (nI (tE (tc (G 3) tn) tn (((i0 + 1) + 1) + 1)))) 15 (nI c0)) hs mv (va_up (va_up (va_up (va_up G 10 (upd (G 10) m0 (nI kk))) 11 (upd (G 11) m0 (r7 (tc (G 3) tn) tn (tS (tc (G 3) tn) tn ((i0 + 1) + 1)) (r7 (tc (G 3) tn) tn (tS (tc (G 3) tn) tn (i0 + 1)) (f7))))) 12 (G 12)) 13 (G 13)))) (fun _ h => h) ?_
                                      rw [← hQ]
                                      refine zz_iret 136 X.1 hr (bI_nar _) hlk (upd (upd (upd (upd (upd F 5 (nI (rk (tK (tc (G 3) tn) tn (((i0 + 1) + 1) + 1))))) 6 (nI (tS (tc (G 3) tn) tn (((i0 + 1) + 1) + 1)))) 7 (r7 (tc (G 3) tn) tn (tS (tc (G 3) tn) tn (((i0 + 1) + 1) + 1)) (r7 (tc (G 3) tn) tn (tS (tc (G 3) tn) tn ((i0 + 1) + 1)) (r7 (tc (G 3) tn) tn (tS (tc (G 3) tn) tn (i0 + 1)) (f7))))) 8 (nI (tE (tc (G 3) tn) tn (((i0 + 1) + 1) + 1)))) 15 (nI c0), hs, mv, va_up (va_up (va_up (va_up G 10 (upd (G 10) m0 (nI kk))) 11 (upd (G 11) m0 (r7 (tc (G 3) tn) tn (tS (tc (G 3) tn) tn ((i0 + 1) + 1)) (r7 (tc (G 3) tn) tn (tS (tc (G 3) tn) tn (i0 + 1)) (f7))))) 12 (G 12)) 13 (G 13)) ?_ (fun _ h _ => h) dX7_readsAction_136
                                      have hA : acR (tK (tc (G 3) tn) tn) (i0 + 1) = (true, ((i0 + 1) + 1) + 1) := by
                                        unfold acR
                                        rw [if_neg (show ¬ ((tK (tc (G 3) tn) tn) (i0 + 1) = 43 ∨ (tK (tc (G 3) tn) tn) (i0 + 1) = 45 ∨ (tK (tc (G 3) tn) tn) (i0 + 1) = 94) by omega), if_neg (show ¬ ((tK (tc (G 3) tn) tn) (i0 + 1) = 61 ∧ (tK (tc (G 3) tn) tn) (i0 + 1 + 1) = 91) by omega), if_pos (show (tK (tc (G 3) tn) tn) (i0 + 1) = 38 ∨ (tK (tc (G 3) tn) tn) (i0 + 1) = 124 ∨ (tK (tc (G 3) tn) tn) (i0 + 1) = 126 ∨ (tK (tc (G 3) tn) tn) (i0 + 1) = 33 ∨ (tK (tc (G 3) tn) tn) (i0 + 1) = 61 by omega)]
                                        unfold seR
                                        first | (rw [if_neg (show ¬ (tK (tc (G 3) tn) tn) (i0 + 1 + 1) ≠ 2 by omega)]; done) | (rw [if_pos (show (tK (tc (G 3) tn) tn) (i0 + 1 + 1) ≠ 2 by omega)]; done)
                                      have hL : isL (tK (tc (G 3) tn) tn) i0 = false := isL_f (fun z => by have h0 : tK (tc (G 3) tn) tn (i0 + 1) = 61 ∧ tK (tc (G 3) tn) tn (i0 + 1 + 1) = 91 := z; omega)
                                      rw [hA]
                                      refine ⟨upd (G 10) m0 (nI kk), upd (G 11) m0 (r7 (tc (G 3) tn) tn (tS (tc (G 3) tn) tn ((i0 + 1) + 1)) (r7 (tc (G 3) tn) tn (tS (tc (G 3) tn) tn (i0 + 1)) (f7))), G 12, G 13, c0, r7 (tc (G 3) tn) tn (tS (tc (G 3) tn) tn ((i0 + 1) + 1)) (r7 (tc (G 3) tn) tn (tS (tc (G 3) tn) tn (i0 + 1)) (f7)), rfl, rfl, fun k hk => ⟨?_, ?_, ?_⟩, fun k hk => ?_, fun hz => ?_⟩
                                      · first | rfl | exact upd_ne hk
                                      · first | rfl | exact upd_ne hk
                                      · rfl
                                      · rfl
                                      · refine ⟨?_, ?_, fun hx => ?_, ?_, fun j hj => ?_⟩
                                        · rw [upd_eq, hkk]; unfold sac; rw [hL]; rfl
                                        · rw [upd_eq]; unfold sfi; rw [hL]; exact r7_v (Or.inl (show tK (tc (G 3) tn) tn (i0 + 1 + 1) = 2 by omega))
                                        · exfalso; rw [hL] at hx; rcases hx with hx | hx
                                          · omega
                                          · exact Bool.noConfusion hx
                                        · unfold slc; rw [hL]; rfl
                                        · unfold slc at hj; rw [hL] at hj; exact absurd hj (Nat.not_lt_zero _)
                                    · skip
                                      obtain ⟨rfl, hv18⟩ := (hu18.2 hc18)
                                      cases hv18
                                      refine zz_world (P' := (RP D C K (upd (upd (upd (upd (upd F 5 (nI (rk (tK (tc (G 3) tn) tn (((i0 + 1) + 1)))))) 6 (nI (tS (tc (G 3) tn) tn (((i0 + 1) + 1))))) 7 (r7 (tc (G 3) tn) tn (tS (tc (G 3) tn) tn (((i0 + 1) + 1))) ((r7 (tc (G 3) tn) tn (tS (tc (G 3) tn) tn (i0 + 1)) (f7))))) 8 (nI (tE (tc (G 3) tn) tn (((i0 + 1) + 1))))) 15 (nI c0)) hs mv (va_up (va_up (va_up (va_up G 10 (upd (G 10) m0 (nI kk))) 11 (upd (G 11) m0 (r7 (tc (G 3) tn) tn (tS (tc (G 3) tn) tn ((i0 + 1) + 1)) (r7 (tc (G 3) tn) tn (tS (tc (G 3) tn) tn (i0 + 1)) (f7))))) 12 (G 12)) 13 (G 13)))) (fun _ h => h) ?_
                                      rw [← hQ]
                                      refine zz_iret 136 X.1 hr (bI_nar _) hlk (upd (upd (upd (upd (upd F 5 (nI (rk (tK (tc (G 3) tn) tn (((i0 + 1) + 1)))))) 6 (nI (tS (tc (G 3) tn) tn (((i0 + 1) + 1))))) 7 (r7 (tc (G 3) tn) tn (tS (tc (G 3) tn) tn (((i0 + 1) + 1))) ((r7 (tc (G 3) tn) tn (tS (tc (G 3) tn) tn (i0 + 1)) (f7))))) 8 (nI (tE (tc (G 3) tn) tn (((i0 + 1) + 1))))) 15 (nI c0), hs, mv, va_up (va_up (va_up (va_up G 10 (upd (G 10) m0 (nI kk))) 11 (upd (G 11) m0 (r7 (tc (G 3) tn) tn (tS (tc (G 3) tn) tn ((i0 + 1) + 1)) (r7 (tc (G 3) tn) tn (tS (tc (G 3) tn) tn (i0 + 1)) (f7))))) 12 (G 12)) 13 (G 13)) ?_ (fun _ h _ => h) dX7_readsAction_136
                                      have hA : acR (tK (tc (G 3) tn) tn) (i0 + 1) = (false, ((i0 + 1) + 1)) := by
                                        unfold acR
                                        rw [if_neg (show ¬ ((tK (tc (G 3) tn) tn) (i0 + 1) = 43 ∨ (tK (tc (G 3) tn) tn) (i0 + 1) = 45 ∨ (tK (tc (G 3) tn) tn) (i0 + 1) = 94) by omega), if_neg (show ¬ ((tK (tc (G 3) tn) tn) (i0 + 1) = 61 ∧ (tK (tc (G 3) tn) tn) (i0 + 1 + 1) = 91) by omega), if_pos (show (tK (tc (G 3) tn) tn) (i0 + 1) = 38 ∨ (tK (tc (G 3) tn) tn) (i0 + 1) = 124 ∨ (tK (tc (G 3) tn) tn) (i0 + 1) = 126 ∨ (tK (tc (G 3) tn) tn) (i0 + 1) = 33 ∨ (tK (tc (G 3) tn) tn) (i0 + 1) = 61 by omega)]
                                        unfold seR
                                        first | (rw [if_neg (show ¬ (tK (tc (G 3) tn) tn) (i0 + 1 + 1) ≠ 2 by omega)]; done) | (rw [if_pos (show (tK (tc (G 3) tn) tn) (i0 + 1 + 1) ≠ 2 by omega)]; done)
                                      have hL : isL (tK (tc (G 3) tn) tn) i0 = false := isL_f (fun z => by have h0 : tK (tc (G 3) tn) tn (i0 + 1) = 61 ∧ tK (tc (G 3) tn) tn (i0 + 1 + 1) = 91 := z; omega)
                                      rw [hA]
                                      refine ⟨upd (G 10) m0 (nI kk), upd (G 11) m0 (r7 (tc (G 3) tn) tn (tS (tc (G 3) tn) tn ((i0 + 1) + 1)) (r7 (tc (G 3) tn) tn (tS (tc (G 3) tn) tn (i0 + 1)) (f7))), G 12, G 13, c0, (r7 (tc (G 3) tn) tn (tS (tc (G 3) tn) tn (i0 + 1)) (f7)), rfl, rfl, fun k hk => ⟨?_, ?_, ?_⟩, fun k hk => ?_, fun hz => ?_⟩
                                      · first | rfl | exact upd_ne hk
                                      · first | rfl | exact upd_ne hk
                                      · rfl
                                      · rfl
                                      · exact Bool.noConfusion hz
                                  · exact absurd h124 (by decide)
                            · exfalso; omega
                      refine zz_lvs [2, 1] rfl ?_
                      exact C85  (by omega)
                    · exfalso; omega
  · skip
    refine zz_iconst 8 X.1 (v := nI 0) dX7_readsAction_8 rfl ?_
    refine zz_topi (bI false) rfl ?_
    rw [← hQ]
    refine zz_iret 9 X.1 hr (bI_nar _) hlk (upd (upd (upd (upd (upd F 5 (nI (rk (tK (tc (G 3) tn) tn (i0 + 1))))) 6 (nI (tS (tc (G 3) tn) tn (i0 + 1)))) 7 (r7 (tc (G 3) tn) tn (tS (tc (G 3) tn) tn (i0 + 1)) (f7))) 8 (nI (tE (tc (G 3) tn) tn (i0 + 1)))) 15 (nI c0), hs, mv, va_up (va_up (va_up (va_up G 10 (G 10)) 11 (G 11)) 12 (G 12)) 13 (G 13)) ?_ (fun _ h _ => h) dX7_readsAction_9
    have hA : acR (tK (tc (G 3) tn) tn) (i0 + 1) = (false, i0 + 1) := by
      unfold acR
      rw [if_neg (show ¬ ((tK (tc (G 3) tn) tn) (i0 + 1) = 43 ∨ (tK (tc (G 3) tn) tn) (i0 + 1) = 45 ∨ (tK (tc (G 3) tn) tn) (i0 + 1) = 94) by omega), if_neg (show ¬ ((tK (tc (G 3) tn) tn) (i0 + 1) = 61 ∧ (tK (tc (G 3) tn) tn) (i0 + 1 + 1) = 91) by omega), if_neg (show ¬ ((tK (tc (G 3) tn) tn) (i0 + 1) = 38 ∨ (tK (tc (G 3) tn) tn) (i0 + 1) = 124 ∨ (tK (tc (G 3) tn) tn) (i0 + 1) = 126 ∨ (tK (tc (G 3) tn) tn) (i0 + 1) = 33 ∨ (tK (tc (G 3) tn) tn) (i0 + 1) = 61) by omega)]
    rw [hA]
    refine ⟨G 10, G 11, G 12, G 13, c0, f7, rfl, rfl, fun k hk => ⟨?_, ?_, ?_⟩, fun k hk => ?_, fun hz => ?_⟩
    · first | rfl | exact upd_ne hk
    · first | rfl | exact upd_ne hk
    · rfl
    · rfl
    · exact Bool.noConfusion hz
