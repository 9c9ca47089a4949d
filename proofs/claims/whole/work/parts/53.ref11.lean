/-! The reference's rows, actions, statements. -/
theorem va_up_id {f : Nat → Nat → Int32} {k : Nat} : va_up f k (f k) = f := by
  funext j
  unfold va_up
  by_cases z : j = k
  · rw [if_pos z, z]
  · rw [if_neg z]
theorem rp_G {D : va_G} {C : Nat → ClassId} {K : Nat → Nat} {F : Nat → Int32} {hs mv : Nat → Bool} {G G' : Nat → Nat → Int32} (h : G = G') (H : Heap) (q : RP D C K F hs mv G H) : RP D C K F hs mv G' H := h ▸ q
theorem isL_f {K : Nat → Nat} {i : Nat} (h : ¬ (K (i + 1) = 61 ∧ K (i + 2) = 91)) : isL K i = false := decide_eq_false h
theorem isL_t {K : Nat → Nat} {i : Nat} (h : K (i + 1) = 61 ∧ K (i + 2) = 91) : isL K i = true := decide_eq_true h
/-- m statements lie in the tables, the numbers that they list in the list -/
def TBL (K V : Nat → Nat) (m : Nat) (g9 g10 g11 g12 g13 : Nat → Int32) : Prop := (∀ k, k < m → g9 k = nI (V (sI K k)) ∧ g10 k = nI (sac K (sI K k)) ∧ g11 k = nI (sfi K V (sC K k) (sI K k)) ∧ ((K (sI K k + 1) = 43 ∨ K (sI K k + 1) = 45 ∨ K (sI K k + 1) = 94) ∨ isL K (sI K k) = true → g12 k = rS K V (sI K k))) ∧ ∀ k, k < m → ∀ j, j < slc K (sI K k) → g13 (sC K k + j) = nI (V (sI K k + 3 + 2 * j))
theorem sC_mono {K : Nat → Nat} {k : Nat} : ∀ {m : Nat}, k < m → sC K k + slc K (sI K k) ≤ sC K m
  | 0, h => absurd h (Nat.not_lt_zero _)
  | m + 1, h => by
    simp only [sC]
    rcases Nat.lt_or_ge k m with z | z
    · have := sC_mono (K := K) z
      omega
    · rw [show k = m by omega]; omega
theorem TBL_0 {K V : Nat → Nat} {g9 g10 g11 g12 g13 : Nat → Int32} : TBL K V 0 g9 g10 g11 g12 g13 := ⟨fun k h => absurd h (Nat.not_lt_zero _), fun k h => absurd h (Nat.not_lt_zero _)⟩
theorem TBL_up {K V : Nat → Nat} {m : Nat} {g9 g10 g11 g12 g13 a9 a10 a11 a12 a13 : Nat → Int32} (h : TBL K V m g9 g10 g11 g12 g13) (hk : ∀ k, k ≠ m → a9 k = g9 k ∧ a10 k = g10 k ∧ a11 k = g11 k ∧ a12 k = g12 k) (hl : ∀ k, k < sC K m → a13 k = g13 k)
    (hm : a9 m = nI (V (sI K m)) ∧ a10 m = nI (sac K (sI K m)) ∧ a11 m = nI (sfi K V (sC K m) (sI K m)) ∧ ((K (sI K m + 1) = 43 ∨ K (sI K m + 1) = 45 ∨ K (sI K m + 1) = 94) ∨ isL K (sI K m) = true → a12 m = rS K V (sI K m))) (hj : ∀ j, j < slc K (sI K m) → a13 (sC K m + j) = nI (V (sI K m + 3 + 2 * j))) : TBL K V (m + 1) a9 a10 a11 a12 a13 := by
  refine ⟨fun k hk2 => ?_, fun k hk2 j hj2 => ?_⟩
  · rcases Nat.lt_or_ge k m with z | z
    · have e := hk k (by omega)
      have := h.1 k z
      rw [e.1, e.2.1, e.2.2.1, e.2.2.2]
      exact this
    · rw [show k = m by omega]; exact hm
  · rcases Nat.lt_or_ge k m with z | z
    · have := sC_mono (K := K) z
      rw [hl _ (by omega)]
      exact h.2 k z j hj2
    · rw [show k = m by omega] at hj2 ⊢; exact hj j hj2

abbrev rm_X7_readsRow : Room := { frames := 6, cells := 0, slots := 0, locals := 126 }
theorem yd_X7_readsRow : yX7_readsRow.cls = RX7 ∧ yX7_readsRow.cls ≠ "java/lang/invoke/MethodHandle" ∧ yX7_readsRow.cls ≠ "java/lang/invoke/VarHandle" ∧ (parseMethodDescriptor yX7_readsRow.desc).map (fun d => d.parameters.length) = some 0 := by decide +kernel
set_option maxHeartbeats 4000000 in
set_option maxRecDepth 100000 in
theorem kt_X7_readsRow (l : Launch) (D : va_G) (C : Nat → ClassId) (K : Nat → Nat) (hAp : RAp K) (F : Nat → Int32) (hs mv : Nat → Bool) (G : Nat → Nat → Int32) (i : Nat) (f7 : Int32) (tn : Nat) (m0 : Nat) (c0 : Nat) (hT : F 4 = nI tn) (htn : tn ≤ 400) (hB : HB (G 3) tn) (h5 : F 5 = nI (rk (tK (tc (G 3) tn) tn i))) (h6 : F 6 = nI (tS (tc (G 3) tn) tn i)) (h7 : F 7 = r7 (tc (G 3) tn) tn (tS (tc (G 3) tn) tn i) f7) (h8 : F 8 = nI (tE (tc (G 3) tn) tn i)) (h14 : F 14 = nI m0) (hm0 : m0 < 100) (h15 : F 15 = nI c0) (hc2 : 2 * c0 + 3 ≤ i) : RMi l yX7_readsRow wsX7_readsRow rm_X7_readsRow D C K [] F hs mv G (fun (r : Int32) (u : MSt) => ∃ (g12 : Nat → Int32) (g13 : Nat → Int32) (c1 : Nat) (f8 : Int32), r = (bI ((roR (tK (tc (G 3) tn) tn) i).1)) ∧ u = (upd (upd (upd (upd (upd F 5 (nI (rk (tK (tc (G 3) tn) tn ((roR (tK (tc (G 3) tn) tn) i).2))))) 6 (nI (tS (tc (G 3) tn) tn ((roR (tK (tc (G 3) tn) tn) i).2)))) 7 (r7 (tc (G 3) tn) tn (tS (tc (G 3) tn) tn ((roR (tK (tc (G 3) tn) tn) i).2)) (f8))) 8 (nI (tE (tc (G 3) tn) tn ((roR (tK (tc (G 3) tn) tn) i).2)))) 15 (nI c1), hs, mv, va_up (va_up (va_up (va_up G 10 (upd (G 10) m0 (nI 91))) 11 (upd (G 11) m0 (nI c0))) 12 g12) 13 g13) ∧ (∀ k, k ≠ m0 → g12 k = G 12 k) ∧ (∀ k, k < c0 → g13 k = G 13 k) ∧ ((roR (tK (tc (G 3) tn) tn) i).1 = true → g12 m0 = nI (roN (tK (tc (G 3) tn) tn) i) ∧ c1 = c0 + roN (tK (tc (G 3) tn) tn) i ∧ ∀ k, k < roN (tK (tc (G 3) tn) tn) i → g13 (c0 + k) = nI (tV (tc (G 3) tn) tn (i + 2 * k)))) := by
  refine RMi_of (lv := [(0, .ref (K 0))]) (cc := cX7_readsRow) (maxL := 2) (ret := (some .boolean)) rfl rfl (by decide +kernel) (Nat.le_of_ble_eq_true rfl) rfl ?_
  intro p e s m args below meth c X hml hr hlk
  generalize hQ : MQ below _ args s 0 0 _ = Q
  refine zz_world (P' := (RP D C K (upd (upd (upd (upd F 5 (nI (rk (tK (tc (G 3) tn) tn (i))))) 6 (nI (tS (tc (G 3) tn) tn (i)))) 7 (r7 (tc (G 3) tn) tn (tS (tc (G 3) tn) tn (i)) (f7))) 8 (nI (tE (tc (G 3) tn) tn (i)))) hs mv G)) (rp_F (upd4_self h5 h6 h7 h8)) ?_
  have hrk := rk_is (tK (tc (G 3) tn) tn (i))
  have hkb : tK (tc (G 3) tn) tn (i) ≤ 126 := kd_le.1
  refine zz_world (P' := (RP D C K (upd (upd (upd (upd (upd F 5 (nI (rk (tK (tc (G 3) tn) tn (i))))) 6 (nI (tS (tc (G 3) tn) tn (i)))) 7 (r7 (tc (G 3) tn) tn (tS (tc (G 3) tn) tn (i)) (f7))) 8 (nI (tE (tc (G 3) tn) tn (i)))) 15 (nI c0)) hs mv G)) (rp_F (upd_self (f := upd (upd (upd (upd F 5 (nI (rk (tK (tc (G 3) tn) tn (i))))) 6 (nI (tS (tc (G 3) tn) tn (i)))) 7 (r7 (tc (G 3) tn) tn (tS (tc (G 3) tn) tn (i)) (f7))) 8 (nI (tE (tc (G 3) tn) tn (i)))) (k := 15) (x := nI c0) h15).symm) ?_
  refine zz_world (P' := (RP D C K (upd (upd (upd (upd (upd F 5 (nI (rk (tK (tc (G 3) tn) tn (i))))) 6 (nI (tS (tc (G 3) tn) tn (i)))) 7 (r7 (tc (G 3) tn) tn (tS (tc (G 3) tn) tn (i)) (f7))) 8 (nI (tE (tc (G 3) tn) tn (i)))) 15 (nI c0)) hs mv (va_up G 12 (G 12)))) (rp_G (va_up_id (f := G) (k := 12)).symm) ?_
  refine zz_world (P' := (RP D C K (upd (upd (upd (upd (upd F 5 (nI (rk (tK (tc (G 3) tn) tn (i))))) 6 (nI (tS (tc (G 3) tn) tn (i)))) 7 (r7 (tc (G 3) tn) tn (tS (tc (G 3) tn) tn (i)) (f7))) 8 (nI (tE (tc (G 3) tn) tn (i)))) 15 (nI c0)) hs mv (va_up (va_up G 12 (G 12)) 13 (G 13)))) (rp_G (va_up_id (f := va_up G 12 (G 12)) (k := 13)).symm) ?_
  refine zz_aload_n 0 X.1 0 dX7_readsRow_0 rfl ?_
  refine rr_get 1 X 10 (by decide) (v := .ref (K 10)) rfl (by decide +kernel) rfl dX7_readsRow_1 ?_
  refine zz_aload_n 4 X.1 0 dX7_readsRow_4 rfl ?_
  refine rr_get 5 X 14 (by decide) (v := .int (F 14)) rfl (by decide +kernel) rfl dX7_readsRow_5 ?_
  refine zz_topi (nI m0) (h14) ?_
  refine zz_bipush 8 X.1 (v := nI 91) dX7_readsRow_8 rfl ?_
  refine rr_iast 10 hAp X 4 10 (f := G 10) (G' := va_up (va_up (va_up G 10 (upd (G 10) m0 (nI 91))) 12 (G 12)) 13 (G 13)) rfl rfl (by omega) (by decide) dX7_readsRow_10 ?_
  refine zz_aload_n 11 X.1 0 dX7_readsRow_11 rfl ?_
  refine rr_get 12 X 11 (by decide) (v := .ref (K 11)) rfl (by decide +kernel) rfl dX7_readsRow_12 ?_
  refine zz_aload_n 15 X.1 0 dX7_readsRow_15 rfl ?_
  refine rr_get 16 X 14 (by decide) (v := .int (F 14)) rfl (by decide +kernel) rfl dX7_readsRow_16 ?_
  refine zz_topi (nI m0) (h14) ?_
  refine zz_aload_n 19 X.1 0 dX7_readsRow_19 rfl ?_
  refine rr_get 20 X 15 (by decide) (v := .int (nI c0)) rfl (by decide +kernel) rfl dX7_readsRow_20 ?_
  refine rr_iast 23 hAp X 5 11 (f := G 11) (G' := va_up (va_up (va_up (va_up G 10 (upd (G 10) m0 (nI 91))) 11 (upd (G 11) m0 (nI c0))) 12 (G 12)) 13 (G 13)) rfl rfl (by omega) (by decide) dX7_readsRow_23 ?_
  refine zz_aload_n 24 X.1 0 dX7_readsRow_24 rfl ?_
  refine rr_get 25 X 5 (by decide) (v := .int (nI (rk (tK (tc (G 3) tn) tn (i))))) rfl (by decide +kernel) rfl dX7_readsRow_25 ?_
  refine zz_iconst 28 X.1 (v := nI 2) dX7_readsRow_28 rfl ?_
  refine zz_icmp_ne 29 63 X.1 (nI_toInt (by omega)) (nI_toInt (by omega)) dX7_readsRow_29 (by decide) (fun h29 => ?_) (fun h29 => ?_)
  · skip
    refine zz_aload_n 63 X.1 0 dX7_readsRow_63 rfl ?_
    refine rr_get 64 X 12 (by decide) (v := .ref (K 12)) rfl (by decide +kernel) rfl dX7_readsRow_64 ?_
    refine zz_aload_n 67 X.1 0 dX7_readsRow_67 rfl ?_
    refine rr_get 68 X 14 (by decide) (v := .int (F 14)) rfl (by decide +kernel) rfl dX7_readsRow_68 ?_
    refine zz_topi (nI m0) (h14) ?_
    refine zz_aload_n 71 X.1 0 dX7_readsRow_71 rfl ?_
    refine rr_get 72 X 15 (by decide) (v := .int (nI c0)) rfl (by decide +kernel) rfl dX7_readsRow_72 ?_
    refine zz_aload_n 75 X.1 0 dX7_readsRow_75 rfl ?_
    refine rr_get 76 X 11 (by decide) (v := .ref (K 11)) rfl (by decide +kernel) rfl dX7_readsRow_76 ?_
    refine zz_aload_n 79 X.1 0 dX7_readsRow_79 rfl ?_
    refine rr_get 80 X 14 (by decide) (v := .int (F 14)) rfl (by decide +kernel) rfl dX7_readsRow_80 ?_
    refine zz_topi (nI m0) (h14) ?_
    refine rr_iald 83 X 5 11 (len := 100) (f := upd (G 11) m0 (nI c0)) rfl (by omega) (by decide) dX7_readsRow_83 ?_
    refine zz_topi (nI c0) (upd_eq) ?_
    refine zz_isub 84 X.1 (v := (nI (c0 - c0))) dX7_readsRow_84 (pk_sub (by omega)) ?_
    refine rr_iast 85 hAp X 6 12 (f := G 12) (G' := va_up (va_up (va_up (va_up G 10 (upd (G 10) m0 (nI 91))) 11 (upd (G 11) m0 (nI c0))) 12 (upd (G 12) m0 (nI (c0 - c0)))) 13 (G 13)) rfl rfl (by omega) (by decide) dX7_readsRow_85 ?_
    refine zz_aload_n 86 X.1 0 dX7_readsRow_86 rfl ?_
    refine zz_bipush 87 X.1 (v := nI 93) dX7_readsRow_87 rfl ?_
    refine rr_callVi 89 X hml (As := [.int (nI 93)]) (kt_X7_takesSign l D C K hAp (upd (upd (upd (upd (upd F 5 (nI (rk (tK (tc (G 3) tn) tn (i))))) 6 (nI (tS (tc (G 3) tn) tn (i)))) 7 (r7 (tc (G 3) tn) tn (tS (tc (G 3) tn) tn (i)) (f7))) 8 (nI (tE (tc (G 3) tn) tn (i)))) 15 (nI c0)) hs mv (va_up (va_up (va_up (va_up G 10 (upd (G 10) m0 (nI 91))) 11 (upd (G 11) m0 (nI c0))) 12 (upd (G 12) m0 (nI (c0 - c0)))) 13 (G 13)) i f7 tn 93 (hT) (by first | rfl | assumption | omega) (by first | rfl | assumption | omega) (by first | rfl | assumption | omega) (by first | rfl | assumption | omega) (by first | rfl | assumption | omega) (by first | rfl | assumption | omega) (by first | rfl | assumption | omega)) gX7_readsRow_X7_takesSign rfl ⟨rfl, rfl⟩ yd_X7_takesSign ⟨Nat.le_of_ble_eq_true rfl, Nat.le_of_ble_eq_true rfl⟩ rfl rfl (Nat.le_of_ble_eq_true rfl) dX7_readsRow_89 ?_
    rintro r1 ⟨F1, hs1, mv1, G1⟩ hu1
    rcases (show (tK (tc (G 3) tn) tn (i) = 93) ∨ (tK (tc (G 3) tn) tn (i) ≠ 93) by omega) with hc1 | hc1
    · skip
      obtain ⟨rfl, hv1⟩ := (hu1.1 hc1)
      cases hv1
      refine zz_world (P' := (RP D C K (upd (upd (upd (upd (upd F 5 (nI (rk (tK (tc (G 3) tn) tn (i + 1))))) 6 (nI (tS (tc (G 3) tn) tn (i + 1)))) 7 (r7 (tc (G 3) tn) tn (tS (tc (G 3) tn) tn (i + 1)) (r7 (tc (G 3) tn) tn (tS (tc (G 3) tn) tn i) f7))) 8 (nI (tE (tc (G 3) tn) tn (i + 1)))) 15 (nI c0)) hs mv (va_up (va_up (va_up (va_up G 10 (upd (G 10) m0 (nI 91))) 11 (upd (G 11) m0 (nI c0))) 12 (upd (G 12) m0 (nI (c0 - c0)))) 13 (G 13)))) (fun _ h => h) ?_
      rw [← hQ]
      refine zz_iret 92 X.1 hr (bI_nar _) hlk (upd (upd (upd (upd (upd F 5 (nI (rk (tK (tc (G 3) tn) tn (i + 1))))) 6 (nI (tS (tc (G 3) tn) tn (i + 1)))) 7 (r7 (tc (G 3) tn) tn (tS (tc (G 3) tn) tn (i + 1)) (r7 (tc (G 3) tn) tn (tS (tc (G 3) tn) tn i) f7))) 8 (nI (tE (tc (G 3) tn) tn (i + 1)))) 15 (nI c0), hs, mv, va_up (va_up (va_up (va_up G 10 (upd (G 10) m0 (nI 91))) 11 (upd (G 11) m0 (nI c0))) 12 (upd (G 12) m0 (nI (c0 - c0)))) 13 (G 13)) ?_ (fun _ h _ => h) dX7_readsRow_92
      have hR : roR (tK (tc (G 3) tn) tn) i = (true, i + 1) := by
        unfold roR
        rw [if_pos (show (tK (tc (G 3) tn) tn) i = 93 by omega)]
      have hN : roR (tK (tc (G 3) tn) tn) i = (true, i + 1) → roN (tK (tc (G 3) tn) tn) i = 0 := fun _ => by
        unfold roN
        rw [if_pos (show (tK (tc (G 3) tn) tn) i = 93 by omega)]
      rw [hR]
      refine ⟨upd (G 12) m0 (nI (c0 - c0)), G 13, c0, r7 (tc (G 3) tn) tn (tS (tc (G 3) tn) tn i) f7, rfl, rfl, fun k hk => ?_, fun k hk => ?_, fun hz => ?_⟩
      · first | rfl | exact upd_ne hk
      · rfl
      · rw [hN hR]
        refine ⟨?_, by omega, fun k hk => ?_⟩
        · rw [upd_eq]; congr 1; omega
        · exact absurd hk (Nat.not_lt_zero _)
    · skip
      obtain ⟨rfl, hv1⟩ := (hu1.2 hc1)
      cases hv1
      refine zz_world (P' := (RP D C K (upd (upd (upd (upd (upd F 5 (nI (rk (tK (tc (G 3) tn) tn (i))))) 6 (nI (tS (tc (G 3) tn) tn (i)))) 7 (r7 (tc (G 3) tn) tn (tS (tc (G 3) tn) tn (i)) (f7))) 8 (nI (tE (tc (G 3) tn) tn (i)))) 15 (nI c0)) hs mv (va_up (va_up (va_up (va_up G 10 (upd (G 10) m0 (nI 91))) 11 (upd (G 11) m0 (nI c0))) 12 (upd (G 12) m0 (nI (c0 - c0)))) 13 (G 13)))) (fun _ h => h) ?_
      rw [← hQ]
      refine zz_iret 92 X.1 hr (bI_nar _) hlk (upd (upd (upd (upd (upd F 5 (nI (rk (tK (tc (G 3) tn) tn (i))))) 6 (nI (tS (tc (G 3) tn) tn (i)))) 7 (r7 (tc (G 3) tn) tn (tS (tc (G 3) tn) tn (i)) (f7))) 8 (nI (tE (tc (G 3) tn) tn (i)))) 15 (nI c0), hs, mv, va_up (va_up (va_up (va_up G 10 (upd (G 10) m0 (nI 91))) 11 (upd (G 11) m0 (nI c0))) 12 (upd (G 12) m0 (nI (c0 - c0)))) 13 (G 13)) ?_ (fun _ h _ => h) dX7_readsRow_92
      have hR : roR (tK (tc (G 3) tn) tn) i = (false, i) := by
        unfold roR
        rw [if_neg (show ¬ (tK (tc (G 3) tn) tn) i = 93 by omega)]
        exact liR_fail 0 400 i (by decide) (fun k h => absurd h (Nat.not_lt_zero _)) (fun k h => absurd h (Nat.not_lt_zero _)) (show (tK (tc (G 3) tn) tn) i ≠ 3 by omega)
      rw [hR]
      refine ⟨upd (G 12) m0 (nI (c0 - c0)), G 13, c0, f7, rfl, rfl, fun k hk => ?_, fun k hk => ?_, fun hz => ?_⟩
      · first | rfl | exact upd_ne hk
      · rfl
      · exact Bool.noConfusion hz
  · skip
    refine zz_aload_n 32 X.1 0 dX7_readsRow_32 rfl ?_
    have hi4 := tK_lt (i := i) (tc_n (g := G 3) (n := tn)) (by omega)
    refine rr_callVi 33 X hml (As := []) (kt_X7_lists l D C K hAp (upd (upd (upd (upd (upd F 5 (nI (rk (tK (tc (G 3) tn) tn (i))))) 6 (nI (tS (tc (G 3) tn) tn (i)))) 7 (r7 (tc (G 3) tn) tn (tS (tc (G 3) tn) tn (i)) (f7))) 8 (nI (tE (tc (G 3) tn) tn (i)))) 15 (nI c0)) hs mv (va_up (va_up (va_up (va_up G 10 (upd (G 10) m0 (nI 91))) 11 (upd (G 11) m0 (nI c0))) 12 (G 12)) 13 (G 13)) i f7 tn c0 (hT) (by first | rfl | assumption | omega) (by first | rfl | assumption | omega) (by first | rfl | assumption | omega) (by first | rfl | assumption | omega) (by first | rfl | assumption | omega) (by first | rfl | assumption | omega) (rfl) (by first | rfl | assumption | omega)) gX7_readsRow_X7_lists rfl ⟨rfl, rfl⟩ yd_X7_lists ⟨Nat.le_of_ble_eq_true rfl, Nat.le_of_ble_eq_true rfl⟩ rfl rfl (Nat.le_of_ble_eq_true rfl) dX7_readsRow_33 ?_
    rintro r2 ⟨F2, hs2, mv2, G2⟩ hu2
    obtain ⟨rfl, hv2⟩ := (hu2.1 (show tK (tc (G 3) tn) tn (i) = 3 from by omega))
    cases hv2
    refine zz_world (P' := (RP D C K (upd (upd (upd (upd (upd F 5 (nI (rk (tK (tc (G 3) tn) tn (i + 1))))) 6 (nI (tS (tc (G 3) tn) tn (i + 1)))) 7 (r7 (tc (G 3) tn) tn (tS (tc (G 3) tn) tn (i + 1)) (r7 (tc (G 3) tn) tn (tS (tc (G 3) tn) tn i) f7))) 8 (nI (tE (tc (G 3) tn) tn (i + 1)))) 15 (nI (c0 + 1))) hs mv (va_up (va_up (va_up (va_up G 10 (upd (G 10) m0 (nI 91))) 11 (upd (G 11) m0 (nI c0))) 12 (G 12)) 13 (upd (G 13) c0 (r7 (tc (G 3) tn) tn (tS (tc (G 3) tn) tn i) f7))))) (fun _ h => h) ?_
    refine zz_istore_n 36 X.1 (lv' := [(1, .int (bI true)), (0, .ref (K 0))]) dX7_readsRow_36 (by decide) rfl ?_
    have C37 : ∀ (d : Nat) (n1 : Nat) (gq : Nat → Int32) (fq : Int32) (hA : ∀ k, k ≤ n1 → tK (tc (G 3) tn) tn (i + 2 * k) = 3) (hB2 : ∀ k, k < n1 → tK (tc (G 3) tn) tn (i + 2 * k + 1) = 44) (hC : ∀ k, k ≤ n1 → gq (c0 + k) = nI (tV (tc (G 3) tn) tn (i + 2 * k))) (hD : ∀ k, k < c0 → gq k = G 13 k) (hd : 400 - n1 < d), ZZ p l e rm_X7_readsRow s m args below meth c 0 0 Q (zz_A (RAd K) s.heap.size) (RP D C K (upd (upd (upd (upd (upd F 5 (nI (rk (tK (tc (G 3) tn) tn (i + 2 * n1 + 1))))) 6 (nI (tS (tc (G 3) tn) tn (i + 2 * n1 + 1)))) 7 (r7 (tc (G 3) tn) tn (tS (tc (G 3) tn) tn (i + 2 * n1 + 1)) (fq))) 8 (nI (tE (tc (G 3) tn) tn (i + 2 * n1 + 1)))) 15 (nI (c0 + n1 + 1))) hs mv (va_up (va_up (va_up (va_up G 10 (upd (G 10) m0 (nI 91))) 11 (upd (G 11) m0 (nI c0))) 12 (G 12)) 13 gq)) 2 [(0, .ref (K 0)), (1, .int (bI true))] [] 37 := by
      intro d
      induction d with
      | zero => intro n1 gq fq hA hB2 hC hD hd; exact absurd hd (Nat.not_lt_zero _)
      | succ d ih37 =>
        intro n1 gq fq hA hB2 hC hD hd
        have hlast := tK_lt (i := i + 2 * n1) (tc_n (g := G 3) (n := tn)) (by rw [hA n1 (Nat.le_refl _)]; decide)
        refine zz_iload_n 37 X.1 1 dX7_readsRow_37 rfl ?_
        refine zz_ifB_eq 38 63 X.1 dX7_readsRow_38 (by decide) (fun h38 => ?_) (fun h38 => ?_)
        · exact absurd h38 (by decide)
        · skip
          have hkn := rk_is (tK (tc (G 3) tn) tn (i + 2 * n1 + 1))
          refine zz_aload_n 41 X.1 0 dX7_readsRow_41 rfl ?_
          refine zz_bipush 42 X.1 (v := nI 44) dX7_readsRow_42 rfl ?_
          refine rr_callVi 44 X hml (As := [.int (nI 44)]) (kt_X7_isSignNow l D C K hAp (upd (upd (upd (upd (upd F 5 (nI (rk (tK (tc (G 3) tn) tn (i + 2 * n1 + 1))))) 6 (nI (tS (tc (G 3) tn) tn (i + 2 * n1 + 1)))) 7 (r7 (tc (G 3) tn) tn (tS (tc (G 3) tn) tn (i + 2 * n1 + 1)) (fq))) 8 (nI (tE (tc (G 3) tn) tn (i + 2 * n1 + 1)))) 15 (nI (c0 + n1 + 1))) hs mv (va_up (va_up (va_up (va_up G 10 (upd (G 10) m0 (nI 91))) 11 (upd (G 11) m0 (nI c0))) 12 (G 12)) 13 gq) (i + 2 * n1 + 1) fq tn 44 (hT) (by first | rfl | assumption | omega) (by first | rfl | assumption | omega) (by first | rfl | assumption | omega) (by first | rfl | assumption | omega) (by first | rfl | assumption | omega) (by first | rfl | assumption | omega) (by first | rfl | assumption | omega)) gX7_readsRow_X7_isSignNow rfl ⟨rfl, rfl⟩ yd_X7_isSignNow ⟨Nat.le_of_ble_eq_true rfl, Nat.le_of_ble_eq_true rfl⟩ rfl rfl (Nat.le_of_ble_eq_true rfl) dX7_readsRow_44 ?_
          rintro r3 ⟨F3, hs3, mv3, G3⟩ hu3
          rcases (show (tK (tc (G 3) tn) tn ((i + 2 * n1 + 1)) = 44) ∨ (tK (tc (G 3) tn) tn ((i + 2 * n1 + 1)) ≠ 44) by omega) with hc3 | hc3
          · skip
            obtain ⟨rfl, hv3⟩ := (hu3.1 hc3)
            cases hv3
            refine zz_world (P' := (RP D C K (upd (upd (upd (upd (upd F 5 (nI (rk (tK (tc (G 3) tn) tn ((i + 2 * n1 + 1)))))) 6 (nI (tS (tc (G 3) tn) tn ((i + 2 * n1 + 1))))) 7 (r7 (tc (G 3) tn) tn (tS (tc (G 3) tn) tn ((i + 2 * n1 + 1))) (fq))) 8 (nI (tE (tc (G 3) tn) tn ((i + 2 * n1 + 1))))) 15 (nI (c0 + n1 + 1))) hs mv (va_up (va_up (va_up (va_up G 10 (upd (G 10) m0 (nI 91))) 11 (upd (G 11) m0 (nI c0))) 12 (G 12)) 13 gq))) (fun _ h => h) ?_
            refine zz_ifB_eq 47 63 X.1 dX7_readsRow_47 (by decide) (fun h47 => ?_) (fun h47 => ?_)
            · exact absurd h47 (by decide)
            · skip
              refine zz_aload_n 50 X.1 0 dX7_readsRow_50 rfl ?_
              refine rr_callVv 51 X hml (As := []) (kt_X7_reads l D C K hAp (upd (upd (upd (upd (upd F 5 (nI (rk (tK (tc (G 3) tn) tn ((i + 2 * n1 + 1)))))) 6 (nI (tS (tc (G 3) tn) tn ((i + 2 * n1 + 1))))) 7 (r7 (tc (G 3) tn) tn (tS (tc (G 3) tn) tn ((i + 2 * n1 + 1))) (fq))) 8 (nI (tE (tc (G 3) tn) tn ((i + 2 * n1 + 1))))) 15 (nI (c0 + n1 + 1))) hs mv (va_up (va_up (va_up (va_up G 10 (upd (G 10) m0 (nI 91))) 11 (upd (G 11) m0 (nI c0))) 12 (G 12)) 13 gq) (i + 2 * n1 + 1) tn (hT) (by first | rfl | assumption | omega) (by first | rfl | assumption | omega) (by first | rfl | assumption | omega)) gX7_readsRow_X7_reads rfl ⟨rfl, rfl⟩ yd_X7_reads ⟨Nat.le_of_ble_eq_true rfl, Nat.le_of_ble_eq_true rfl⟩ rfl rfl (Nat.le_of_ble_eq_true rfl) dX7_readsRow_51 ?_
              rintro ⟨F4, hs4, mv4, G4⟩ hu4
              cases hu4
              refine zz_world (P' := (RP D C K (upd (upd (upd (upd (upd F 5 (nI (rk (tK (tc (G 3) tn) tn ((i + 2 * n1 + 1) + 1))))) 6 (nI (tS (tc (G 3) tn) tn ((i + 2 * n1 + 1) + 1)))) 7 (r7 (tc (G 3) tn) tn (tS (tc (G 3) tn) tn ((i + 2 * n1 + 1) + 1)) (r7 (tc (G 3) tn) tn (tS (tc (G 3) tn) tn ((i + 2 * n1 + 1))) (fq)))) 8 (nI (tE (tc (G 3) tn) tn ((i + 2 * n1 + 1) + 1)))) 15 (nI (c0 + n1 + 1))) hs mv (va_up (va_up (va_up (va_up G 10 (upd (G 10) m0 (nI 91))) 11 (upd (G 11) m0 (nI c0))) 12 (G 12)) 13 gq))) (fun _ h => h) ?_
              have h44 : tK (tc (G 3) tn) tn (i + 2 * n1 + 1) = 44 := by omega
              have hi5 := tK_lt (i := i + 2 * n1 + 1) (tc_n (g := G 3) (n := tn)) (by omega)
              refine zz_aload_n 54 X.1 0 dX7_readsRow_54 rfl ?_
              refine rr_callVi 55 X hml (As := []) (kt_X7_lists l D C K hAp (upd (upd (upd (upd (upd F 5 (nI (rk (tK (tc (G 3) tn) tn ((i + 2 * n1 + 1) + 1))))) 6 (nI (tS (tc (G 3) tn) tn ((i + 2 * n1 + 1) + 1)))) 7 (r7 (tc (G 3) tn) tn (tS (tc (G 3) tn) tn ((i + 2 * n1 + 1) + 1)) (r7 (tc (G 3) tn) tn (tS (tc (G 3) tn) tn ((i + 2 * n1 + 1))) (fq)))) 8 (nI (tE (tc (G 3) tn) tn ((i + 2 * n1 + 1) + 1)))) 15 (nI (c0 + n1 + 1))) hs mv (va_up (va_up (va_up (va_up G 10 (upd (G 10) m0 (nI 91))) 11 (upd (G 11) m0 (nI c0))) 12 (G 12)) 13 gq) ((i + 2 * n1 + 1) + 1) (r7 (tc (G 3) tn) tn (tS (tc (G 3) tn) tn ((i + 2 * n1 + 1))) (fq)) tn (c0 + n1 + 1) (hT) (by first | rfl | assumption | omega) (by first | rfl | assumption | omega) (by first | rfl | assumption | omega) (by first | rfl | assumption | omega) (by first | rfl | assumption | omega) (by first | rfl | assumption | omega) (rfl) (by first | rfl | assumption | omega)) gX7_readsRow_X7_lists rfl ⟨rfl, rfl⟩ yd_X7_lists ⟨Nat.le_of_ble_eq_true rfl, Nat.le_of_ble_eq_true rfl⟩ rfl rfl (Nat.le_of_ble_eq_true rfl) dX7_readsRow_55 ?_
              rintro r5 ⟨F5, hs5, mv5, G5⟩ hu5
              rcases (show (tK (tc (G 3) tn) tn (((i + 2 * n1 + 1) + 1)) = 3) ∨ (tK (tc (G 3) tn) tn (((i + 2 * n1 + 1) + 1)) ≠ 3) by omega) with hc5 | hc5
              · skip
                obtain ⟨rfl, hv5⟩ := (hu5.1 hc5)
                cases hv5
                refine zz_world (P' := (RP D C K (upd (upd (upd (upd (upd F 5 (nI (rk (tK (tc (G 3) tn) tn (((i + 2 * n1 + 1) + 1) + 1))))) 6 (nI (tS (tc (G 3) tn) tn (((i + 2 * n1 + 1) + 1) + 1)))) 7 (r7 (tc (G 3) tn) tn (tS (tc (G 3) tn) tn (((i + 2 * n1 + 1) + 1) + 1)) (r7 (tc (G 3) tn) tn (tS (tc (G 3) tn) tn ((i + 2 * n1 + 1) + 1)) (r7 (tc (G 3) tn) tn (tS (tc (G 3) tn) tn ((i + 2 * n1 + 1))) (fq))))) 8 (nI (tE (tc (G 3) tn) tn (((i + 2 * n1 + 1) + 1) + 1)))) 15 (nI ((c0 + n1 + 1) + 1))) hs mv (va_up (va_up (va_up (va_up G 10 (upd (G 10) m0 (nI 91))) 11 (upd (G 11) m0 (nI c0))) 12 (G 12)) 13 (upd gq (c0 + n1 + 1) (r7 (tc (G 3) tn) tn (tS (tc (G 3) tn) tn ((i + 2 * n1 + 1) + 1)) (r7 (tc (G 3) tn) tn (tS (tc (G 3) tn) tn ((i + 2 * n1 + 1))) (fq))))))) (fun _ h => h) ?_
                refine zz_ifB_ne 58 37 X.1 dX7_readsRow_58 (by decide) (fun h58 => ?_) (fun h58 => ?_)
                · skip
                  refine zz_lvs [0, 1] rfl ?_
                  exact ih37 (n1 + 1) (upd gq (c0 + n1 + 1) (r7 (tc (G 3) tn) tn (tS (tc (G 3) tn) tn ((i + 2 * n1 + 1) + 1)) (r7 (tc (G 3) tn) tn (tS (tc (G 3) tn) tn ((i + 2 * n1 + 1))) (fq)))) (r7 (tc (G 3) tn) tn (tS (tc (G 3) tn) tn ((i + 2 * n1 + 1) + 1)) (r7 (tc (G 3) tn) tn (tS (tc (G 3) tn) tn ((i + 2 * n1 + 1))) (fq))) (fun k hk => by rcases Nat.lt_or_ge n1 k with z | z; rw [show k = n1 + 1 by omega]; show tK (tc (G 3) tn) tn (i + 2 * n1 + 1 + 1) = 3; omega; exact hA k z) (fun k hk => by rcases Nat.lt_or_ge k n1 with z | z; exact hB2 k z; rw [show k = n1 by omega]; exact h44) (fun k hk => by rcases Nat.lt_or_ge n1 k with z | z; rw [show k = n1 + 1 by omega, show c0 + (n1 + 1) = c0 + n1 + 1 by omega, upd_eq]; exact r7_v (Or.inr (show tK (tc (G 3) tn) tn (i + 2 * n1 + 1 + 1) = 3 by omega)); rw [upd_ne (by omega)]; exact hC k z) (fun k hk => by rw [upd_ne (by omega)]; exact hD k hk) (by omega)
                · exact absurd h58 (by decide)
              · skip
                obtain ⟨rfl, hv5⟩ := (hu5.2 hc5)
                cases hv5
                refine zz_world (P' := (RP D C K (upd (upd (upd (upd (upd F 5 (nI (rk (tK (tc (G 3) tn) tn (((i + 2 * n1 + 1) + 1)))))) 6 (nI (tS (tc (G 3) tn) tn (((i + 2 * n1 + 1) + 1))))) 7 (r7 (tc (G 3) tn) tn (tS (tc (G 3) tn) tn (((i + 2 * n1 + 1) + 1))) ((r7 (tc (G 3) tn) tn (tS (tc (G 3) tn) tn ((i + 2 * n1 + 1))) (fq))))) 8 (nI (tE (tc (G 3) tn) tn (((i + 2 * n1 + 1) + 1))))) 15 (nI (c0 + n1 + 1))) hs mv (va_up (va_up (va_up (va_up G 10 (upd (G 10) m0 (nI 91))) 11 (upd (G 11) m0 (nI c0))) 12 (G 12)) 13 (upd gq (c0 + n1 + 1) (r7 (tc (G 3) tn) tn (tS (tc (G 3) tn) tn ((i + 2 * n1 + 1) + 1)) (r7 (tc (G 3) tn) tn (tS (tc (G 3) tn) tn ((i + 2 * n1 + 1))) (fq))))))) (fun _ h => h) ?_
                refine zz_ifB_ne 58 37 X.1 dX7_readsRow_58 (by decide) (fun h58 => ?_) (fun h58 => ?_)
                · exact absurd h58 (by decide)
                · skip
                  have hnx : tK (tc (G 3) tn) tn (i + 2 * n1 + 1 + 1) ≠ 3 := by omega
                  refine zz_iconst 61 X.1 (v := nI 0) dX7_readsRow_61 rfl ?_
                  refine zz_topi (bI false) rfl ?_
                  rw [← hQ]
                  refine zz_iret 62 X.1 hr (bI_nar _) hlk (upd (upd (upd (upd (upd F 5 (nI (rk (tK (tc (G 3) tn) tn (((i + 2 * n1 + 1) + 1)))))) 6 (nI (tS (tc (G 3) tn) tn (((i + 2 * n1 + 1) + 1))))) 7 (r7 (tc (G 3) tn) tn (tS (tc (G 3) tn) tn (((i + 2 * n1 + 1) + 1))) ((r7 (tc (G 3) tn) tn (tS (tc (G 3) tn) tn ((i + 2 * n1 + 1))) (fq))))) 8 (nI (tE (tc (G 3) tn) tn (((i + 2 * n1 + 1) + 1))))) 15 (nI (c0 + n1 + 1)), hs, mv, va_up (va_up (va_up (va_up G 10 (upd (G 10) m0 (nI 91))) 11 (upd (G 11) m0 (nI c0))) 12 (G 12)) 13 (upd gq (c0 + n1 + 1) (r7 (tc (G 3) tn) tn (tS (tc (G 3) tn) tn ((i + 2 * n1 + 1) + 1)) (r7 (tc (G 3) tn) tn (tS (tc (G 3) tn) tn ((i + 2 * n1 + 1))) (fq))))) ?_ (fun _ h _ => h) dX7_readsRow_62
                  have hi3 : (tK (tc (G 3) tn) tn) i = 3 := hA 0 (Nat.zero_le _)
                  have hR : roR (tK (tc (G 3) tn) tn) i = (false, ((i + 2 * n1 + 1) + 1)) := by
                    unfold roR
                    rw [if_neg (show ¬ (tK (tc (G 3) tn) tn) i = 93 by omega)]
                    exact liR_fail (n1 + 1) 400 i (by omega) (fun k hk => hA k (by omega)) (fun k hk => by rcases Nat.lt_or_ge k n1 with z | z; exact hB2 k z; rw [show k = n1 by omega]; exact h44) (by have e2 : tK (tc (G 3) tn) tn (i + 2 * (n1 + 1)) = tK (tc (G 3) tn) tn (i + 2 * n1 + 1 + 1) := rfl; have hne := hnx; show tK (tc (G 3) tn) tn (i + 2 * (n1 + 1)) ≠ 3; omega)
                  rw [hR]
                  refine ⟨G 12, upd gq (c0 + n1 + 1) (r7 (tc (G 3) tn) tn (tS (tc (G 3) tn) tn ((i + 2 * n1 + 1) + 1)) (r7 (tc (G 3) tn) tn (tS (tc (G 3) tn) tn ((i + 2 * n1 + 1))) (fq))), c0 + n1 + 1, (r7 (tc (G 3) tn) tn (tS (tc (G 3) tn) tn ((i + 2 * n1 + 1))) (fq)), rfl, rfl, fun k hk => ?_, fun k hk => ?_, fun hz => ?_⟩
                  · first | rfl | exact upd_ne hk
                  · first | rfl | exact hD k hk | (rw [upd_ne (by omega)]; exact hD k hk)
                  · exact Bool.noConfusion hz
          · skip
            obtain ⟨rfl, hv3⟩ := (hu3.2 hc3)
            cases hv3
            refine zz_world (P' := (RP D C K (upd (upd (upd (upd (upd F 5 (nI (rk (tK (tc (G 3) tn) tn ((i + 2 * n1 + 1)))))) 6 (nI (tS (tc (G 3) tn) tn ((i + 2 * n1 + 1))))) 7 (r7 (tc (G 3) tn) tn (tS (tc (G 3) tn) tn ((i + 2 * n1 + 1))) (fq))) 8 (nI (tE (tc (G 3) tn) tn ((i + 2 * n1 + 1))))) 15 (nI (c0 + n1 + 1))) hs mv (va_up (va_up (va_up (va_up G 10 (upd (G 10) m0 (nI 91))) 11 (upd (G 11) m0 (nI c0))) 12 (G 12)) 13 gq))) (fun _ h => h) ?_
            refine zz_ifB_eq 47 63 X.1 dX7_readsRow_47 (by decide) (fun h47 => ?_) (fun h47 => ?_)
            · skip
              refine zz_aload_n 63 X.1 0 dX7_readsRow_63 rfl ?_
              refine rr_get 64 X 12 (by decide) (v := .ref (K 12)) rfl (by decide +kernel) rfl dX7_readsRow_64 ?_
              refine zz_aload_n 67 X.1 0 dX7_readsRow_67 rfl ?_
              refine rr_get 68 X 14 (by decide) (v := .int (F 14)) rfl (by decide +kernel) rfl dX7_readsRow_68 ?_
              refine zz_topi (nI m0) (h14) ?_
              refine zz_aload_n 71 X.1 0 dX7_readsRow_71 rfl ?_
              refine rr_get 72 X 15 (by decide) (v := .int (nI (c0 + n1 + 1))) rfl (by decide +kernel) rfl dX7_readsRow_72 ?_
              refine zz_aload_n 75 X.1 0 dX7_readsRow_75 rfl ?_
              refine rr_get 76 X 11 (by decide) (v := .ref (K 11)) rfl (by decide +kernel) rfl dX7_readsRow_76 ?_
              refine zz_aload_n 79 X.1 0 dX7_readsRow_79 rfl ?_
              refine rr_get 80 X 14 (by decide) (v := .int (F 14)) rfl (by decide +kernel) rfl dX7_readsRow_80 ?_
              refine zz_topi (nI m0) (h14) ?_
              refine rr_iald 83 X 5 11 (len := 100) (f := upd (G 11) m0 (nI c0)) rfl (by omega) (by decide) dX7_readsRow_83 ?_
              refine zz_topi (nI c0) (upd_eq) ?_
              refine zz_isub 84 X.1 (v := (nI ((c0 + n1 + 1) - c0))) dX7_readsRow_84 (pk_sub (by omega)) ?_
              refine rr_iast 85 hAp X 6 12 (f := G 12) (G' := va_up (va_up (va_up (va_up G 10 (upd (G 10) m0 (nI 91))) 11 (upd (G 11) m0 (nI c0))) 12 (upd (G 12) m0 (nI ((c0 + n1 + 1) - c0)))) 13 gq) rfl rfl (by omega) (by decide) dX7_readsRow_85 ?_
              refine zz_aload_n 86 X.1 0 dX7_readsRow_86 rfl ?_
              refine zz_bipush 87 X.1 (v := nI 93) dX7_readsRow_87 rfl ?_
              refine rr_callVi 89 X hml (As := [.int (nI 93)]) (kt_X7_takesSign l D C K hAp (upd (upd (upd (upd (upd F 5 (nI (rk (tK (tc (G 3) tn) tn ((i + 2 * n1 + 1)))))) 6 (nI (tS (tc (G 3) tn) tn ((i + 2 * n1 + 1))))) 7 (r7 (tc (G 3) tn) tn (tS (tc (G 3) tn) tn ((i + 2 * n1 + 1))) (fq))) 8 (nI (tE (tc (G 3) tn) tn ((i + 2 * n1 + 1))))) 15 (nI (c0 + n1 + 1))) hs mv (va_up (va_up (va_up (va_up G 10 (upd (G 10) m0 (nI 91))) 11 (upd (G 11) m0 (nI c0))) 12 (upd (G 12) m0 (nI ((c0 + n1 + 1) - c0)))) 13 gq) (i + 2 * n1 + 1) fq tn 93 (hT) (by first | rfl | assumption | omega) (by first | rfl | assumption | omega) (by first | rfl | assumption | omega) (by first | rfl | assumption | omega) (by first | rfl | assumption | omega) (by first | rfl | assumption | omega) (by first | rfl | assumption | omega)) gX7_readsRow_X7_takesSign rfl ⟨rfl, rfl⟩ yd_X7_takesSign ⟨Nat.le_of_ble_eq_true rfl, Nat.le_of_ble_eq_true rfl⟩ rfl rfl (Nat.le_of_ble_eq_true rfl) dX7_readsRow_89 ?_
              rintro r6 ⟨F6, hs6, mv6, G6⟩ hu6
              rcases (show (tK (tc (G 3) tn) tn ((i + 2 * n1 + 1)) = 93) ∨ (tK (tc (G 3) tn) tn ((i + 2 * n1 + 1)) ≠ 93) by omega) with hc6 | hc6
              · skip
                obtain ⟨rfl, hv6⟩ := (hu6.1 hc6)
                cases hv6
                refine zz_world (P' := (RP D C K (upd (upd (upd (upd (upd F 5 (nI (rk (tK (tc (G 3) tn) tn ((i + 2 * n1 + 1) + 1))))) 6 (nI (tS (tc (G 3) tn) tn ((i + 2 * n1 + 1) + 1)))) 7 (r7 (tc (G 3) tn) tn (tS (tc (G 3) tn) tn ((i + 2 * n1 + 1) + 1)) (r7 (tc (G 3) tn) tn (tS (tc (G 3) tn) tn (i + 2 * n1 + 1)) fq))) 8 (nI (tE (tc (G 3) tn) tn ((i + 2 * n1 + 1) + 1)))) 15 (nI (c0 + n1 + 1))) hs mv (va_up (va_up (va_up (va_up G 10 (upd (G 10) m0 (nI 91))) 11 (upd (G 11) m0 (nI c0))) 12 (upd (G 12) m0 (nI ((c0 + n1 + 1) - c0)))) 13 gq))) (fun _ h => h) ?_
                rw [← hQ]
                refine zz_iret 92 X.1 hr (bI_nar _) hlk (upd (upd (upd (upd (upd F 5 (nI (rk (tK (tc (G 3) tn) tn ((i + 2 * n1 + 1) + 1))))) 6 (nI (tS (tc (G 3) tn) tn ((i + 2 * n1 + 1) + 1)))) 7 (r7 (tc (G 3) tn) tn (tS (tc (G 3) tn) tn ((i + 2 * n1 + 1) + 1)) (r7 (tc (G 3) tn) tn (tS (tc (G 3) tn) tn (i + 2 * n1 + 1)) fq))) 8 (nI (tE (tc (G 3) tn) tn ((i + 2 * n1 + 1) + 1)))) 15 (nI (c0 + n1 + 1)), hs, mv, va_up (va_up (va_up (va_up G 10 (upd (G 10) m0 (nI 91))) 11 (upd (G 11) m0 (nI c0))) 12 (upd (G 12) m0 (nI ((c0 + n1 + 1) - c0)))) 13 gq) ?_ (fun _ h _ => h) dX7_readsRow_92
                have hi3 : (tK (tc (G 3) tn) tn) i = 3 := hA 0 (Nat.zero_le _)
                have hL := liR_run n1 400 i (K := (tK (tc (G 3) tn) tn)) (by omega) hA hB2 (by omega)
                have hR : roR (tK (tc (G 3) tn) tn) i = (true, (i + 2 * n1 + 1) + 1) := by
                  unfold roR
                  rw [if_neg (show ¬ (tK (tc (G 3) tn) tn) i = 93 by omega), hL.1]
                  rw [if_pos (show (tK (tc (G 3) tn) tn) (i + 2 * n1 + 1) = 93 by omega)]
                have hN : roN (tK (tc (G 3) tn) tn) i = n1 + 1 := by
                  unfold roN
                  rw [if_neg (show ¬ (tK (tc (G 3) tn) tn) i = 93 by omega)]
                  exact hL.2
                rw [hR]
                refine ⟨upd (G 12) m0 (nI ((c0 + n1 + 1) - c0)), gq, c0 + n1 + 1, r7 (tc (G 3) tn) tn (tS (tc (G 3) tn) tn (i + 2 * n1 + 1)) fq, rfl, rfl, fun k hk => ?_, fun k hk => ?_, fun hz => ?_⟩
                · first | rfl | exact upd_ne hk
                · first | rfl | exact hD k hk | (rw [upd_ne (by omega)]; exact hD k hk)
                · rw [hN]
                  refine ⟨?_, by omega, fun k hk => ?_⟩
                  · rw [upd_eq]; congr 1; omega
                  · exact hC k (by omega)
              · skip
                obtain ⟨rfl, hv6⟩ := (hu6.2 hc6)
                cases hv6
                refine zz_world (P' := (RP D C K (upd (upd (upd (upd (upd F 5 (nI (rk (tK (tc (G 3) tn) tn ((i + 2 * n1 + 1)))))) 6 (nI (tS (tc (G 3) tn) tn ((i + 2 * n1 + 1))))) 7 (r7 (tc (G 3) tn) tn (tS (tc (G 3) tn) tn ((i + 2 * n1 + 1))) (fq))) 8 (nI (tE (tc (G 3) tn) tn ((i + 2 * n1 + 1))))) 15 (nI (c0 + n1 + 1))) hs mv (va_up (va_up (va_up (va_up G 10 (upd (G 10) m0 (nI 91))) 11 (upd (G 11) m0 (nI c0))) 12 (upd (G 12) m0 (nI ((c0 + n1 + 1) - c0)))) 13 gq))) (fun _ h => h) ?_
                rw [← hQ]
                refine zz_iret 92 X.1 hr (bI_nar _) hlk (upd (upd (upd (upd (upd F 5 (nI (rk (tK (tc (G 3) tn) tn ((i + 2 * n1 + 1)))))) 6 (nI (tS (tc (G 3) tn) tn ((i + 2 * n1 + 1))))) 7 (r7 (tc (G 3) tn) tn (tS (tc (G 3) tn) tn ((i + 2 * n1 + 1))) (fq))) 8 (nI (tE (tc (G 3) tn) tn ((i + 2 * n1 + 1))))) 15 (nI (c0 + n1 + 1)), hs, mv, va_up (va_up (va_up (va_up G 10 (upd (G 10) m0 (nI 91))) 11 (upd (G 11) m0 (nI c0))) 12 (upd (G 12) m0 (nI ((c0 + n1 + 1) - c0)))) 13 gq) ?_ (fun _ h _ => h) dX7_readsRow_92
                have hi3 : (tK (tc (G 3) tn) tn) i = 3 := hA 0 (Nat.zero_le _)
                have hL := liR_run n1 400 i (K := (tK (tc (G 3) tn) tn)) (by omega) hA hB2 (by omega)
                have hR : roR (tK (tc (G 3) tn) tn) i = (false, (i + 2 * n1 + 1)) := by
                  unfold roR
                  rw [if_neg (show ¬ (tK (tc (G 3) tn) tn) i = 93 by omega), hL.1]
                  rw [if_neg (show ¬ (tK (tc (G 3) tn) tn) (i + 2 * n1 + 1) = 93 by omega)]
                have hN : roN (tK (tc (G 3) tn) tn) i = n1 + 1 := by
                  unfold roN
                  rw [if_neg (show ¬ (tK (tc (G 3) tn) tn) i = 93 by omega)]
                  exact hL.2
                rw [hR]
                refine ⟨upd (G 12) m0 (nI ((c0 + n1 + 1) - c0)), gq, c0 + n1 + 1, fq, rfl, rfl, fun k hk => ?_, fun k hk => ?_, fun hz => ?_⟩
                · first | rfl | exact upd_ne hk
                · first | rfl | exact hD k hk | (rw [upd_ne (by omega)]; exact hD k hk)
                · exact Bool.noConfusion hz
            · exact absurd h47 (by decide)
    refine zz_lvs [1, 0] rfl ?_
    exact C37 (400 - 0 + 1) 0 (upd (G 13) c0 (r7 (tc (G 3) tn) tn (tS (tc (G 3) tn) tn i) f7)) (r7 (tc (G 3) tn) tn (tS (tc (G 3) tn) tn i) f7) (fun k hk => by rw [show k = 0 by omega]; show tK (tc (G 3) tn) tn i = 3; omega) (fun k hk => absurd hk (Nat.not_lt_zero _)) (fun k hk => by rw [show k = 0 by omega, Nat.add_zero, upd_eq]; exact r7_v (Or.inr (show tK (tc (G 3) tn) tn i = 3 by omega))) (fun k hk => upd_ne (by omega)) (Nat.lt_succ_self _)
