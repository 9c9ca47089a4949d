/-! The reference parses. -/
theorem upd4_self {F : Nat → Int32} {a b c d : Int32} (h5 : F 5 = a) (h6 : F 6 = b) (h7 : F 7 = c) (h8 : F 8 = d) : F = upd (upd (upd (upd F 5 a) 6 b) 7 c) 8 d := by
  funext j
  unfold upd
  by_cases j8 : j = 8
  · rw [if_pos j8, j8, h8]
  · rw [if_neg j8]
    by_cases j7 : j = 7
    · rw [if_pos j7, j7, h7]
    · rw [if_neg j7]
      by_cases j6 : j = 6
      · rw [if_pos j6, j6, h6]
      · rw [if_neg j6]
        by_cases j5 : j = 5
        · rw [if_pos j5, j5, h5]
        · rw [if_neg j5]
theorem upd_ne {f : Nat → Int32} {i j : Nat} {x : Int32} (h : j ≠ i) : upd f i x j = f j := if_neg h
theorem upd_eq {f : Nat → Int32} {i : Nat} {x : Int32} : upd f i x i = x := if_pos rfl
theorem liR_run {K : Nat → Nat} : ∀ (n d i : Nat), n < d → (∀ k, k ≤ n → K (i + 2 * k) = 3) → (∀ k, k < n → K (i + 2 * k + 1) = 44) → K (i + 2 * n + 1) ≠ 44 → liR K d i = (if K (i + 2 * n + 1) = 93 then (true, i + 2 * n + 2) else (false, i + 2 * n + 1)) ∧ liN K d i = n + 1
  | _, 0, _, h, _, _, _ => absurd h (Nat.not_lt_zero _)
  | 0, d + 1, i, _, h1, _, h3 => by
    unfold liR liN
    have e1 : K i = 3 := h1 0 (Nat.le_refl _)
    have e2 : ¬ K (i + 1) = 44 := h3
    have e1' : ¬ K i ≠ 3 := by omega
    rw [if_neg e1', if_neg e2, if_neg e1', if_neg e2]
    exact ⟨rfl, rfl⟩
  | n + 1, d + 1, i, h, h1, h2, h3 => by
    have ih := liR_run n d (i + 2) (by omega) (fun k hk => by rw [show i + 2 + 2 * k = i + 2 * (k + 1) by omega]; exact h1 (k + 1) (by omega)) (fun k hk => by rw [show i + 2 + 2 * k + 1 = i + 2 * (k + 1) + 1 by omega]; exact h2 (k + 1) (by omega)) (by rw [show i + 2 + 2 * n + 1 = i + 2 * (n + 1) + 1 by omega]; exact h3)
    unfold liR liN
    have e1 : K i = 3 := h1 0 (Nat.zero_le _)
    have e2 : K (i + 1) = 44 := h2 0 (by omega)
    have e1' : ¬ K i ≠ 3 := by omega
    rw [if_neg e1', if_pos e2, if_neg e1', if_pos e2, ih.1, ih.2]
    rw [show i + 2 + 2 * n + 1 = i + 2 * (n + 1) + 1 by omega, show i + 2 + 2 * n + 2 = i + 2 * (n + 1) + 2 by omega]
    exact ⟨rfl, rfl⟩
theorem liR_fail {K : Nat → Nat} : ∀ (n d i : Nat), n < d → (∀ k, k < n → K (i + 2 * k) = 3) → (∀ k, k < n → K (i + 2 * k + 1) = 44) → K (i + 2 * n) ≠ 3 → liR K d i = (false, i + 2 * n)
  | _, 0, _, h, _, _, _ => absurd h (Nat.not_lt_zero _)
  | 0, d + 1, i, _, _, _, h3 => by
    unfold liR
    rw [if_pos (show K i ≠ 3 from h3)]
    rfl
  | n + 1, d + 1, i, h, h1, h2, h3 => by
    have ih := liR_fail n d (i + 2) (by omega) (fun k hk => by rw [show i + 2 + 2 * k = i + 2 * (k + 1) by omega]; exact h1 (k + 1) (by omega)) (fun k hk => by rw [show i + 2 + 2 * k + 1 = i + 2 * (k + 1) + 1 by omega]; exact h2 (k + 1) (by omega)) (by rw [show i + 2 + 2 * n = i + 2 * (n + 1) by omega]; exact h3)
    unfold liR
    have e1 : K i = 3 := h1 0 (by omega)
    have e2 : K (i + 1) = 44 := h2 0 (by omega)
    have e1' : ¬ K i ≠ 3 := by omega
    rw [if_neg e1', if_pos e2, ih, show i + 2 + 2 * n = i + 2 * (n + 1) by omega]
def rS (K V : Nat → Nat) (i : Nat) : Int32 := if isL K i then nI (slc K i) else if K (i + 3) = 4 then nI (V (i + 4)) else -1

theorem kt_X7_reads (l : Launch) (D : va_G) (C : Nat → ClassId) (K : Nat → Nat) (hAp : RAp K) (F : Nat → Int32) (hs mv : Nat → Bool) (G : Nat → Nat → Int32) (i : Nat) (tn : Nat) (hT : F 4 = nI tn) (htn : tn ≤ 400) (hB : HB (G 3) tn) (h8 : F 8 = nI (tE (tc (G 3) tn) tn i)) : RMv l yX7_reads wsX7_reads rm_X7_reads D C K [] F hs mv G (fun (u : MSt) => u = (upd (upd (upd (upd F 5 (nI (rk (tK (tc (G 3) tn) tn (i + 1))))) 6 (nI (tS (tc (G 3) tn) tn (i + 1)))) 7 (r7 (tc (G 3) tn) tn (tS (tc (G 3) tn) tn (i + 1)) (F 7))) 8 (nI (tE (tc (G 3) tn) tn (i + 1))), hs, mv, G)) := by
  exact kt_X7_reads_e l D C K hAp F hs mv G (tE (tc (G 3) tn) tn i) tn hT htn hB h8 (tS_le tc_n i).2

abbrev rm_X7_isSignNow : Room := { frames := 0, cells := 0, slots := 0, locals := 0 }
theorem yd_X7_isSignNow : yX7_isSignNow.cls = RX7 ∧ yX7_isSignNow.cls ≠ "java/lang/invoke/MethodHandle" ∧ yX7_isSignNow.cls ≠ "java/lang/invoke/VarHandle" ∧ (parseMethodDescriptor yX7_isSignNow.desc).map (fun d => d.parameters.length) = some 1 := by decide +kernel
set_option maxHeartbeats 4000000 in
set_option maxRecDepth 100000 in
theorem kt_X7_isSignNow (l : Launch) (D : va_G) (C : Nat → ClassId) (K : Nat → Nat) (hAp : RAp K) (F : Nat → Int32) (hs mv : Nat → Bool) (G : Nat → Nat → Int32) (i : Nat) (f7 : Int32) (tn : Nat) (b0 : Nat) (hT : F 4 = nI tn) (htn : tn ≤ 400) (hB : HB (G 3) tn) (h5 : F 5 = nI (rk (tK (tc (G 3) tn) tn i))) (h6 : F 6 = nI (tS (tc (G 3) tn) tn i)) (h7 : F 7 = r7 (tc (G 3) tn) tn (tS (tc (G 3) tn) tn i) f7) (h8 : F 8 = nI (tE (tc (G 3) tn) tn i)) (hb0 : 5 ≤ b0 ∧ b0 < 200) : RMi l yX7_isSignNow wsX7_isSignNow rm_X7_isSignNow D C K [.int (nI b0)] F hs mv G (fun (r : Int32) (u : MSt) => (tK (tc (G 3) tn) tn (i) = b0 → r = (bI true) ∧ u = (upd (upd (upd (upd F 5 (nI (rk (tK (tc (G 3) tn) tn (i))))) 6 (nI (tS (tc (G 3) tn) tn (i)))) 7 (r7 (tc (G 3) tn) tn (tS (tc (G 3) tn) tn (i)) (f7))) 8 (nI (tE (tc (G 3) tn) tn (i))), hs, mv, G)) ∧ (tK (tc (G 3) tn) tn (i) ≠ b0 → r = (bI false) ∧ u = (upd (upd (upd (upd F 5 (nI (rk (tK (tc (G 3) tn) tn (i))))) 6 (nI (tS (tc (G 3) tn) tn (i)))) 7 (r7 (tc (G 3) tn) tn (tS (tc (G 3) tn) tn (i)) (f7))) 8 (nI (tE (tc (G 3) tn) tn (i))), hs, mv, G))) := by
  refine RMi_of (lv := [(0, .ref (K 0)), (1, .int (nI b0))]) (cc := cX7_isSignNow) (maxL := 2) (ret := (some .boolean)) rfl rfl (by decide +kernel) (Nat.le_of_ble_eq_true rfl) rfl ?_
  intro p e s m args below meth c X hml hr hlk
  generalize hQ : MQ below _ args s 0 0 _ = Q
  refine zz_world (P' := (RP D C K (upd (upd (upd (upd F 5 (nI (rk (tK (tc (G 3) tn) tn (i))))) 6 (nI (tS (tc (G 3) tn) tn (i)))) 7 (r7 (tc (G 3) tn) tn (tS (tc (G 3) tn) tn (i)) (f7))) 8 (nI (tE (tc (G 3) tn) tn (i)))) hs mv G)) (rp_F (upd4_self h5 h6 h7 h8)) ?_
  have hrk := rk_is (tK (tc (G 3) tn) tn (i))
  have hkb : tK (tc (G 3) tn) tn (i) ≤ 126 := kd_le.1
  refine zz_aload_n 0 X.1 0 dX7_isSignNow_0 rfl ?_
  refine rr_get 1 X 5 (by decide) (v := .int (nI (rk (tK (tc (G 3) tn) tn (i))))) rfl (by decide +kernel) rfl dX7_isSignNow_1 ?_
  refine zz_iconst 4 X.1 (v := nI 3) dX7_isSignNow_4 rfl ?_
  refine zz_icmp_ne 5 20 X.1 (nI_toInt (by omega)) (nI_toInt (by omega)) dX7_isSignNow_5 (by decide) (fun h5 => ?_) (fun h5 => ?_)
  · skip
    refine zz_iconst 20 X.1 (v := nI 0) dX7_isSignNow_20 rfl ?_
    refine zz_topi (bI false) rfl ?_
    rw [← hQ]
    refine zz_iret 21 X.1 hr (bI_nar _) hlk (upd (upd (upd (upd F 5 (nI (rk (tK (tc (G 3) tn) tn (i))))) 6 (nI (tS (tc (G 3) tn) tn (i)))) 7 (r7 (tc (G 3) tn) tn (tS (tc (G 3) tn) tn (i)) (f7))) 8 (nI (tE (tc (G 3) tn) tn (i))), hs, mv, G) ?_ (fun _ h _ => h) dX7_isSignNow_21
    refine ⟨fun hc => ?_, fun hc => ?_⟩ <;> first | (exfalso; omega) | (exact ⟨rfl, rfl⟩)
  · skip
    refine zz_aload_n 8 X.1 0 dX7_isSignNow_8 rfl ?_
    refine rr_get 9 X 7 (by decide) (v := .int (r7 (tc (G 3) tn) tn (tS (tc (G 3) tn) tn (i)) (f7))) rfl (by decide +kernel) rfl dX7_isSignNow_9 ?_
    refine zz_topi (nI (tK (tc (G 3) tn) tn (i))) (r7_s (show 5 ≤ kd (tc (G 3) tn) tn (tS (tc (G 3) tn) tn i) by have := hrk; unfold tK at this h5; omega)) ?_
    refine zz_iload_n 12 X.1 1 dX7_isSignNow_12 rfl ?_
    refine zz_icmp_ne 13 20 X.1 (nI_toInt (by omega)) (nI_toInt (by omega)) dX7_isSignNow_13 (by decide) (fun h13 => ?_) (fun h13 => ?_)
    · skip
      refine zz_iconst 20 X.1 (v := nI 0) dX7_isSignNow_20 rfl ?_
      refine zz_topi (bI false) rfl ?_
      rw [← hQ]
      refine zz_iret 21 X.1 hr (bI_nar _) hlk (upd (upd (upd (upd F 5 (nI (rk (tK (tc (G 3) tn) tn (i))))) 6 (nI (tS (tc (G 3) tn) tn (i)))) 7 (r7 (tc (G 3) tn) tn (tS (tc (G 3) tn) tn (i)) (f7))) 8 (nI (tE (tc (G 3) tn) tn (i))), hs, mv, G) ?_ (fun _ h _ => h) dX7_isSignNow_21
      refine ⟨fun hc => ?_, fun hc => ?_⟩ <;> first | (exfalso; omega) | (exact ⟨rfl, rfl⟩)
    · skip
      refine zz_iconst 16 X.1 (v := nI 1) dX7_isSignNow_16 rfl ?_
      refine zz_goto 17 21 X.1 dX7_isSignNow_17 (by decide) ?_
      refine zz_topi (bI true) rfl ?_
      rw [← hQ]
      refine zz_iret 21 X.1 hr (bI_nar _) hlk (upd (upd (upd (upd F 5 (nI (rk (tK (tc (G 3) tn) tn (i))))) 6 (nI (tS (tc (G 3) tn) tn (i)))) 7 (r7 (tc (G 3) tn) tn (tS (tc (G 3) tn) tn (i)) (f7))) 8 (nI (tE (tc (G 3) tn) tn (i))), hs, mv, G) ?_ (fun _ h _ => h) dX7_isSignNow_21
      refine ⟨fun hc => ?_, fun hc => ?_⟩ <;> first | (exfalso; omega) | (exact ⟨rfl, rfl⟩)

abbrev rm_X7_takes : Room := { frames := 4, cells := 0, slots := 0, locals := 84 }
theorem yd_X7_takes : yX7_takes.cls = RX7 ∧ yX7_takes.cls ≠ "java/lang/invoke/MethodHandle" ∧ yX7_takes.cls ≠ "java/lang/invoke/VarHandle" ∧ (parseMethodDescriptor yX7_takes.desc).map (fun d => d.parameters.length) = some 1 := by decide +kernel
set_option maxHeartbeats 4000000 in
set_option maxRecDepth 100000 in
theorem kt_X7_takes (l : Launch) (D : va_G) (C : Nat → ClassId) (K : Nat → Nat) (hAp : RAp K) (F : Nat → Int32) (hs mv : Nat → Bool) (G : Nat → Nat → Int32) (i : Nat) (f7 : Int32) (tn : Nat) (kk : Nat) (hT : F 4 = nI tn) (htn : tn ≤ 400) (hB : HB (G 3) tn) (h5 : F 5 = nI (rk (tK (tc (G 3) tn) tn i))) (h6 : F 6 = nI (tS (tc (G 3) tn) tn i)) (h7 : F 7 = r7 (tc (G 3) tn) tn (tS (tc (G 3) tn) tn i) f7) (h8 : F 8 = nI (tE (tc (G 3) tn) tn i)) (hkk : kk < 2 ^ 31) : RMi l yX7_takes wsX7_takes rm_X7_takes D C K [.int (nI kk)] F hs mv G (fun (r : Int32) (u : MSt) => (rk (tK (tc (G 3) tn) tn (i)) = kk → r = (bI true) ∧ u = (upd (upd (upd (upd F 5 (nI (rk (tK (tc (G 3) tn) tn (i + 1))))) 6 (nI (tS (tc (G 3) tn) tn (i + 1)))) 7 (r7 (tc (G 3) tn) tn (tS (tc (G 3) tn) tn (i + 1)) (r7 (tc (G 3) tn) tn (tS (tc (G 3) tn) tn i) f7))) 8 (nI (tE (tc (G 3) tn) tn (i + 1))), hs, mv, G)) ∧ (rk (tK (tc (G 3) tn) tn (i)) ≠ kk → r = (bI false) ∧ u = (upd (upd (upd (upd F 5 (nI (rk (tK (tc (G 3) tn) tn (i))))) 6 (nI (tS (tc (G 3) tn) tn (i)))) 7 (r7 (tc (G 3) tn) tn (tS (tc (G 3) tn) tn (i)) (f7))) 8 (nI (tE (tc (G 3) tn) tn (i))), hs, mv, G))) := by
  refine RMi_of (lv := [(0, .ref (K 0)), (1, .int (nI kk))]) (cc := cX7_takes) (maxL := 2) (ret := (some .boolean)) rfl rfl (by decide +kernel) (Nat.le_of_ble_eq_true rfl) rfl ?_
  intro p e s m args below meth c X hml hr hlk
  generalize hQ : MQ below _ args s 0 0 _ = Q
  refine zz_world (P' := (RP D C K (upd (upd (upd (upd F 5 (nI (rk (tK (tc (G 3) tn) tn (i))))) 6 (nI (tS (tc (G 3) tn) tn (i)))) 7 (r7 (tc (G 3) tn) tn (tS (tc (G 3) tn) tn (i)) (f7))) 8 (nI (tE (tc (G 3) tn) tn (i)))) hs mv G)) (rp_F (upd4_self h5 h6 h7 h8)) ?_
  have hrk := rk_is (tK (tc (G 3) tn) tn (i))
  have hkb : tK (tc (G 3) tn) tn (i) ≤ 126 := kd_le.1
  refine zz_aload_n 0 X.1 0 dX7_takes_0 rfl ?_
  refine rr_get 1 X 5 (by decide) (v := .int (nI (rk (tK (tc (G 3) tn) tn (i))))) rfl (by decide +kernel) rfl dX7_takes_1 ?_
  refine zz_iload_n 4 X.1 1 dX7_takes_4 rfl ?_
  refine zz_icmp_eq 5 10 X.1 (nI_toInt (by omega)) (nI_toInt (by omega)) dX7_takes_5 (by decide) (fun h5 => ?_) (fun h5 => ?_)
  · skip
    refine zz_aload_n 10 X.1 0 dX7_takes_10 rfl ?_
    refine rr_callVv 11 X hml (As := []) (kt_X7_reads l D C K hAp (upd (upd (upd (upd F 5 (nI (rk (tK (tc (G 3) tn) tn (i))))) 6 (nI (tS (tc (G 3) tn) tn (i)))) 7 (r7 (tc (G 3) tn) tn (tS (tc (G 3) tn) tn (i)) (f7))) 8 (nI (tE (tc (G 3) tn) tn (i)))) hs mv G i tn (hT) (by first | rfl | assumption | omega) (by first | rfl | assumption | omega) (by first | rfl | assumption | omega)) gX7_takes_X7_reads rfl ⟨rfl, rfl⟩ yd_X7_reads ⟨Nat.le_of_ble_eq_true rfl, Nat.le_of_ble_eq_true rfl⟩ rfl rfl (Nat.le_of_ble_eq_true rfl) dX7_takes_11 ?_
    rintro ⟨F1, hs1, mv1, G1⟩ hu1
    cases hu1
    refine zz_world (P' := (RP D C K (upd (upd (upd (upd F 5 (nI (rk (tK (tc (G 3) tn) tn (i + 1))))) 6 (nI (tS (tc (G 3) tn) tn (i + 1)))) 7 (r7 (tc (G 3) tn) tn (tS (tc (G 3) tn) tn (i + 1)) (r7 (tc (G 3) tn) tn (tS (tc (G 3) tn) tn (i)) (f7)))) 8 (nI (tE (tc (G 3) tn) tn (i + 1)))) hs mv G)) (fun _ h => h) ?_
    refine zz_iconst 14 X.1 (v := nI 1) dX7_takes_14 rfl ?_
    refine zz_topi (bI true) rfl ?_
    rw [← hQ]
    refine zz_iret 15 X.1 hr (bI_nar _) hlk (upd (upd (upd (upd F 5 (nI (rk (tK (tc (G 3) tn) tn (i + 1))))) 6 (nI (tS (tc (G 3) tn) tn (i + 1)))) 7 (r7 (tc (G 3) tn) tn (tS (tc (G 3) tn) tn (i + 1)) (r7 (tc (G 3) tn) tn (tS (tc (G 3) tn) tn (i)) (f7)))) 8 (nI (tE (tc (G 3) tn) tn (i + 1))), hs, mv, G) ?_ (fun _ h _ => h) dX7_takes_15
    refine ⟨fun hc => ?_, fun hc => ?_⟩ <;> first | (exfalso; omega) | (exact ⟨rfl, rfl⟩)
  · skip
    refine zz_iconst 8 X.1 (v := nI 0) dX7_takes_8 rfl ?_
    refine zz_topi (bI false) rfl ?_
    rw [← hQ]
    refine zz_iret 9 X.1 hr (bI_nar _) hlk (upd (upd (upd (upd F 5 (nI (rk (tK (tc (G 3) tn) tn (i))))) 6 (nI (tS (tc (G 3) tn) tn (i)))) 7 (r7 (tc (G 3) tn) tn (tS (tc (G 3) tn) tn (i)) (f7))) 8 (nI (tE (tc (G 3) tn) tn (i))), hs, mv, G) ?_ (fun _ h _ => h) dX7_takes_9
    refine ⟨fun hc => ?_, fun hc => ?_⟩ <;> first | (exfalso; omega) | (exact ⟨rfl, rfl⟩)

abbrev rm_X7_takesSign : Room := { frames := 5, cells := 0, slots := 0, locals := 105 }
theorem yd_X7_takesSign : yX7_takesSign.cls = RX7 ∧ yX7_takesSign.cls ≠ "java/lang/invoke/MethodHandle" ∧ yX7_takesSign.cls ≠ "java/lang/invoke/VarHandle" ∧ (parseMethodDescriptor yX7_takesSign.desc).map (fun d => d.parameters.length) = some 1 := by decide +kernel
set_option maxHeartbeats 4000000 in
set_option maxRecDepth 100000 in
theorem kt_X7_takesSign (l : Launch) (D : va_G) (C : Nat → ClassId) (K : Nat → Nat) (hAp : RAp K) (F : Nat → Int32) (hs mv : Nat → Bool) (G : Nat → Nat → Int32) (i : Nat) (f7 : Int32) (tn : Nat) (b0 : Nat) (hT : F 4 = nI tn) (htn : tn ≤ 400) (hB : HB (G 3) tn) (h5 : F 5 = nI (rk (tK (tc (G 3) tn) tn i))) (h6 : F 6 = nI (tS (tc (G 3) tn) tn i)) (h7 : F 7 = r7 (tc (G 3) tn) tn (tS (tc (G 3) tn) tn i) f7) (h8 : F 8 = nI (tE (tc (G 3) tn) tn i)) (hb0 : 5 ≤ b0 ∧ b0 < 200) : RMi l yX7_takesSign wsX7_takesSign rm_X7_takesSign D C K [.int (nI b0)] F hs mv G (fun (r : Int32) (u : MSt) => (tK (tc (G 3) tn) tn (i) = b0 → r = (bI true) ∧ u = (upd (upd (upd (upd F 5 (nI (rk (tK (tc (G 3) tn) tn (i + 1))))) 6 (nI (tS (tc (G 3) tn) tn (i + 1)))) 7 (r7 (tc (G 3) tn) tn (tS (tc (G 3) tn) tn (i + 1)) (r7 (tc (G 3) tn) tn (tS (tc (G 3) tn) tn i) f7))) 8 (nI (tE (tc (G 3) tn) tn (i + 1))), hs, mv, G)) ∧ (tK (tc (G 3) tn) tn (i) ≠ b0 → r = (bI false) ∧ u = (upd (upd (upd (upd F 5 (nI (rk (tK (tc (G 3) tn) tn (i))))) 6 (nI (tS (tc (G 3) tn) tn (i)))) 7 (r7 (tc (G 3) tn) tn (tS (tc (G 3) tn) tn (i)) (f7))) 8 (nI (tE (tc (G 3) tn) tn (i))), hs, mv, G))) := by
  refine RMi_of (lv := [(0, .ref (K 0)), (1, .int (nI b0))]) (cc := cX7_takesSign) (maxL := 2) (ret := (some .boolean)) rfl rfl (by decide +kernel) (Nat.le_of_ble_eq_true rfl) rfl ?_
  intro p e s m args below meth c X hml hr hlk
  generalize hQ : MQ below _ args s 0 0 _ = Q
  refine zz_world (P' := (RP D C K (upd (upd (upd (upd F 5 (nI (rk (tK (tc (G 3) tn) tn (i))))) 6 (nI (tS (tc (G 3) tn) tn (i)))) 7 (r7 (tc (G 3) tn) tn (tS (tc (G 3) tn) tn (i)) (f7))) 8 (nI (tE (tc (G 3) tn) tn (i)))) hs mv G)) (rp_F (upd4_self h5 h6 h7 h8)) ?_
  have hrk := rk_is (tK (tc (G 3) tn) tn (i))
  have hkb : tK (tc (G 3) tn) tn (i) ≤ 126 := kd_le.1
  refine zz_aload_n 0 X.1 0 dX7_takesSign_0 rfl ?_
  refine zz_iload_n 1 X.1 1 dX7_takesSign_1 rfl ?_
  refine rr_callVi 2 X hml (As := [.int (nI b0)]) (kt_X7_isSignNow l D C K hAp (upd (upd (upd (upd F 5 (nI (rk (tK (tc (G 3) tn) tn (i))))) 6 (nI (tS (tc (G 3) tn) tn (i)))) 7 (r7 (tc (G 3) tn) tn (tS (tc (G 3) tn) tn (i)) (f7))) 8 (nI (tE (tc (G 3) tn) tn (i)))) hs mv G i f7 tn b0 (hT) (by first | rfl | assumption | omega) (by first | rfl | assumption | omega) (by first | rfl | assumption | omega) (by first | rfl | assumption | omega) (by first | rfl | assumption | omega) (by first | rfl | assumption | omega) (by first | rfl | assumption | omega)) gX7_takesSign_X7_isSignNow rfl ⟨rfl, rfl⟩ yd_X7_isSignNow ⟨Nat.le_of_ble_eq_true rfl, Nat.le_of_ble_eq_true rfl⟩ rfl rfl (Nat.le_of_ble_eq_true rfl) dX7_takesSign_2 ?_
  rintro r1 ⟨F1, hs1, mv1, G1⟩ hu1
  rcases (show (tK (tc (G 3) tn) tn (i) = b0) ∨ (tK (tc (G 3) tn) tn (i) ≠ b0) by omega) with hc1 | hc1
  · skip
    obtain ⟨rfl, hv1⟩ := (hu1.1 hc1)
    cases hv1
    refine zz_world (P' := (RP D C K (upd (upd (upd (upd F 5 (nI (rk (tK (tc (G 3) tn) tn (i))))) 6 (nI (tS (tc (G 3) tn) tn (i)))) 7 (r7 (tc (G 3) tn) tn (tS (tc (G 3) tn) tn (i)) (f7))) 8 (nI (tE (tc (G 3) tn) tn (i)))) hs mv G)) (fun _ h => h) ?_
    refine zz_ifB_eq 5 20 X.1 dX7_takesSign_5 (by decide) (fun h5 => ?_) (fun h5 => ?_)
    · exact absurd h5 (by decide)
    · skip
      refine zz_aload_n 8 X.1 0 dX7_takesSign_8 rfl ?_
      refine zz_iconst 9 X.1 (v := nI 3) dX7_takesSign_9 rfl ?_
      refine rr_callVi 10 X hml (As := [.int (nI 3)]) (kt_X7_takes l D C K hAp (upd (upd (upd (upd F 5 (nI (rk (tK (tc (G 3) tn) tn (i))))) 6 (nI (tS (tc (G 3) tn) tn (i)))) 7 (r7 (tc (G 3) tn) tn (tS (tc (G 3) tn) tn (i)) (f7))) 8 (nI (tE (tc (G 3) tn) tn (i)))) hs mv G i f7 tn 3 (hT) (by first | rfl | assumption | omega) (by first | rfl | assumption | omega) (by first | rfl | assumption | omega) (by first | rfl | assumption | omega) (by first | rfl | assumption | omega) (by first | rfl | assumption | omega) (by first | rfl | assumption | omega)) gX7_takesSign_X7_takes rfl ⟨rfl, rfl⟩ yd_X7_takes ⟨Nat.le_of_ble_eq_true rfl, Nat.le_of_ble_eq_true rfl⟩ rfl rfl (Nat.le_of_ble_eq_true rfl) dX7_takesSign_10 ?_
      rintro r2 ⟨F2, hs2, mv2, G2⟩ hu2
      rcases (show (rk (tK (tc (G 3) tn) tn (i)) = 3) ∨ (rk (tK (tc (G 3) tn) tn (i)) ≠ 3) by omega) with hc2 | hc2
      · skip
        obtain ⟨rfl, hv2⟩ := (hu2.1 hc2)
        cases hv2
        refine zz_world (P' := (RP D C K (upd (upd (upd (upd F 5 (nI (rk (tK (tc (G 3) tn) tn (i + 1))))) 6 (nI (tS (tc (G 3) tn) tn (i + 1)))) 7 (r7 (tc (G 3) tn) tn (tS (tc (G 3) tn) tn (i + 1)) (r7 (tc (G 3) tn) tn (tS (tc (G 3) tn) tn i) f7))) 8 (nI (tE (tc (G 3) tn) tn (i + 1)))) hs mv G)) (fun _ h => h) ?_
        refine zz_ifB_eq 13 20 X.1 dX7_takesSign_13 (by decide) (fun h13 => ?_) (fun h13 => ?_)
        · exact absurd h13 (by decide)
        · skip
          refine zz_iconst 16 X.1 (v := nI 1) dX7_takesSign_16 rfl ?_
          refine zz_goto 17 21 X.1 dX7_takesSign_17 (by decide) ?_
          refine zz_topi (bI true) rfl ?_
          rw [← hQ]
          refine zz_iret 21 X.1 hr (bI_nar _) hlk (upd (upd (upd (upd F 5 (nI (rk (tK (tc (G 3) tn) tn (i + 1))))) 6 (nI (tS (tc (G 3) tn) tn (i + 1)))) 7 (r7 (tc (G 3) tn) tn (tS (tc (G 3) tn) tn (i + 1)) (r7 (tc (G 3) tn) tn (tS (tc (G 3) tn) tn i) f7))) 8 (nI (tE (tc (G 3) tn) tn (i + 1))), hs, mv, G) ?_ (fun _ h _ => h) dX7_takesSign_21
          refine ⟨fun hc => ?_, fun hc => ?_⟩ <;> first | (exfalso; omega) | (exact ⟨rfl, rfl⟩)
      · exfalso; omega
  · skip
    obtain ⟨rfl, hv1⟩ := (hu1.2 hc1)
    cases hv1
    refine zz_world (P' := (RP D C K (upd (upd (upd (upd F 5 (nI (rk (tK (tc (G 3) tn) tn (i))))) 6 (nI (tS (tc (G 3) tn) tn (i)))) 7 (r7 (tc (G 3) tn) tn (tS (tc (G 3) tn) tn (i)) (f7))) 8 (nI (tE (tc (G 3) tn) tn (i)))) hs mv G)) (fun _ h => h) ?_
    refine zz_ifB_eq 5 20 X.1 dX7_takesSign_5 (by decide) (fun h5 => ?_) (fun h5 => ?_)
    · skip
      refine zz_iconst 20 X.1 (v := nI 0) dX7_takesSign_20 rfl ?_
      refine zz_topi (bI false) rfl ?_
      rw [← hQ]
      refine zz_iret 21 X.1 hr (bI_nar _) hlk (upd (upd (upd (upd F 5 (nI (rk (tK (tc (G 3) tn) tn (i))))) 6 (nI (tS (tc (G 3) tn) tn (i)))) 7 (r7 (tc (G 3) tn) tn (tS (tc (G 3) tn) tn (i)) (f7))) 8 (nI (tE (tc (G 3) tn) tn (i))), hs, mv, G) ?_ (fun _ h _ => h) dX7_takesSign_21
      refine ⟨fun hc => ?_, fun hc => ?_⟩ <;> first | (exfalso; omega) | (exact ⟨rfl, rfl⟩)
    · exact absurd h5 (by decide)

abbrev rm_X7_readsSet : Room := { frames := 5, cells := 0, slots := 0, locals := 105 }
theorem yd_X7_readsSet : yX7_readsSet.cls = RX7 ∧ yX7_readsSet.cls ≠ "java/lang/invoke/MethodHandle" ∧ yX7_readsSet.cls ≠ "java/lang/invoke/VarHandle" ∧ (parseMethodDescriptor yX7_readsSet.desc).map (fun d => d.parameters.length) = some 0 := by decide +kernel
set_option maxHeartbeats 4000000 in
set_option maxRecDepth 100000 in
theorem kt_X7_readsSet (l : Launch) (D : va_G) (C : Nat → ClassId) (K : Nat → Nat) (hAp : RAp K) (F : Nat → Int32) (hs mv : Nat → Bool) (G : Nat → Nat → Int32) (i : Nat) (f7 : Int32) (tn : Nat) (m0 : Nat) (hT : F 4 = nI tn) (htn : tn ≤ 400) (hB : HB (G 3) tn) (h5 : F 5 = nI (rk (tK (tc (G 3) tn) tn i))) (h6 : F 6 = nI (tS (tc (G 3) tn) tn i)) (h7 : F 7 = r7 (tc (G 3) tn) tn (tS (tc (G 3) tn) tn i) f7) (h8 : F 8 = nI (tE (tc (G 3) tn) tn i)) (h14 : F 14 = nI m0) (hm0 : m0 < 100) : RMi l yX7_readsSet wsX7_readsSet rm_X7_readsSet D C K [] F hs mv G (fun (r : Int32) (u : MSt) => (tK (tc (G 3) tn) tn (i) = 2 → r = (bI true) ∧ u = (upd (upd (upd (upd F 5 (nI (rk (tK (tc (G 3) tn) tn (i + 1))))) 6 (nI (tS (tc (G 3) tn) tn (i + 1)))) 7 (r7 (tc (G 3) tn) tn (tS (tc (G 3) tn) tn (i + 1)) (r7 (tc (G 3) tn) tn (tS (tc (G 3) tn) tn i) f7))) 8 (nI (tE (tc (G 3) tn) tn (i + 1))), hs, mv, va_up G 11 (upd (G 11) m0 (r7 (tc (G 3) tn) tn (tS (tc (G 3) tn) tn i) f7)))) ∧ (tK (tc (G 3) tn) tn (i) ≠ 2 → r = (bI false) ∧ u = (upd (upd (upd (upd F 5 (nI (rk (tK (tc (G 3) tn) tn (i))))) 6 (nI (tS (tc (G 3) tn) tn (i)))) 7 (r7 (tc (G 3) tn) tn (tS (tc (G 3) tn) tn (i)) (f7))) 8 (nI (tE (tc (G 3) tn) tn (i))), hs, mv, va_up G 11 (upd (G 11) m0 (r7 (tc (G 3) tn) tn (tS (tc (G 3) tn) tn i) f7))))) := by
  refine RMi_of (lv := [(0, .ref (K 0))]) (cc := cX7_readsSet) (maxL := 1) (ret := (some .boolean)) rfl rfl (by decide +kernel) (Nat.le_of_ble_eq_true rfl) rfl ?_
  intro p e s m args below meth c X hml hr hlk
  generalize hQ : MQ below _ args s 0 0 _ = Q
  refine zz_world (P' := (RP D C K (upd (upd (upd (upd F 5 (nI (rk (tK (tc (G 3) tn) tn (i))))) 6 (nI (tS (tc (G 3) tn) tn (i)))) 7 (r7 (tc (G 3) tn) tn (tS (tc (G 3) tn) tn (i)) (f7))) 8 (nI (tE (tc (G 3) tn) tn (i)))) hs mv G)) (rp_F (upd4_self h5 h6 h7 h8)) ?_
  have hrk := rk_is (tK (tc (G 3) tn) tn (i))
  have hkb : tK (tc (G 3) tn) tn (i) ≤ 126 := kd_le.1
  refine zz_aload_n 0 X.1 0 dX7_readsSet_0 rfl ?_
  refine rr_get 1 X 11 (by decide) (v := .ref (K 11)) rfl (by decide +kernel) rfl dX7_readsSet_1 ?_
  refine zz_aload_n 4 X.1 0 dX7_readsSet_4 rfl ?_
  refine rr_get 5 X 14 (by decide) (v := .int (F 14)) rfl (by decide +kernel) rfl dX7_readsSet_5 ?_
  refine zz_topi (nI m0) (h14) ?_
  refine zz_aload_n 8 X.1 0 dX7_readsSet_8 rfl ?_
  refine rr_get 9 X 7 (by decide) (v := .int (r7 (tc (G 3) tn) tn (tS (tc (G 3) tn) tn (i)) (f7))) rfl (by decide +kernel) rfl dX7_readsSet_9 ?_
  refine rr_iast 12 hAp X 5 11 (f := G 11) (G' := va_up G 11 (upd (G 11) m0 (r7 (tc (G 3) tn) tn (tS (tc (G 3) tn) tn (i)) (f7)))) rfl rfl (by omega) (by decide) dX7_readsSet_12 ?_
  refine zz_aload_n 13 X.1 0 dX7_readsSet_13 rfl ?_
  refine zz_iconst 14 X.1 (v := nI 1) dX7_readsSet_14 rfl ?_
  refine rr_callVi 15 X hml (As := [.int (nI 1)]) (kt_X7_takes l D C K hAp (upd (upd (upd (upd F 5 (nI (rk (tK (tc (G 3) tn) tn (i))))) 6 (nI (tS (tc (G 3) tn) tn (i)))) 7 (r7 (tc (G 3) tn) tn (tS (tc (G 3) tn) tn (i)) (f7))) 8 (nI (tE (tc (G 3) tn) tn (i)))) hs mv (va_up G 11 (upd (G 11) m0 (r7 (tc (G 3) tn) tn (tS (tc (G 3) tn) tn (i)) (f7)))) i f7 tn 1 (hT) (by first | rfl | assumption | omega) (by first | rfl | assumption | omega) (by first | rfl | assumption | omega) (by first | rfl | assumption | omega) (by first | rfl | assumption | omega) (by first | rfl | assumption | omega) (by first | rfl | assumption | omega)) gX7_readsSet_X7_takes rfl ⟨rfl, rfl⟩ yd_X7_takes ⟨Nat.le_of_ble_eq_true rfl, Nat.le_of_ble_eq_true rfl⟩ rfl rfl (Nat.le_of_ble_eq_true rfl) dX7_readsSet_15 ?_
  rintro r1 ⟨F1, hs1, mv1, G1⟩ hu1
  rcases (show (rk (tK (tc (G 3) tn) tn (i)) = 1) ∨ (rk (tK (tc (G 3) tn) tn (i)) ≠ 1) by omega) with hc1 | hc1
  · skip
    obtain ⟨rfl, hv1⟩ := (hu1.1 hc1)
    cases hv1
    refine zz_world (P' := (RP D C K (upd (upd (upd (upd F 5 (nI (rk (tK (tc (G 3) tn) tn (i + 1))))) 6 (nI (tS (tc (G 3) tn) tn (i + 1)))) 7 (r7 (tc (G 3) tn) tn (tS (tc (G 3) tn) tn (i + 1)) (r7 (tc (G 3) tn) tn (tS (tc (G 3) tn) tn i) f7))) 8 (nI (tE (tc (G 3) tn) tn (i + 1)))) hs mv (va_up G 11 (upd (G 11) m0 (r7 (tc (G 3) tn) tn (tS (tc (G 3) tn) tn (i)) (f7)))))) (fun _ h => h) ?_
    rw [← hQ]
    refine zz_iret 18 X.1 hr (bI_nar _) hlk (upd (upd (upd (upd F 5 (nI (rk (tK (tc (G 3) tn) tn (i + 1))))) 6 (nI (tS (tc (G 3) tn) tn (i + 1)))) 7 (r7 (tc (G 3) tn) tn (tS (tc (G 3) tn) tn (i + 1)) (r7 (tc (G 3) tn) tn (tS (tc (G 3) tn) tn i) f7))) 8 (nI (tE (tc (G 3) tn) tn (i + 1))), hs, mv, va_up G 11 (upd (G 11) m0 (r7 (tc (G 3) tn) tn (tS (tc (G 3) tn) tn (i)) (f7)))) ?_ (fun _ h _ => h) dX7_readsSet_18
    refine ⟨fun hc => ?_, fun hc => ?_⟩ <;> first | (exfalso; omega) | (exact ⟨rfl, rfl⟩)
  · skip
    obtain ⟨rfl, hv1⟩ := (hu1.2 hc1)
    cases hv1
    refine zz_world (P' := (RP D C K (upd (upd (upd (upd F 5 (nI (rk (tK (tc (G 3) tn) tn (i))))) 6 (nI (tS (tc (G 3) tn) tn (i)))) 7 (r7 (tc (G 3) tn) tn (tS (tc (G 3) tn) tn (i)) (f7))) 8 (nI (tE (tc (G 3) tn) tn (i)))) hs mv (va_up G 11 (upd (G 11) m0 (r7 (tc (G 3) tn) tn (tS (tc (G 3) tn) tn (i)) (f7)))))) (fun _ h => h) ?_
    rw [← hQ]
    refine zz_iret 18 X.1 hr (bI_nar _) hlk (upd (upd (upd (upd F 5 (nI (rk (tK (tc (G 3) tn) tn (i))))) 6 (nI (tS (tc (G 3) tn) tn (i)))) 7 (r7 (tc (G 3) tn) tn (tS (tc (G 3) tn) tn (i)) (f7))) 8 (nI (tE (tc (G 3) tn) tn (i))), hs, mv, va_up G 11 (upd (G 11) m0 (r7 (tc (G 3) tn) tn (tS (tc (G 3) tn) tn (i)) (f7)))) ?_ (fun _ h _ => h) dX7_readsSet_18
    refine ⟨fun hc => ?_, fun hc => ?_⟩ <;> first | (exfalso; omega) | (exact ⟨rfl, rfl⟩)

abbrev rm_X7_lists : Room := { frames := 5, cells := 0, slots := 0, locals := 105 }
theorem yd_X7_lists : yX7_lists.cls = RX7 ∧ yX7_lists.cls ≠ "java/lang/invoke/MethodHandle" ∧ yX7_lists.cls ≠ "java/lang/invoke/VarHandle" ∧ (parseMethodDescriptor yX7_lists.desc).map (fun d => d.parameters.length) = some 0 := by decide +kernel
set_option maxHeartbeats 4000000 in
set_option maxRecDepth 100000 in
theorem kt_X7_lists (l : Launch) (D : va_G) (C : Nat → ClassId) (K : Nat → Nat) (hAp : RAp K) (F : Nat → Int32) (hs mv : Nat → Bool) (G : Nat → Nat → Int32) (i : Nat) (f7 : Int32) (tn : Nat) (c0 : Nat) (hT : F 4 = nI tn) (htn : tn ≤ 400) (hB : HB (G 3) tn) (h5 : F 5 = nI (rk (tK (tc (G 3) tn) tn i))) (h6 : F 6 = nI (tS (tc (G 3) tn) tn i)) (h7 : F 7 = r7 (tc (G 3) tn) tn (tS (tc (G 3) tn) tn i) f7) (h8 : F 8 = nI (tE (tc (G 3) tn) tn i)) (h15 : F 15 = nI c0) (hc0 : c0 < 200) : RMi l yX7_lists wsX7_lists rm_X7_lists D C K [] F hs mv G (fun (r : Int32) (u : MSt) => (tK (tc (G 3) tn) tn (i) = 3 → r = (bI true) ∧ u = (upd (upd (upd (upd (upd F 5 (nI (rk (tK (tc (G 3) tn) tn (i + 1))))) 6 (nI (tS (tc (G 3) tn) tn (i + 1)))) 7 (r7 (tc (G 3) tn) tn (tS (tc (G 3) tn) tn (i + 1)) (r7 (tc (G 3) tn) tn (tS (tc (G 3) tn) tn i) f7))) 8 (nI (tE (tc (G 3) tn) tn (i + 1)))) 15 (nI (c0 + 1)), hs, mv, va_up G 13 (upd (G 13) c0 (r7 (tc (G 3) tn) tn (tS (tc (G 3) tn) tn i) f7)))) ∧ (tK (tc (G 3) tn) tn (i) ≠ 3 → r = (bI false) ∧ u = (upd (upd (upd (upd F 5 (nI (rk (tK (tc (G 3) tn) tn (i))))) 6 (nI (tS (tc (G 3) tn) tn (i)))) 7 (r7 (tc (G 3) tn) tn (tS (tc (G 3) tn) tn (i)) (f7))) 8 (nI (tE (tc (G 3) tn) tn (i))), hs, mv, va_up G 13 (upd (G 13) c0 (r7 (tc (G 3) tn) tn (tS (tc (G 3) tn) tn i) f7))))) := by
  refine RMi_of (lv := [(0, .ref (K 0))]) (cc := cX7_lists) (maxL := 1) (ret := (some .boolean)) rfl rfl (by decide +kernel) (Nat.le_of_ble_eq_true rfl) rfl ?_
  intro p e s m args below meth c X hml hr hlk
  generalize hQ : MQ below _ args s 0 0 _ = Q
  refine zz_world (P' := (RP D C K (upd (upd (upd (upd F 5 (nI (rk (tK (tc (G 3) tn) tn (i))))) 6 (nI (tS (tc (G 3) tn) tn (i)))) 7 (r7 (tc (G 3) tn) tn (tS (tc (G 3) tn) tn (i)) (f7))) 8 (nI (tE (tc (G 3) tn) tn (i)))) hs mv G)) (rp_F (upd4_self h5 h6 h7 h8)) ?_
  have hrk := rk_is (tK (tc (G 3) tn) tn (i))
  have hkb : tK (tc (G 3) tn) tn (i) ≤ 126 := kd_le.1
  refine zz_aload_n 0 X.1 0 dX7_lists_0 rfl ?_
  refine rr_get 1 X 13 (by decide) (v := .ref (K 13)) rfl (by decide +kernel) rfl dX7_lists_1 ?_
  refine zz_aload_n 4 X.1 0 dX7_lists_4 rfl ?_
  refine rr_get 5 X 15 (by decide) (v := .int (F 15)) rfl (by decide +kernel) rfl dX7_lists_5 ?_
  refine zz_topi (nI c0) (h15) ?_
  refine zz_aload_n 8 X.1 0 dX7_lists_8 rfl ?_
  refine rr_get 9 X 7 (by decide) (v := .int (r7 (tc (G 3) tn) tn (tS (tc (G 3) tn) tn (i)) (f7))) rfl (by decide +kernel) rfl dX7_lists_9 ?_
  refine rr_iast 12 hAp X 7 13 (f := G 13) (G' := va_up G 13 (upd (G 13) c0 (r7 (tc (G 3) tn) tn (tS (tc (G 3) tn) tn (i)) (f7)))) rfl rfl (by omega) (by decide) dX7_lists_12 ?_
  refine zz_aload_n 13 X.1 0 dX7_lists_13 rfl ?_
  refine zz_iconst 14 X.1 (v := nI 2) dX7_lists_14 rfl ?_
  refine rr_callVi 15 X hml (As := [.int (nI 2)]) (kt_X7_takes l D C K hAp (upd (upd (upd (upd F 5 (nI (rk (tK (tc (G 3) tn) tn (i))))) 6 (nI (tS (tc (G 3) tn) tn (i)))) 7 (r7 (tc (G 3) tn) tn (tS (tc (G 3) tn) tn (i)) (f7))) 8 (nI (tE (tc (G 3) tn) tn (i)))) hs mv (va_up G 13 (upd (G 13) c0 (r7 (tc (G 3) tn) tn (tS (tc (G 3) tn) tn (i)) (f7)))) i f7 tn 2 (hT) (by first | rfl | assumption | omega) (by first | rfl | assumption | omega) (by first | rfl | assumption | omega) (by first | rfl | assumption | omega) (by first | rfl | assumption | omega) (by first | rfl | assumption | omega) (by first | rfl | assumption | omega)) gX7_lists_X7_takes rfl ⟨rfl, rfl⟩ yd_X7_takes ⟨Nat.le_of_ble_eq_true rfl, Nat.le_of_ble_eq_true rfl⟩ rfl rfl (Nat.le_of_ble_eq_true rfl) dX7_lists_15 ?_
  rintro r1 ⟨F1, hs1, mv1, G1⟩ hu1
  rcases (show (rk (tK (tc (G 3) tn) tn (i)) = 2) ∨ (rk (tK (tc (G 3) tn) tn (i)) ≠ 2) by omega) with hc1 | hc1
  · skip
    obtain ⟨rfl, hv1⟩ := (hu1.1 hc1)
    cases hv1
    refine zz_world (P' := (RP D C K (upd (upd (upd (upd F 5 (nI (rk (tK (tc (G 3) tn) tn (i + 1))))) 6 (nI (tS (tc (G 3) tn) tn (i + 1)))) 7 (r7 (tc (G 3) tn) tn (tS (tc (G 3) tn) tn (i + 1)) (r7 (tc (G 3) tn) tn (tS (tc (G 3) tn) tn i) f7))) 8 (nI (tE (tc (G 3) tn) tn (i + 1)))) hs mv (va_up G 13 (upd (G 13) c0 (r7 (tc (G 3) tn) tn (tS (tc (G 3) tn) tn (i)) (f7)))))) (fun _ h => h) ?_
    refine zz_ifB_ne 18 23 X.1 dX7_lists_18 (by decide) (fun h18 => ?_) (fun h18 => ?_)
    · skip
      refine zz_aload_n 23 X.1 0 dX7_lists_23 rfl ?_
      refine zz_dup 24 X.1 dX7_lists_24 rfl ?_
      refine rr_get 25 X 15 (by decide) (v := .int (F 15)) rfl (by decide +kernel) rfl dX7_lists_25 ?_
      refine zz_topi (nI c0) (h15) ?_
      refine zz_iconst 28 X.1 (v := nI 1) dX7_lists_28 rfl ?_
      refine zz_iadd 29 X.1 (v := (nI (c0 + 1))) dX7_lists_29 (nI_add _ _) ?_
      refine rr_put 30 hAp X 15 (by decide) (F' := upd (upd (upd (upd (upd F 5 (nI (rk (tK (tc (G 3) tn) tn (i + 1))))) 6 (nI (tS (tc (G 3) tn) tn (i + 1)))) 7 (r7 (tc (G 3) tn) tn (tS (tc (G 3) tn) tn (i + 1)) (r7 (tc (G 3) tn) tn (tS (tc (G 3) tn) tn i) f7))) 8 (nI (tE (tc (G 3) tn) tn (i + 1)))) 15 (nI (c0 + 1))) rfl (by decide +kernel) ⟨rfl, rfl⟩ (by decide +kernel) dX7_lists_30 ?_
      refine zz_iconst 33 X.1 (v := nI 1) dX7_lists_33 rfl ?_
      refine zz_topi (bI true) rfl ?_
      rw [← hQ]
      refine zz_iret 34 X.1 hr (bI_nar _) hlk (upd (upd (upd (upd (upd F 5 (nI (rk (tK (tc (G 3) tn) tn (i + 1))))) 6 (nI (tS (tc (G 3) tn) tn (i + 1)))) 7 (r7 (tc (G 3) tn) tn (tS (tc (G 3) tn) tn (i + 1)) (r7 (tc (G 3) tn) tn (tS (tc (G 3) tn) tn i) f7))) 8 (nI (tE (tc (G 3) tn) tn (i + 1)))) 15 (nI (c0 + 1)), hs, mv, va_up G 13 (upd (G 13) c0 (r7 (tc (G 3) tn) tn (tS (tc (G 3) tn) tn (i)) (f7)))) ?_ (fun _ h _ => h) dX7_lists_34
      refine ⟨fun hc => ?_, fun hc => ?_⟩ <;> first | (exfalso; omega) | (exact ⟨rfl, rfl⟩)
    · exact absurd h18 (by decide)
  · skip
    obtain ⟨rfl, hv1⟩ := (hu1.2 hc1)
    cases hv1
    refine zz_world (P' := (RP D C K (upd (upd (upd (upd F 5 (nI (rk (tK (tc (G 3) tn) tn (i))))) 6 (nI (tS (tc (G 3) tn) tn (i)))) 7 (r7 (tc (G 3) tn) tn (tS (tc (G 3) tn) tn (i)) (f7))) 8 (nI (tE (tc (G 3) tn) tn (i)))) hs mv (va_up G 13 (upd (G 13) c0 (r7 (tc (G 3) tn) tn (tS (tc (G 3) tn) tn (i)) (f7)))))) (fun _ h => h) ?_
    refine zz_ifB_ne 18 23 X.1 dX7_lists_18 (by decide) (fun h18 => ?_) (fun h18 => ?_)
    · exact absurd h18 (by decide)
    · skip
      refine zz_iconst 21 X.1 (v := nI 0) dX7_lists_21 rfl ?_
      refine zz_topi (bI false) rfl ?_
      rw [← hQ]
      refine zz_iret 22 X.1 hr (bI_nar _) hlk (upd (upd (upd (upd F 5 (nI (rk (tK (tc (G 3) tn) tn (i))))) 6 (nI (tS (tc (G 3) tn) tn (i)))) 7 (r7 (tc (G 3) tn) tn (tS (tc (G 3) tn) tn (i)) (f7))) 8 (nI (tE (tc (G 3) tn) tn (i))), hs, mv, va_up G 13 (upd (G 13) c0 (r7 (tc (G 3) tn) tn (tS (tc (G 3) tn) tn (i)) (f7)))) ?_ (fun _ h _ => h) dX7_lists_22
      refine ⟨fun hc => ?_, fun hc => ?_⟩ <;> first | (exfalso; omega) | (exact ⟨rfl, rfl⟩)

abbrev rm_X7_readsRange : Room := { frames := 5, cells := 0, slots := 0, locals := 105 }
theorem yd_X7_readsRange : yX7_readsRange.cls = RX7 ∧ yX7_readsRange.cls ≠ "java/lang/invoke/MethodHandle" ∧ yX7_readsRange.cls ≠ "java/lang/invoke/VarHandle" ∧ (parseMethodDescriptor yX7_readsRange.desc).map (fun d => d.parameters.length) = some 0 := by decide +kernel
set_option maxHeartbeats 4000000 in
set_option maxRecDepth 100000 in
theorem kt_X7_readsRange (l : Launch) (D : va_G) (C : Nat → ClassId) (K : Nat → Nat) (hAp : RAp K) (F : Nat → Int32) (hs mv : Nat → Bool) (G : Nat → Nat → Int32) (i : Nat) (f7 : Int32) (tn : Nat) (m0 : Nat) (hT : F 4 = nI tn) (htn : tn ≤ 400) (hB : HB (G 3) tn) (h5 : F 5 = nI (rk (tK (tc (G 3) tn) tn i))) (h6 : F 6 = nI (tS (tc (G 3) tn) tn i)) (h7 : F 7 = r7 (tc (G 3) tn) tn (tS (tc (G 3) tn) tn i) f7) (h8 : F 8 = nI (tE (tc (G 3) tn) tn i)) (h14 : F 14 = nI m0) (hm0 : m0 < 100) : RMi l yX7_readsRange wsX7_readsRange rm_X7_readsRange D C K [] F hs mv G (fun (r : Int32) (u : MSt) => ∃ (g11 : Nat → Int32) (g12 : Nat → Int32) (f8 : Int32), r = (bI ((rgR (tK (tc (G 3) tn) tn) i).1)) ∧ u = (upd (upd (upd (upd F 5 (nI (rk (tK (tc (G 3) tn) tn ((rgR (tK (tc (G 3) tn) tn) i).2))))) 6 (nI (tS (tc (G 3) tn) tn ((rgR (tK (tc (G 3) tn) tn) i).2)))) 7 (r7 (tc (G 3) tn) tn (tS (tc (G 3) tn) tn ((rgR (tK (tc (G 3) tn) tn) i).2)) (f8))) 8 (nI (tE (tc (G 3) tn) tn ((rgR (tK (tc (G 3) tn) tn) i).2))), hs, mv, va_up (va_up G 11 g11) 12 g12) ∧ (∀ k, k ≠ m0 → g11 k = G 11 k ∧ g12 k = G 12 k) ∧ ((rgR (tK (tc (G 3) tn) tn) i).1 = true → g11 m0 = nI (tV (tc (G 3) tn) tn i) ∧ g12 m0 = if tK (tc (G 3) tn) tn (i + 1) = 4 then nI (tV (tc (G 3) tn) tn (i + 2)) else -1)) := by
  refine RMi_of (lv := [(0, .ref (K 0))]) (cc := cX7_readsRange) (maxL := 1) (ret := (some .boolean)) rfl rfl (by decide +kernel) (Nat.le_of_ble_eq_true rfl) rfl ?_
  intro p e s m args below meth c X hml hr hlk
  generalize hQ : MQ below _ args s 0 0 _ = Q
  refine zz_world (P' := (RP D C K (upd (upd (upd (upd F 5 (nI (rk (tK (tc (G 3) tn) tn (i))))) 6 (nI (tS (tc (G 3) tn) tn (i)))) 7 (r7 (tc (G 3) tn) tn (tS (tc (G 3) tn) tn (i)) (f7))) 8 (nI (tE (tc (G 3) tn) tn (i)))) hs mv G)) (rp_F (upd4_self h5 h6 h7 h8)) ?_
  have hrk := rk_is (tK (tc (G 3) tn) tn (i))
  have hkb : tK (tc (G 3) tn) tn (i) ≤ 126 := kd_le.1
  refine zz_aload_n 0 X.1 0 dX7_readsRange_0 rfl ?_
  refine rr_get 1 X 11 (by decide) (v := .ref (K 11)) rfl (by decide +kernel) rfl dX7_readsRange_1 ?_
  refine zz_aload_n 4 X.1 0 dX7_readsRange_4 rfl ?_
  refine rr_get 5 X 14 (by decide) (v := .int (F 14)) rfl (by decide +kernel) rfl dX7_readsRange_5 ?_
  refine zz_topi (nI m0) (h14) ?_
  refine zz_aload_n 8 X.1 0 dX7_readsRange_8 rfl ?_
  refine rr_get 9 X 7 (by decide) (v := .int (r7 (tc (G 3) tn) tn (tS (tc (G 3) tn) tn (i)) (f7))) rfl (by decide +kernel) rfl dX7_readsRange_9 ?_
  refine rr_iast 12 hAp X 5 11 (f := G 11) (G' := va_up G 11 (upd (G 11) m0 (r7 (tc (G 3) tn) tn (tS (tc (G 3) tn) tn (i)) (f7)))) rfl rfl (by omega) (by decide) dX7_readsRange_12 ?_
  refine zz_aload_n 13 X.1 0 dX7_readsRange_13 rfl ?_
  refine rr_get 14 X 12 (by decide) (v := .ref (K 12)) rfl (by decide +kernel) rfl dX7_readsRange_14 ?_
  refine zz_aload_n 17 X.1 0 dX7_readsRange_17 rfl ?_
  refine rr_get 18 X 14 (by decide) (v := .int (F 14)) rfl (by decide +kernel) rfl dX7_readsRange_18 ?_
  refine zz_topi (nI m0) (h14) ?_
  refine zz_iconst 21 X.1 (v := (-1)) dX7_readsRange_21 (by decide) ?_
  refine rr_iast 22 hAp X 6 12 (f := G 12) (G' := va_up (va_up G 11 (upd (G 11) m0 (r7 (tc (G 3) tn) tn (tS (tc (G 3) tn) tn (i)) (f7)))) 12 (upd (G 12) m0 (-1))) rfl rfl (by omega) (by decide) dX7_readsRange_22 ?_
  refine zz_aload_n 23 X.1 0 dX7_readsRange_23 rfl ?_
  refine zz_iconst 24 X.1 (v := nI 2) dX7_readsRange_24 rfl ?_
  refine rr_callVi 25 X hml (As := [.int (nI 2)]) (kt_X7_takes l D C K hAp (upd (upd (upd (upd F 5 (nI (rk (tK (tc (G 3) tn) tn (i))))) 6 (nI (tS (tc (G 3) tn) tn (i)))) 7 (r7 (tc (G 3) tn) tn (tS (tc (G 3) tn) tn (i)) (f7))) 8 (nI (tE (tc (G 3) tn) tn (i)))) hs mv (va_up (va_up G 11 (upd (G 11) m0 (r7 (tc (G 3) tn) tn (tS (tc (G 3) tn) tn (i)) (f7)))) 12 (upd (G 12) m0 (-1))) i f7 tn 2 (hT) (by first | rfl | assumption | omega) (by first | rfl | assumption | omega) (by first | rfl | assumption | omega) (by first | rfl | assumption | omega) (by first | rfl | assumption | omega) (by first | rfl | assumption | omega) (by first | rfl | assumption | omega)) gX7_readsRange_X7_takes rfl ⟨rfl, rfl⟩ yd_X7_takes ⟨Nat.le_of_ble_eq_true rfl, Nat.le_of_ble_eq_true rfl⟩ rfl rfl (Nat.le_of_ble_eq_true rfl) dX7_readsRange_25 ?_
  rintro r1 ⟨F1, hs1, mv1, G1⟩ hu1
  rcases (show (rk (tK (tc (G 3) tn) tn (i)) = 2) ∨ (rk (tK (tc (G 3) tn) tn (i)) ≠ 2) by omega) with hc1 | hc1
  · skip
    obtain ⟨rfl, hv1⟩ := (hu1.1 hc1)
    cases hv1
    refine zz_world (P' := (RP D C K (upd (upd (upd (upd F 5 (nI (rk (tK (tc (G 3) tn) tn (i + 1))))) 6 (nI (tS (tc (G 3) tn) tn (i + 1)))) 7 (r7 (tc (G 3) tn) tn (tS (tc (G 3) tn) tn (i + 1)) (r7 (tc (G 3) tn) tn (tS (tc (G 3) tn) tn i) f7))) 8 (nI (tE (tc (G 3) tn) tn (i + 1)))) hs mv (va_up (va_up G 11 (upd (G 11) m0 (r7 (tc (G 3) tn) tn (tS (tc (G 3) tn) tn (i)) (f7)))) 12 (upd (G 12) m0 (-1))))) (fun _ h => h) ?_
    refine zz_ifB_ne 28 33 X.1 dX7_readsRange_28 (by decide) (fun h28 => ?_) (fun h28 => ?_)
    · skip
      have hrk1 := rk_is (tK (tc (G 3) tn) tn (i + 1))
      refine zz_aload_n 33 X.1 0 dX7_readsRange_33 rfl ?_
      refine rr_get 34 X 5 (by decide) (v := .int (nI (rk (tK (tc (G 3) tn) tn (i + 1))))) rfl (by decide +kernel) rfl dX7_readsRange_34 ?_
      refine zz_iconst 37 X.1 (v := nI 4) dX7_readsRange_37 rfl ?_
      refine zz_icmp_eq 38 43 X.1 (nI_toInt (by omega)) (nI_toInt (by omega)) dX7_readsRange_38 (by decide) (fun h38 => ?_) (fun h38 => ?_)
      · skip
        refine zz_aload_n 43 X.1 0 dX7_readsRange_43 rfl ?_
        refine rr_callVv 44 X hml (As := []) (kt_X7_reads l D C K hAp (upd (upd (upd (upd F 5 (nI (rk (tK (tc (G 3) tn) tn (i + 1))))) 6 (nI (tS (tc (G 3) tn) tn (i + 1)))) 7 (r7 (tc (G 3) tn) tn (tS (tc (G 3) tn) tn (i + 1)) (r7 (tc (G 3) tn) tn (tS (tc (G 3) tn) tn i) f7))) 8 (nI (tE (tc (G 3) tn) tn (i + 1)))) hs mv (va_up (va_up G 11 (upd (G 11) m0 (r7 (tc (G 3) tn) tn (tS (tc (G 3) tn) tn (i)) (f7)))) 12 (upd (G 12) m0 (-1))) (i + 1) tn (hT) (by first | rfl | assumption | omega) (by first | rfl | assumption | omega) (by first | rfl | assumption | omega)) gX7_readsRange_X7_reads rfl ⟨rfl, rfl⟩ yd_X7_reads ⟨Nat.le_of_ble_eq_true rfl, Nat.le_of_ble_eq_true rfl⟩ rfl rfl (Nat.le_of_ble_eq_true rfl) dX7_readsRange_44 ?_
        rintro ⟨F2, hs2, mv2, G2⟩ hu2
        cases hu2
        refine zz_world (P' := (RP D C K (upd (upd (upd (upd F 5 (nI (rk (tK (tc (G 3) tn) tn ((i + 1) + 1))))) 6 (nI (tS (tc (G 3) tn) tn ((i + 1) + 1)))) 7 (r7 (tc (G 3) tn) tn (tS (tc (G 3) tn) tn ((i + 1) + 1)) (r7 (tc (G 3) tn) tn (tS (tc (G 3) tn) tn (i + 1)) (r7 (tc (G 3) tn) tn (tS (tc (G 3) tn) tn i) f7)))) 8 (nI (tE (tc (G 3) tn) tn ((i + 1) + 1)))) hs mv (va_up (va_up G 11 (upd (G 11) m0 (r7 (tc (G 3) tn) tn (tS (tc (G 3) tn) tn (i)) (f7)))) 12 (upd (G 12) m0 (-1))))) (fun _ h => h) ?_
        have hrk2 := rk_is (tK (tc (G 3) tn) tn (i + 1 + 1))
        have he2 : tK (tc (G 3) tn) tn (i + 2) = tK (tc (G 3) tn) tn (i + 1 + 1) := rfl
        refine zz_aload_n 47 X.1 0 dX7_readsRange_47 rfl ?_
        refine rr_get 48 X 12 (by decide) (v := .ref (K 12)) rfl (by decide +kernel) rfl dX7_readsRange_48 ?_
        refine zz_aload_n 51 X.1 0 dX7_readsRange_51 rfl ?_
        refine rr_get 52 X 14 (by decide) (v := .int (F 14)) rfl (by decide +kernel) rfl dX7_readsRange_52 ?_
        refine zz_topi (nI m0) (h14) ?_
        refine zz_aload_n 55 X.1 0 dX7_readsRange_55 rfl ?_
        refine rr_get 56 X 7 (by decide) (v := .int (r7 (tc (G 3) tn) tn (tS (tc (G 3) tn) tn ((i + 1) + 1)) (r7 (tc (G 3) tn) tn (tS (tc (G 3) tn) tn (i + 1)) (r7 (tc (G 3) tn) tn (tS (tc (G 3) tn) tn i) f7)))) rfl (by decide +kernel) rfl dX7_readsRange_56 ?_
        refine rr_iast 59 hAp X 6 12 (f := upd (G 12) m0 (-1)) (G' := va_up (va_up G 11 (upd (G 11) m0 (r7 (tc (G 3) tn) tn (tS (tc (G 3) tn) tn (i)) (f7)))) 12 (upd (upd (G 12) m0 (-1)) m0 (r7 (tc (G 3) tn) tn (tS (tc (G 3) tn) tn ((i + 1) + 1)) (r7 (tc (G 3) tn) tn (tS (tc (G 3) tn) tn (i + 1)) (r7 (tc (G 3) tn) tn (tS (tc (G 3) tn) tn i) f7))))) rfl rfl (by omega) (by decide) dX7_readsRange_59 ?_
        refine zz_aload_n 60 X.1 0 dX7_readsRange_60 rfl ?_
        refine zz_iconst 61 X.1 (v := nI 2) dX7_readsRange_61 rfl ?_
        refine rr_callVi 62 X hml (As := [.int (nI 2)]) (kt_X7_takes l D C K hAp (upd (upd (upd (upd F 5 (nI (rk (tK (tc (G 3) tn) tn ((i + 1) + 1))))) 6 (nI (tS (tc (G 3) tn) tn ((i + 1) + 1)))) 7 (r7 (tc (G 3) tn) tn (tS (tc (G 3) tn) tn ((i + 1) + 1)) (r7 (tc (G 3) tn) tn (tS (tc (G 3) tn) tn (i + 1)) (r7 (tc (G 3) tn) tn (tS (tc (G 3) tn) tn i) f7)))) 8 (nI (tE (tc (G 3) tn) tn ((i + 1) + 1)))) hs mv (va_up (va_up G 11 (upd (G 11) m0 (r7 (tc (G 3) tn) tn (tS (tc (G 3) tn) tn (i)) (f7)))) 12 (upd (upd (G 12) m0 (-1)) m0 (r7 (tc (G 3) tn) tn (tS (tc (G 3) tn) tn ((i + 1) + 1)) (r7 (tc (G 3) tn) tn (tS (tc (G 3) tn) tn (i + 1)) (r7 (tc (G 3) tn) tn (tS (tc (G 3) tn) tn i) f7))))) ((i + 1) + 1) (r7 (tc (G 3) tn) tn (tS (tc (G 3) tn) tn (i + 1)) (r7 (tc (G 3) tn) tn (tS (tc (G 3) tn) tn i) f7)) tn 2 (hT) (by first | rfl | assumption | omega) (by first | rfl | assumption | omega) (by first | rfl | assumption | omega) (by first | rfl | assumption | omega) (by first | rfl | assumption | omega) (by first | rfl | assumption | omega) (by first | rfl | assumption | omega)) gX7_readsRange_X7_takes rfl ⟨rfl, rfl⟩ yd_X7_takes ⟨Nat.le_of_ble_eq_true rfl, Nat.le_of_ble_eq_true rfl⟩ rfl rfl (Nat.le_of_ble_eq_true rfl) dX7_readsRange_62 ?_
        rintro r3 ⟨F3, hs3, mv3, G3⟩ hu3
        rcases (show (rk (tK (tc (G 3) tn) tn (((i + 1) + 1))) = 2) ∨ (rk (tK (tc (G 3) tn) tn (((i + 1) + 1))) ≠ 2) by omega) with hc3 | hc3
        · skip
          obtain ⟨rfl, hv3⟩ := (hu3.1 hc3)
          cases hv3
          refine zz_world (P' := (RP D C K (upd (upd (upd (upd F 5 (nI (rk (tK (tc (G 3) tn) tn (((i + 1) + 1) + 1))))) 6 (nI (tS (tc (G 3) tn) tn (((i + 1) + 1) + 1)))) 7 (r7 (tc (G 3) tn) tn (tS (tc (G 3) tn) tn (((i + 1) + 1) + 1)) (r7 (tc (G 3) tn) tn (tS (tc (G 3) tn) tn ((i + 1) + 1)) (r7 (tc (G 3) tn) tn (tS (tc (G 3) tn) tn (i + 1)) (r7 (tc (G 3) tn) tn (tS (tc (G 3) tn) tn i) f7))))) 8 (nI (tE (tc (G 3) tn) tn (((i + 1) + 1) + 1)))) hs mv (va_up (va_up G 11 (upd (G 11) m0 (r7 (tc (G 3) tn) tn (tS (tc (G 3) tn) tn (i)) (f7)))) 12 (upd (upd (G 12) m0 (-1)) m0 (r7 (tc (G 3) tn) tn (tS (tc (G 3) tn) tn ((i + 1) + 1)) (r7 (tc (G 3) tn) tn (tS (tc (G 3) tn) tn (i + 1)) (r7 (tc (G 3) tn) tn (tS (tc (G 3) tn) tn i) f7))))))) (fun _ h => h) ?_
          rw [← hQ]
          refine zz_iret 65 X.1 hr (bI_nar _) hlk (upd (upd (upd (upd F 5 (nI (rk (tK (tc (G 3) tn) tn (((i + 1) + 1) + 1))))) 6 (nI (tS (tc (G 3) tn) tn (((i + 1) + 1) + 1)))) 7 (r7 (tc (G 3) tn) tn (tS (tc (G 3) tn) tn (((i + 1) + 1) + 1)) (r7 (tc (G 3) tn) tn (tS (tc (G 3) tn) tn ((i + 1) + 1)) (r7 (tc (G 3) tn) tn (tS (tc (G 3) tn) tn (i + 1)) (r7 (tc (G 3) tn) tn (tS (tc (G 3) tn) tn i) f7))))) 8 (nI (tE (tc (G 3) tn) tn (((i + 1) + 1) + 1))), hs, mv, va_up (va_up G 11 (upd (G 11) m0 (r7 (tc (G 3) tn) tn (tS (tc (G 3) tn) tn (i)) (f7)))) 12 (upd (upd (G 12) m0 (-1)) m0 (r7 (tc (G 3) tn) tn (tS (tc (G 3) tn) tn ((i + 1) + 1)) (r7 (tc (G 3) tn) tn (tS (tc (G 3) tn) tn (i + 1)) (r7 (tc (G 3) tn) tn (tS (tc (G 3) tn) tn i) f7))))) ?_ (fun _ h _ => h) dX7_readsRange_65
          have hR : rgR (tK (tc (G 3) tn) tn) i = (true, ((i + 1) + 1) + 1) := by
            unfold rgR; first | (rw [if_pos (by omega)]; done) | (rw [if_neg (by omega), if_pos (by omega)]; done) | (rw [if_neg (by omega), if_neg (by omega), if_pos (by omega)]; done) | (rw [if_neg (by omega), if_neg (by omega), if_neg (by omega)]; done)
          rw [hR]
          refine ⟨upd (G 11) m0 (r7 (tc (G 3) tn) tn (tS (tc (G 3) tn) tn (i)) (f7)), upd (upd (G 12) m0 (-1)) m0 (r7 (tc (G 3) tn) tn (tS (tc (G 3) tn) tn ((i + 1) + 1)) (r7 (tc (G 3) tn) tn (tS (tc (G 3) tn) tn (i + 1)) (r7 (tc (G 3) tn) tn (tS (tc (G 3) tn) tn i) f7))), r7 (tc (G 3) tn) tn (tS (tc (G 3) tn) tn ((i + 1) + 1)) (r7 (tc (G 3) tn) tn (tS (tc (G 3) tn) tn (i + 1)) (r7 (tc (G 3) tn) tn (tS (tc (G 3) tn) tn i) f7)), rfl, rfl, fun k hk => ⟨upd_ne hk, ?_⟩, fun hz => ⟨?_, ?_⟩⟩
          · first | exact upd_ne hk | (rw [upd_ne hk, upd_ne hk])
          · first | (exact Bool.noConfusion hz) | (rw [upd_eq]; exact r7_v (Or.inr (show tK (tc (G 3) tn) tn i = 3 by omega)))
          · first | (exact Bool.noConfusion hz) | (rw [if_pos (by omega), upd_eq]; exact r7_v (Or.inr (show tK (tc (G 3) tn) tn (i + 2) = 3 by omega))) | (rw [if_neg (by omega), upd_eq])
        · skip
          obtain ⟨rfl, hv3⟩ := (hu3.2 hc3)
          cases hv3
          refine zz_world (P' := (RP D C K (upd (upd (upd (upd F 5 (nI (rk (tK (tc (G 3) tn) tn (((i + 1) + 1)))))) 6 (nI (tS (tc (G 3) tn) tn (((i + 1) + 1))))) 7 (r7 (tc (G 3) tn) tn (tS (tc (G 3) tn) tn (((i + 1) + 1))) ((r7 (tc (G 3) tn) tn (tS (tc (G 3) tn) tn (i + 1)) (r7 (tc (G 3) tn) tn (tS (tc (G 3) tn) tn i) f7))))) 8 (nI (tE (tc (G 3) tn) tn (((i + 1) + 1))))) hs mv (va_up (va_up G 11 (upd (G 11) m0 (r7 (tc (G 3) tn) tn (tS (tc (G 3) tn) tn (i)) (f7)))) 12 (upd (upd (G 12) m0 (-1)) m0 (r7 (tc (G 3) tn) tn (tS (tc (G 3) tn) tn ((i + 1) + 1)) (r7 (tc (G 3) tn) tn (tS (tc (G 3) tn) tn (i + 1)) (r7 (tc (G 3) tn) tn (tS (tc (G 3) tn) tn i) f7))))))) (fun _ h => h) ?_
          rw [← hQ]
          refine zz_iret 65 X.1 hr (bI_nar _) hlk (upd (upd (upd (upd F 5 (nI (rk (tK (tc (G 3) tn) tn (((i + 1) + 1)))))) 6 (nI (tS (tc (G 3) tn) tn (((i + 1) + 1))))) 7 (r7 (tc (G 3) tn) tn (tS (tc (G 3) tn) tn (((i + 1) + 1))) ((r7 (tc (G 3) tn) tn (tS (tc (G 3) tn) tn (i + 1)) (r7 (tc (G 3) tn) tn (tS (tc (G 3) tn) tn i) f7))))) 8 (nI (tE (tc (G 3) tn) tn (((i + 1) + 1)))), hs, mv, va_up (va_up G 11 (upd (G 11) m0 (r7 (tc (G 3) tn) tn (tS (tc (G 3) tn) tn (i)) (f7)))) 12 (upd (upd (G 12) m0 (-1)) m0 (r7 (tc (G 3) tn) tn (tS (tc (G 3) tn) tn ((i + 1) + 1)) (r7 (tc (G 3) tn) tn (tS (tc (G 3) tn) tn (i + 1)) (r7 (tc (G 3) tn) tn (tS (tc (G 3) tn) tn i) f7))))) ?_ (fun _ h _ => h) dX7_readsRange_65
          have hR : rgR (tK (tc (G 3) tn) tn) i = (false, ((i + 1) + 1)) := by
            unfold rgR; first | (rw [if_pos (by omega)]; done) | (rw [if_neg (by omega), if_pos (by omega)]; done) | (rw [if_neg (by omega), if_neg (by omega), if_pos (by omega)]; done) | (rw [if_neg (by omega), if_neg (by omega), if_neg (by omega)]; done)
          rw [hR]
          refine ⟨upd (G 11) m0 (r7 (tc (G 3) tn) tn (tS (tc (G 3) tn) tn (i)) (f7)), upd (upd (G 12) m0 (-1)) m0 (r7 (tc (G 3) tn) tn (tS (tc (G 3) tn) tn ((i + 1) + 1)) (r7 (tc (G 3) tn) tn (tS (tc (G 3) tn) tn (i + 1)) (r7 (tc (G 3) tn) tn (tS (tc (G 3) tn) tn i) f7))), (r7 (tc (G 3) tn) tn (tS (tc (G 3) tn) tn (i + 1)) (r7 (tc (G 3) tn) tn (tS (tc (G 3) tn) tn i) f7)), rfl, rfl, fun k hk => ⟨upd_ne hk, ?_⟩, fun hz => ⟨?_, ?_⟩⟩
          · first | exact upd_ne hk | (rw [upd_ne hk, upd_ne hk])
          · first | (exact Bool.noConfusion hz) | (rw [upd_eq]; exact r7_v (Or.inr (show tK (tc (G 3) tn) tn i = 3 by omega)))
          · first | (exact Bool.noConfusion hz) | (rw [if_pos (by omega), upd_eq]; exact r7_v (Or.inr (show tK (tc (G 3) tn) tn (i + 2) = 3 by omega))) | (rw [if_neg (by omega), upd_eq])
      · skip
        refine zz_iconst 41 X.1 (v := nI 1) dX7_readsRange_41 rfl ?_
        refine zz_topi (bI true) rfl ?_
        rw [← hQ]
        refine zz_iret 42 X.1 hr (bI_nar _) hlk (upd (upd (upd (upd F 5 (nI (rk (tK (tc (G 3) tn) tn (i + 1))))) 6 (nI (tS (tc (G 3) tn) tn (i + 1)))) 7 (r7 (tc (G 3) tn) tn (tS (tc (G 3) tn) tn (i + 1)) (r7 (tc (G 3) tn) tn (tS (tc (G 3) tn) tn i) f7))) 8 (nI (tE (tc (G 3) tn) tn (i + 1))), hs, mv, va_up (va_up G 11 (upd (G 11) m0 (r7 (tc (G 3) tn) tn (tS (tc (G 3) tn) tn (i)) (f7)))) 12 (upd (G 12) m0 (-1))) ?_ (fun _ h _ => h) dX7_readsRange_42
        have hR : rgR (tK (tc (G 3) tn) tn) i = (true, i + 1) := by
          unfold rgR; first | (rw [if_pos (by omega)]; done) | (rw [if_neg (by omega), if_pos (by omega)]; done) | (rw [if_neg (by omega), if_neg (by omega), if_pos (by omega)]; done) | (rw [if_neg (by omega), if_neg (by omega), if_neg (by omega)]; done)
        rw [hR]
        refine ⟨upd (G 11) m0 (r7 (tc (G 3) tn) tn (tS (tc (G 3) tn) tn (i)) (f7)), upd (G 12) m0 (-1), r7 (tc (G 3) tn) tn (tS (tc (G 3) tn) tn i) f7, rfl, rfl, fun k hk => ⟨upd_ne hk, ?_⟩, fun hz => ⟨?_, ?_⟩⟩
        · first | exact upd_ne hk | (rw [upd_ne hk, upd_ne hk])
        · first | (exact Bool.noConfusion hz) | (rw [upd_eq]; exact r7_v (Or.inr (show tK (tc (G 3) tn) tn i = 3 by omega)))
        · first | (exact Bool.noConfusion hz) | (rw [if_pos (by omega), upd_eq]; exact r7_v (Or.inr (show tK (tc (G 3) tn) tn (i + 2) = 3 by omega))) | (rw [if_neg (by omega), upd_eq])
    · exact absurd h28 (by decide)
  · skip
    obtain ⟨rfl, hv1⟩ := (hu1.2 hc1)
    cases hv1
    refine zz_world (P' := (RP D C K (upd (upd (upd (upd F 5 (nI (rk (tK (tc (G 3) tn) tn (i))))) 6 (nI (tS (tc (G 3) tn) tn (i)))) 7 (r7 (tc (G 3) tn) tn (tS (tc (G 3) tn) tn (i)) (f7))) 8 (nI (tE (tc (G 3) tn) tn (i)))) hs mv (va_up (va_up G 11 (upd (G 11) m0 (r7 (tc (G 3) tn) tn (tS (tc (G 3) tn) tn (i)) (f7)))) 12 (upd (G 12) m0 (-1))))) (fun _ h => h) ?_
    refine zz_ifB_ne 28 33 X.1 dX7_readsRange_28 (by decide) (fun h28 => ?_) (fun h28 => ?_)
    · exact absurd h28 (by decide)
    · skip
      refine zz_iconst 31 X.1 (v := nI 0) dX7_readsRange_31 rfl ?_
      refine zz_topi (bI false) rfl ?_
      rw [← hQ]
      refine zz_iret 32 X.1 hr (bI_nar _) hlk (upd (upd (upd (upd F 5 (nI (rk (tK (tc (G 3) tn) tn (i))))) 6 (nI (tS (tc (G 3) tn) tn (i)))) 7 (r7 (tc (G 3) tn) tn (tS (tc (G 3) tn) tn (i)) (f7))) 8 (nI (tE (tc (G 3) tn) tn (i))), hs, mv, va_up (va_up G 11 (upd (G 11) m0 (r7 (tc (G 3) tn) tn (tS (tc (G 3) tn) tn (i)) (f7)))) 12 (upd (G 12) m0 (-1))) ?_ (fun _ h _ => h) dX7_readsRange_32
      have hR : rgR (tK (tc (G 3) tn) tn) i = (false, i) := by
        unfold rgR; first | (rw [if_pos (by omega)]; done) | (rw [if_neg (by omega), if_pos (by omega)]; done) | (rw [if_neg (by omega), if_neg (by omega), if_pos (by omega)]; done) | (rw [if_neg (by omega), if_neg (by omega), if_neg (by omega)]; done)
      rw [hR]
      refine ⟨upd (G 11) m0 (r7 (tc (G 3) tn) tn (tS (tc (G 3) tn) tn (i)) (f7)), upd (G 12) m0 (-1), f7, rfl, rfl, fun k hk => ⟨upd_ne hk, ?_⟩, fun hz => ⟨?_, ?_⟩⟩
      · first | exact upd_ne hk | (rw [upd_ne hk, upd_ne hk])
      · first | (exact Bool.noConfusion hz) | (rw [upd_eq]; exact r7_v (Or.inr (show tK (tc (G 3) tn) tn i = 3 by omega)))
      · first | (exact Bool.noConfusion hz) | (rw [if_pos (by omega), upd_eq]; exact r7_v (Or.inr (show tK (tc (G 3) tn) tn (i + 2) = 3 by omega))) | (rw [if_neg (by omega), upd_eq])
