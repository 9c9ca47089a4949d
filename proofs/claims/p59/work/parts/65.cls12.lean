/-! All tokens; the texts. -/
/-- the statements' fields and the listed numbers, m statements read -/
def STB (K V : Nat → Nat) (m : Nat) (T : Nat → Nat → Int32) (g : Nat → Int32) : Prop := (∀ k, k < m → T k 0 = nI (V (sI K k)) ∧ T k 1 = nI (sac K (sI K k)) ∧ T k 2 = nI (sfi K V (sC K k) (sI K k)) ∧ T k 3 = nI (sse K V (sC K k) (sI K k))) ∧ ∀ k, k < m → ∀ j, j < slc K (sI K k) → g (sC K k + j) = nI (V (sI K k + 3 + 2 * j))
theorem STB_0 {K V : Nat → Nat} {T : Nat → Nat → Int32} {g : Nat → Int32} : STB K V 0 T g := ⟨fun k h => absurd h (Nat.not_lt_zero _), fun k h => absurd h (Nat.not_lt_zero _)⟩
theorem STB_up {K V : Nat → Nat} {m : Nat} {T T' : Nat → Nat → Int32} {g g' : Nat → Int32} (h : STB K V m T g) (hk : ∀ k, k ≠ m → T' k = T k) (hl : ∀ k, k < sC K m → g' k = g k)
    (hm : T' m 0 = nI (V (sI K m)) ∧ T' m 1 = nI (sac K (sI K m)) ∧ T' m 2 = nI (sfi K V (sC K m) (sI K m)) ∧ T' m 3 = nI (sse K V (sC K m) (sI K m))) (hj : ∀ j, j < slc K (sI K m) → g' (sC K m + j) = nI (V (sI K m + 3 + 2 * j))) : STB K V (m + 1) T' g' := by
  refine ⟨fun k hk2 => ?_, fun k hk2 j hj2 => ?_⟩
  · rcases Nat.lt_or_ge k m with z | z
    · rw [hk k (by omega)]
      exact h.1 k z
    · rw [show k = m by omega]; exact hm
  · rcases Nat.lt_or_ge k m with z | z
    · have := sC_mono (K := K) z
      rw [hl _ (by omega)]
      exact h.2 k z j hj2
    · rw [show k = m by omega] at hj2 ⊢; exact hj j hj2
abbrev rm_X5_readAll : Room := { frames := 9, cells := 0, slots := 0, locals := 202 }
theorem yd_X5_readAll : yX5_readAll.cls = RX5 ∧ yX5_readAll.cls ≠ "java/lang/invoke/MethodHandle" ∧ yX5_readAll.cls ≠ "java/lang/invoke/VarHandle" ∧ (parseMethodDescriptor yX5_readAll.desc).map (fun d => d.parameters.length) = some 1 := by decide +kernel
set_option maxHeartbeats 4000000 in
set_option maxRecDepth 100000 in
theorem kt_X5_readAll (l : Launch) (D : va_G) (C : Nat → ClassId) (K : Nat → Nat) (adK adV : Nat → Nat) (hAp : DAp K) (F : Nat → Int32) (hs : Nat → Bool) (G T : Nat → Nat → Int32) (tn : Nat) (hT : F 4 = nI tn) (htn : tn ≤ 400) (hHB : HB (G 3) tn) : CAv l yX5_readAll wsX5_readAll rm_X5_readAll D C K adK adV (5) [.ref (K 2)] F hs G T (fun (u : CSt) => ∃ (nt : Nat) (g40 : Nat → Int32) (g41 : Nat → Int32) (g42 : Nat → Int32), u = (upd (upd (upd F 32 (nI nt)) 33 (nI 0)) 34 (nI tn), hs, va_up (va_up (va_up G 40 g40) 41 g41) 42 g42, T) ∧ TKc (tK (tc (G 3) tn) tn) (tV (tc (G 3) tn) tn) (tS (tc (G 3) tn) tn) nt tn g40 g41 g42) := by
  refine CAv_of (lv := [(0, .ref (K 5)), (1, .ref (K 2))]) (cc := cX5_readAll) (maxL := 4) (ret := none) rfl (by decide +kernel) (Nat.le_of_ble_eq_true rfl) rfl ?_
  intro p e s m args below meth c X hB hml hr hlk
  generalize hQ : MQ below _ args s 0 0 _ = Q
  refine zz_world (P' := (DP D C K F (WH hs) (va_up G 40 (G 40)) T)) (dp_G (va_up_id (f := G) (k := 40)).symm) ?_
  refine zz_aload_n 0 X.1 0 dX5_readAll_0 rfl ?_
  refine zz_iconst 1 X.1 (v := nI 0) dX5_readAll_1 rfl ?_
  refine dd_put5 2 hAp X (by decide +kernel) 3 (by decide) (F' := upd F 32 (nI 0)) rfl (by decide +kernel) ⟨rfl, rfl⟩ (by decide +kernel) dX5_readAll_2 ?_
  refine zz_aload_n 5 X.1 0 dX5_readAll_5 rfl ?_
  refine zz_iconst 6 X.1 (v := nI 0) dX5_readAll_6 rfl ?_
  refine dd_put5 7 hAp X (by decide +kernel) 4 (by decide) (F' := upd (upd F 32 (nI 0)) 33 (nI 0)) rfl (by decide +kernel) ⟨rfl, rfl⟩ (by decide +kernel) dX5_readAll_7 ?_
  refine zz_world (P' := (DP D C K (upd (upd F 32 (nI 0)) 33 (nI 0)) (WH hs) (va_up (va_up G 40 (G 40)) 41 (G 41)) T)) (dp_G (va_up_id (f := va_up G 40 (G 40)) (k := 41)).symm) ?_
  refine zz_aload_n 10 X.1 0 dX5_readAll_10 rfl ?_
  refine zz_aload_n 11 X.1 1 dX5_readAll_11 rfl ?_
  refine dd_callVi 12 X hml (th := 2) (As := []) (kt_X3_size l D C K hAp (upd (upd F 32 (nI 0)) 33 (nI 0)) hs (va_up (va_up G 40 (G 40)) 41 (G 41)) T tn (hT)) gX5_readAll_X3_size rfl ⟨rfl, rfl⟩ (dr_2 X) yd_X3_size ⟨Nat.le_of_ble_eq_true rfl, Nat.le_of_ble_eq_true rfl⟩ rfl rfl (Nat.le_of_ble_eq_true rfl) ⟨Nat.zero_le _, Nat.zero_le _⟩ dX5_readAll_12 ?_
  rintro r1 ⟨F1, hs1, G1, T1⟩ hu1
  obtain ⟨rfl, hv1⟩ := hu1
  cases hv1
  refine zz_world (P' := (DP D C K (upd (upd F 32 (nI 0)) 33 (nI 0)) (WH hs) (va_up (va_up G 40 (G 40)) 41 (G 41)) T)) (fun _ h => h) ?_
  refine zz_world (P' := (DP D C K (upd (upd F 32 (nI 0)) 33 (nI 0)) (WH hs) (va_up (va_up (va_up G 40 (G 40)) 41 (G 41)) 42 (G 42)) T)) (dp_G (va_up_id (f := va_up (va_up G 40 (G 40)) 41 (G 41)) (k := 42)).symm) ?_
  refine dd_put5 15 hAp X (by decide +kernel) 5 (by decide) (F' := upd (upd (upd F 32 (nI 0)) 33 (nI 0)) 34 (nI tn)) rfl (by decide +kernel) ⟨rfl, rfl⟩ (by decide +kernel) dX5_readAll_15 ?_
  refine zz_iconst 18 X.1 (v := nI 0) dX5_readAll_18 rfl ?_
  refine zz_istore_n 19 X.1 (lv' := [(2, .int (nI 0)), (0, .ref (K 5)), (1, .ref (K 2))]) dX5_readAll_19 (by decide) rfl ?_
  refine zz_iconst 20 X.1 (v := nI 0) dX5_readAll_20 rfl ?_
  refine zz_istore_n 21 X.1 (lv' := [(3, .int (nI 0)), (2, .int (nI 0)), (0, .ref (K 5)), (1, .ref (K 2))]) dX5_readAll_21 (by decide) rfl ?_
  have C22 : ∀ (d : Nat) (j : Nat) (b1 : Nat) (p1 : Nat) (h40 : Nat → Int32) (h41 : Nat → Int32) (h42 : Nat → Int32) (hb1 : b1 = tB (tc (G 3) tn) tn j) (hb2 : b1 ≤ tn) (hp1 : p1 ≤ tn) (hbl : ∀ k, b1 ≤ k → k < p1 → bl ((tc (G 3) tn) k) = true) (hjb : j ≤ b1) (hTs : ∀ k, k < j → h40 k = nI (tK (tc (G 3) tn) tn k) ∧ h42 k = nI (tS (tc (G 3) tn) tn k) ∧ (tK (tc (G 3) tn) tn k = 2 ∨ tK (tc (G 3) tn) tn k = 3 → h41 k = nI (tV (tc (G 3) tn) tn k))) (hd : tn - p1 < d), ZZ p l e rm_X5_readAll s m args below meth c 0 0 Q (zz_A (DAd K) s.heap.size) (DP D C K (upd (upd (upd F 32 (nI j)) 33 (nI 0)) 34 (nI tn)) (WH hs) (va_up (va_up (va_up G 40 h40) 41 h41) 42 h42) T) 4 [(0, .ref (K 5)), (1, .ref (K 2)), (2, .int (nI b1)), (3, .int (nI p1))] [] 22 := by
    intro d
    induction d with
    | zero => intro j b1 p1 h40 h41 h42 hb1 hb2 hp1 hbl hjb hTs hd; exact absurd hd (Nat.not_lt_zero _)
    | succ d ih22 =>
      intro j b1 p1 h40 h41 h42 hb1 hb2 hp1 hbl hjb hTs hd
      refine zz_iload_n 22 X.1 3 dX5_readAll_22 rfl ?_
      refine zz_aload_n 23 X.1 0 dX5_readAll_23 rfl ?_
      refine dd_get5 24 X (by decide +kernel) 5 (by decide) (v := .int (nI tn)) rfl (by decide +kernel) rfl dX5_readAll_24 ?_
      refine zz_icmp_ge 27 61 X.1 (nI_toInt (by omega)) (nI_toInt (by omega)) dX5_readAll_27 (by decide) (fun h27 => ?_) (fun h27 => ?_)
      · skip
        rw [← hQ]
        refine zz_vret 61 X.1 hr hlk (upd (upd (upd F 32 (nI j)) 33 (nI 0)) 34 (nI tn), hs, va_up (va_up (va_up G 40 h40) 41 h41) 42 h42, T) ?_ (fun _ h _ => h) dX5_readAll_61
        have hSe : tS (tc (G 3) tn) tn j = tn := by
          rw [tS_B, ← hb1]
          exact sk_at hb2 (Nat.le_refl _) (fun q => absurd q (by omega)) (fun k h1 h2 => hbl k h1 (by omega))
        exact ⟨j, h40, h41, h42, rfl, TKc_of (tc_n (g := G 3) (n := tn)) (by omega) hSe hTs⟩
      · skip
        refine zz_iload_n 30 X.1 3 dX5_readAll_30 rfl ?_
        refine zz_iload_n 31 X.1 2 dX5_readAll_31 rfl ?_
        refine zz_icmp_lt 32 55 X.1 (nI_toInt (by omega)) (nI_toInt (by omega)) dX5_readAll_32 (by decide) (fun h32 => ?_) (fun h32 => ?_)
        · skip
          refine zz_iinc 55 X.1 3 (v := (nI (p1 + 1))) (lv' := [(3, .int (nI (p1 + 1))), (0, .ref (K 5)), (1, .ref (K 2)), (2, .int (nI b1))]) dX5_readAll_55 rfl (nI_add p1 1) (by decide) rfl ?_
          refine zz_goto 58 22 X.1 dX5_readAll_58 (by decide) ?_
          refine zz_lvs [1, 2, 3, 0] rfl ?_
          exact ih22 j b1 (p1 + 1) h40 h41 h42 (by first | exact hb1 | (show p1 + tl (tc (G 3) tn) tn p1 = tE (tc (G 3) tn) tn j; unfold tE; rw [hSj])) (by first | exact hb2 | exact htl.2) (by omega) (fun k hk1 hk2 => by first | (exfalso; omega) | (rcases Nat.lt_or_ge k p1 with z | z; exact hbl k hk1 z; rw [show k = p1 by omega]; exact h43)) (by first | exact hjb | omega) (fun k hk => by first | exact hTs k hk | (rcases Nat.lt_or_ge k j with z | z; rw [upd_ne (by omega), upd_ne (by omega), upd_ne (by omega)]; exact hTs k z; rw [show k = j by omega, upd_eq, upd_eq, upd_eq]; unfold tK tV; rw [hSj]; exact ⟨rfl, rfl, by assumption⟩)) (by omega)
        · skip
          refine zz_aload_n 35 X.1 1 dX5_readAll_35 rfl ?_
          refine zz_iload_n 36 X.1 3 dX5_readAll_36 rfl ?_
          have hlt := tc_lt (i := p1) hHB
          refine dd_callVi 37 X hml (th := 2) (As := [.int (nI p1)]) (kt_X3_sign l D C K hAp (upd (upd (upd F 32 (nI j)) 33 (nI 0)) 34 (nI tn)) hs (va_up (va_up (va_up G 40 h40) 41 h41) 42 h42) T p1 tn (by first | rfl | assumption | omega) (hT) (by first | rfl | assumption | omega) (by first | rfl | assumption | omega)) gX5_readAll_X3_sign rfl ⟨rfl, rfl⟩ (dr_2 X) yd_X3_sign ⟨Nat.le_of_ble_eq_true rfl, Nat.le_of_ble_eq_true rfl⟩ rfl rfl (Nat.le_of_ble_eq_true rfl) ⟨Nat.zero_le _, Nat.zero_le _⟩ dX5_readAll_37 ?_
          rintro r2 ⟨F2, hs2, G2, T2⟩ hu2
          obtain ⟨rfl, hv2⟩ := hu2
          cases hv2
          refine zz_world (P' := (DP D C K (upd (upd (upd F 32 (nI j)) 33 (nI 0)) 34 (nI tn)) (WH hs) (va_up (va_up (va_up G 40 h40) 41 h41) 42 h42) T)) (fun _ h => h) ?_
          refine zz_callS0i 40 ⟨X.1.1, X.1.2, hml, X.2.2.1, X.2.1⟩ (fun q h => Or.inr h) DP_keep (As := [.int (nI (tc (G 3) tn p1))]) (kt_X5_isBlank l (tc (G 3) tn p1) (by first | rfl | assumption | omega)) gX5_readAll_X5_isBlank rfl ⟨rfl, rfl⟩ yd_X5_isBlank.2 ⟨Nat.le_of_ble_eq_true rfl, Nat.le_of_ble_eq_true rfl⟩ rfl rfl (Nat.le_of_ble_eq_true rfl) ⟨Nat.zero_le _, Nat.zero_le _⟩ dX5_readAll_40 ?_
          intro r3 hu3
          obtain rfl := hu3
          refine zz_ifB_ne 43 55 X.1 dX5_readAll_43 (by decide) (fun h43 => ?_) (fun h43 => ?_)
          · skip
            refine zz_iinc 55 X.1 3 (v := (nI (p1 + 1))) (lv' := [(3, .int (nI (p1 + 1))), (0, .ref (K 5)), (1, .ref (K 2)), (2, .int (nI b1))]) dX5_readAll_55 rfl (nI_add p1 1) (by decide) rfl ?_
            refine zz_goto 58 22 X.1 dX5_readAll_58 (by decide) ?_
            refine zz_lvs [1, 2, 3, 0] rfl ?_
            exact ih22 j b1 (p1 + 1) h40 h41 h42 (by first | exact hb1 | (show p1 + tl (tc (G 3) tn) tn p1 = tE (tc (G 3) tn) tn j; unfold tE; rw [hSj])) (by first | exact hb2 | exact htl.2) (by omega) (fun k hk1 hk2 => by first | (exfalso; omega) | (rcases Nat.lt_or_ge k p1 with z | z; exact hbl k hk1 z; rw [show k = p1 by omega]; exact h43)) (by first | exact hjb | omega) (fun k hk => by first | exact hTs k hk | (rcases Nat.lt_or_ge k j with z | z; rw [upd_ne (by omega), upd_ne (by omega), upd_ne (by omega)]; exact hTs k z; rw [show k = j by omega, upd_eq, upd_eq, upd_eq]; unfold tK tV; rw [hSj]; exact ⟨rfl, rfl, by assumption⟩)) (by omega)
          · skip
            have hSj : tS (tc (G 3) tn) tn j = p1 := by
              rw [tS_B, ← hb1]
              exact sk_at (by omega) (by omega) (fun _ => h43) hbl
            have htl := tl_ok (p := p1) (tc_n (g := G 3) (n := tn)) (by omega)
            refine zz_iload_n 46 X.1 3 dX5_readAll_46 rfl ?_
            refine zz_aload_n 47 X.1 0 dX5_readAll_47 rfl ?_
            refine zz_aload_n 48 X.1 1 dX5_readAll_48 rfl ?_
            refine zz_iload_n 49 X.1 3 dX5_readAll_49 rfl ?_
            refine dd_callAi 50 X hB hml (th := 5) (As := [.ref (K 2), .int (nI p1)]) (kt_X5_readOne l D C K adK adV hAp (upd (upd (upd F 32 (nI j)) 33 (nI 0)) 34 (nI tn)) hs (va_up (va_up (va_up G 40 h40) 41 h41) 42 h42) T p1 tn j (hT) (by first | rfl | assumption | omega) (by first | rfl | assumption | omega) (rfl) (by first | rfl | assumption | omega) (by first | rfl | assumption | omega) (by first | rfl | assumption | omega)) gX5_readAll_X5_readOne rfl ⟨rfl, rfl⟩ (dr_5 X) yd_X5_readOne ⟨Nat.le_of_ble_eq_true rfl, Nat.le_of_ble_eq_true rfl⟩ rfl rfl (Nat.le_of_ble_eq_true rfl) ⟨Nat.zero_le _, Nat.zero_le _⟩ dX5_readAll_50 ?_
            rintro r4 ⟨F4, hs4, G4, T4⟩ hu4
            obtain ⟨vq_4, rfl, hv4, hf4_0⟩ := hu4
            cases hv4
            refine zz_world (P' := (DP D C K (upd (upd (upd F 32 (nI (j + 1))) 33 (nI 0)) 34 (nI tn)) (WH hs) (va_up (va_up (va_up G 40 (upd h40 j (nI (kd (tc (G 3) tn) tn p1)))) 41 (upd h41 j vq_4)) 42 (upd h42 j (nI p1))) T)) (fun _ h => h) ?_
            refine zz_iadd 53 X.1 (v := (nI (p1 + (tl (tc (G 3) tn) tn p1)))) dX5_readAll_53 (nI_add _ _) ?_
            refine zz_istore_n 54 X.1 (lv' := [(2, .int (nI (p1 + (tl (tc (G 3) tn) tn p1)))), (0, .ref (K 5)), (1, .ref (K 2)), (3, .int (nI p1))]) dX5_readAll_54 (by decide) rfl ?_
            refine zz_iinc 55 X.1 3 (v := (nI (p1 + 1))) (lv' := [(3, .int (nI (p1 + 1))), (2, .int (nI (p1 + (tl (tc (G 3) tn) tn p1)))), (0, .ref (K 5)), (1, .ref (K 2))]) dX5_readAll_55 rfl (nI_add p1 1) (by decide) rfl ?_
            refine zz_goto 58 22 X.1 dX5_readAll_58 (by decide) ?_
            refine zz_lvs [2, 3, 1, 0] rfl ?_
            exact ih22 (j + 1) (p1 + (tl (tc (G 3) tn) tn p1)) (p1 + 1) (upd h40 j (nI (kd (tc (G 3) tn) tn p1))) (upd h41 j vq_4) (upd h42 j (nI p1)) (by first | exact hb1 | (show p1 + tl (tc (G 3) tn) tn p1 = tE (tc (G 3) tn) tn j; unfold tE; rw [hSj])) (by first | exact hb2 | exact htl.2) (by omega) (fun k hk1 hk2 => by first | (exfalso; omega) | (rcases Nat.lt_or_ge k p1 with z | z; exact hbl k hk1 z; rw [show k = p1 by omega]; exact h43)) (by first | exact hjb | omega) (fun k hk => by first | exact hTs k hk | (rcases Nat.lt_or_ge k j with z | z; rw [upd_ne (by omega), upd_ne (by omega), upd_ne (by omega)]; exact hTs k z; rw [show k = j by omega, upd_eq, upd_eq, upd_eq]; unfold tK tV; rw [hSj]; exact ⟨rfl, rfl, by assumption⟩)) (by omega)
  refine zz_lvs [2, 3, 1, 0] rfl ?_
  exact C22 (tn - 0 + 1) 0 0 0 (G 40) (G 41) (G 42) (rfl) (by omega) (by omega) (fun k h1 h2 => absurd h2 (Nat.not_lt_zero _)) (by omega) (fun k hk => absurd hk (Nat.not_lt_zero _)) (Nat.lt_succ_self _)
