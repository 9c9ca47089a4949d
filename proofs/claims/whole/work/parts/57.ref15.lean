/-! A statement done, as its tokens tell it; run. -/
theorem liR_K3 {K : Nat → Nat} : ∀ d j, (liR K d j).1 = true → ∀ k, k < liN K d j → K (j + 2 * k) = 3
  | 0, j, h => Bool.noConfusion h
  | d + 1, j, h => by
    unfold liR at h
    unfold liN
    by_cases h1 : K j ≠ 3
    · rw [if_pos h1] at h; exact Bool.noConfusion h
    · rw [if_neg h1] at h ⊢
      by_cases h2 : K (j + 1) = 44
      · rw [if_pos h2] at h ⊢
        intro k hk
        rcases Nat.eq_zero_or_pos k with z | z
        · rw [z]; show K j = 3; omega
        · have := liR_K3 d (j + 2) h (k - 1) (by omega)
          rw [show j + 2 + 2 * (k - 1) = j + 2 * k by omega] at this
          exact this
      · rw [if_neg h2]
        intro k hk
        rw [show k = 0 by omega]; show K j = 3; omega
theorem stR_ok {K : Nat → Nat} {i : Nat} (h : (stR K i).1 = true) : K i = 2 ∧ (((K (i + 1) = 43 ∨ K (i + 1) = 45 ∨ K (i + 1) = 94) ∧ K (i + 2) = 3 ∧ (K (i + 3) = 4 → K (i + 4) = 3)) ∨ (isL K i = true ∧ ∀ k, k < slc K i → K (i + 3 + 2 * k) = 3) ∨ (isL K i = false ∧ (K (i + 1) = 38 ∨ K (i + 1) = 124 ∨ K (i + 1) = 126 ∨ K (i + 1) = 33 ∨ K (i + 1) = 61) ∧ K (i + 2) = 2)) := by
  unfold stR at h
  by_cases h1 : K i ≠ 2
  · rw [if_pos h1] at h; exact Bool.noConfusion h
  · rw [if_neg h1] at h
    refine ⟨by omega, ?_⟩
    by_cases h2 : (acR K (i + 1)).1 = false
    · rw [if_pos h2] at h; exact Bool.noConfusion h
    · have h4 : (acR K (i + 1)).1 = true := by cases q : (acR K (i + 1)).1; exact absurd q h2; rfl
      clear h h2
      unfold acR at h4
      by_cases g1 : K (i + 1) = 43 ∨ K (i + 1) = 45 ∨ K (i + 1) = 94
      · rw [if_pos g1] at h4
        left
        unfold rgR at h4
        by_cases q1 : K (i + 1 + 1) ≠ 3
        · rw [if_pos q1] at h4; exact Bool.noConfusion h4
        · rw [if_neg q1] at h4
          by_cases q2 : K (i + 1 + 1 + 1) ≠ 4
          · exact ⟨g1, by show K (i + 1 + 1) = 3; omega, fun z => absurd z q2⟩
          · rw [if_neg q2] at h4
            by_cases q3 : K (i + 1 + 1 + 2) ≠ 3
            · rw [if_pos q3] at h4; exact Bool.noConfusion h4
            · exact ⟨g1, by show K (i + 1 + 1) = 3; omega, fun _ => by show K (i + 1 + 1 + 2) = 3; omega⟩
      · rw [if_neg g1] at h4
        right
        by_cases g2 : K (i + 1) = 61 ∧ K (i + 1 + 1) = 91
        · rw [if_pos g2] at h4
          left
          have hL : isL K i = true := isL_t g2
          refine ⟨hL, ?_⟩
          have hs : slc K i = roN K (i + 3) := by unfold slc; rw [hL]; rfl
          rw [hs]
          have h5 : (roR K (i + 3)).1 = true := h4
          unfold roR at h5
          unfold roN
          by_cases g3 : K (i + 3) = 93
          · rw [if_pos g3]; intro k hk; exact absurd hk (Nat.not_lt_zero _)
          · rw [if_neg g3] at h5 ⊢
            exact liR_K3 400 (i + 3) h5
        · rw [if_neg g2] at h4
          right
          have hL : isL K i = false := isL_f g2
          by_cases g3 : K (i + 1) = 38 ∨ K (i + 1) = 124 ∨ K (i + 1) = 126 ∨ K (i + 1) = 33 ∨ K (i + 1) = 61
          · rw [if_pos g3] at h4
            unfold seR at h4
            by_cases q1 : K (i + 1 + 1) ≠ 2
            · rw [if_pos q1] at h4; exact Bool.noConfusion h4
            · exact ⟨hL, g3, by show K (i + 1 + 1) = 2; omega⟩
          · rw [if_neg g3] at h4; exact Bool.noConfusion h4
theorem tV_2 {t : Nat → Nat} {n j : Nat} (h : tK t n j = 2) : tV t n j < 8 := by
  unfold tK kd at h
  unfold tV vl
  by_cases h1 : n ≤ tS t n j
  · rw [if_pos h1] at h; omega
  · rw [if_neg h1] at h
    rcases zb_tf (dg (t (tS t n j))) with h2 | h2
    · rw [if_pos h2] at h
      revert h
      split <;> omega
    · have hd : ¬ dg (t (tS t n j)) = true := by rw [h2]; decide
      rw [if_neg hd] at h ⊢
      by_cases h3 : 97 ≤ t (tS t n j) ∧ t (tS t n j) ≤ 104
      · omega
      · rw [if_neg h3] at h
        exfalso
        revert h
        split
        · omega
        · split
          · rename_i h5
            have := sg_pos h5
            omega
          · omega
theorem tV_3 {t : Nat → Nat} {n j : Nat} (h : tK t n j = 3) : tV t n j < 1024 := by
  unfold tK kd at h
  unfold tV vl
  by_cases h1 : n ≤ tS t n j
  · rw [if_pos h1] at h; omega
  · rw [if_neg h1] at h
    rcases zb_tf (dg (t (tS t n j))) with h2 | h2
    · rw [if_pos h2] at h ⊢
      by_cases h3 : dr t n (tS t n j) ≤ 4 ∧ nv t (tS t n j) (dr t n (tS t n j)) < 1024
      · exact h3.2
      · rw [if_neg h3] at h; omega
    · have hd : ¬ dg (t (tS t n j)) = true := by rw [h2]; decide
      rw [if_neg hd] at h
      exfalso
      revert h
      split
      · omega
      · split
        · omega
        · split
          · rename_i h5
            have := sg_pos h5
            omega
          · omega
theorem pq_conv {A B : Prop} {a b : Nat} {x : Bool} (hx : x = decide (b < a)) : ((a ≤ b → A) ∧ (b < a → B)) ↔ ((x = false → A) ∧ (x = true → B)) := by
  subst hx
  by_cases h : b < a
  · have h2 : ¬ a ≤ b := by omega
    simp [h, h2]
  · have h2 : a ≤ b := by omega
    simp [h, h2]
theorem pq_one {A B : Prop} {x : Bool} (hx : x = false) : A ↔ ((x = false → A) ∧ (x = true → B)) := by
  subst hx
  simp
theorem RMi_iff {l : Launch} {y : MethodName} {ws : List Cond} {rm : Room} {D : va_G} {C : Nat → ClassId} {K : Nat → Nat} {As : List Value} {F : Nat → Int32} {hs mv : Nat → Bool} {G : Nat → Nat → Int32} {p1 p2 : Int32 → MSt → Prop} (h : ∀ r u, p1 r u ↔ p2 r u) (q : RMi l y ws rm D C K As F hs mv G p1) : RMi l y ws rm D C K As F hs mv G p2 := (funext fun r => funext fun u => propext (h r u) : p1 = p2) ▸ q
theorem pJ_sg {sg : Nat} (f : Nat → Bool) : True := trivial

theorem kt_X7_isDone (l : Launch) (D : va_G) (C : Nat → ClassId) (K : Nat → Nat) (hAp : RAp K) (F : Nat → Int32) (hs mv : Nat → Bool) (G : Nat → Nat → Int32) (KK : Nat → Nat) (VV : Nat → Nat) (m0 : Nat) (k0 : Nat) (hTB : TBL KK VV m0 (G 9) (G 10) (G 11) (G 12) (G 13)) (hok : okS KK m0) (hk : k0 < m0) (hm : m0 ≤ 100) (hV2 : ∀ j, KK j = 2 → VV j < 8) (hV3 : ∀ j, KK j = 3 → VV j < 1024) (hsC : sC KK m0 ≤ 200) : RMi l yX7_isDone wsX7_isDone rm_X7_isDone D C K [.int (nI k0)] F hs mv G (fun (r : Int32) (u : MSt) => (isB KK VV (sC KK k0) (sI KK k0) = false → r = (bI true) ∧ u = (F, exS KK VV hs (sC KK k0) (sI KK k0), mv, G)) ∧ (isB KK VV (sC KK k0) (sI KK k0) = true → r = (bI false) ∧ u = (F, hs, mv, G))) := by
  obtain ⟨e9, e10, e11, e12⟩ := hTB.1 k0 hk
  have elv := hTB.2 k0 hk
  obtain ⟨h2, hst⟩ := stR_ok (hok k0 hk).2
  have hsm := sC_mono (K := KK) hk
  generalize sI KK k0 = i at e9 e10 e11 e12 elv h2 hst hsm ⊢
  generalize sC KK k0 = c at e9 e10 e11 e12 elv h2 hst hsm ⊢
  have hk0 : k0 < 100 := by omega
  have hs0 := hV2 _ h2
  rcases hst with ⟨hr, h3, h4⟩ | ⟨hL, hl3⟩ | ⟨hL, hs5, hst2⟩
  · have hL : isL KK i = false := isL_f (fun z => by omega)
    have hsf : sfi KK VV c i = VV (i + 2) := by unfold sfi; rw [hL]; rfl
    have hsa : sac KK i = KK (i + 1) := by unfold sac; rw [hL]; rfl
    have ha := hV3 _ h3
    have e12 := e12 (Or.inl hr)
    unfold rS at e12
    rw [hL] at e12
    rw [hsf] at e11
    rw [hsa] at e10
    have hB : isB KK VV c i = decide (sse KK VV c i < VV (i + 2)) := by
      unfold isB
      exact decide_eq_decide.mpr ⟨fun z => z.2, fun z => ⟨hr, z⟩⟩
    have hse : sse KK VV c i = if KK (i + 3) = 4 then VV (i + 4) else VV (i + 2) + 1 := by
      unfold sse
      rw [hL, if_neg (by decide), if_pos hr]
    by_cases h34 : KK (i + 3) = 4
    · rw [if_pos h34] at hse
      have e12' : G 12 k0 = nI (VV (i + 4)) := by rw [e12, if_neg (by decide), if_pos h34]
      have hb := hV3 _ (h4 h34)
      rcases hr with hr | hr | hr
      · rw [hr] at e10
        have hX : exS KK VV hs c i = sS hs (VV i) (pR (hM hs (VV i)) (VV (i + 2)) (VV (i + 4)) true) := by
          unfold exS; rw [if_pos hr, hse]
        rw [hX]
        exact RMi_iff (fun r u => pq_conv (by rw [hB, hse])) (kt_X7_isDone_43_2 l D C K hAp F hs mv G k0 (VV i) (VV (i + 2)) (VV (i + 4)) hk0 hs0 e9 e11 e10 ⟨ha, by omega⟩ e12')
      · rw [hr] at e10
        have hX : exS KK VV hs c i = sS hs (VV i) (pR (hM hs (VV i)) (VV (i + 2)) (VV (i + 4)) false) := by
          unfold exS; rw [if_neg (show ¬ KK (i + 1) = 43 by omega)]; rw [if_pos hr, hse]
        rw [hX]
        exact RMi_iff (fun r u => pq_conv (by rw [hB, hse])) (kt_X7_isDone_45_2 l D C K hAp F hs mv G k0 (VV i) (VV (i + 2)) (VV (i + 4)) hk0 hs0 e9 e11 e10 ⟨ha, by omega⟩ e12')
      · rw [hr] at e10
        have hX : exS KK VV hs c i = sS hs (VV i) (pX (hM hs (VV i)) (VV (i + 2)) (VV (i + 4))) := by
          unfold exS; rw [if_neg (show ¬ KK (i + 1) = 43 by omega)]; rw [if_neg (show ¬ KK (i + 1) = 45 by omega)]; rw [if_pos hr, hse]
        rw [hX]
        exact RMi_iff (fun r u => pq_conv (by rw [hB, hse])) (kt_X7_isDone_94_2 l D C K hAp F hs mv G k0 (VV i) (VV (i + 2)) (VV (i + 4)) hk0 hs0 e9 e11 e10 ⟨ha, by omega⟩ e12')
    · rw [if_neg h34] at hse
      have e12' : G 12 k0 = -1 := by rw [e12, if_neg (by decide), if_neg h34]
      rcases hr with hr | hr | hr
      · rw [hr] at e10
        have hX : exS KK VV hs c i = sS hs (VV i) (pR (hM hs (VV i)) (VV (i + 2)) (VV (i + 2) + 1) true) := by
          unfold exS; rw [if_pos hr, hse]
        rw [hX]
        exact RMi_iff (fun r u => pq_conv (by rw [hB, hse])) (kt_X7_isDone_43_1 l D C K hAp F hs mv G k0 (VV i) (VV (i + 2)) (VV (i + 2) + 1) hk0 hs0 e9 e11 e10 ⟨ha, by omega⟩ e12' rfl)
      · rw [hr] at e10
        have hX : exS KK VV hs c i = sS hs (VV i) (pR (hM hs (VV i)) (VV (i + 2)) (VV (i + 2) + 1) false) := by
          unfold exS; rw [if_neg (show ¬ KK (i + 1) = 43 by omega)]; rw [if_pos hr, hse]
        rw [hX]
        exact RMi_iff (fun r u => pq_conv (by rw [hB, hse])) (kt_X7_isDone_45_1 l D C K hAp F hs mv G k0 (VV i) (VV (i + 2)) (VV (i + 2) + 1) hk0 hs0 e9 e11 e10 ⟨ha, by omega⟩ e12' rfl)
      · rw [hr] at e10
        have hX : exS KK VV hs c i = sS hs (VV i) (pX (hM hs (VV i)) (VV (i + 2)) (VV (i + 2) + 1)) := by
          unfold exS; rw [if_neg (show ¬ KK (i + 1) = 43 by omega)]; rw [if_neg (show ¬ KK (i + 1) = 45 by omega)]; rw [if_pos hr, hse]
        rw [hX]
        exact RMi_iff (fun r u => pq_conv (by rw [hB, hse])) (kt_X7_isDone_94_1 l D C K hAp F hs mv G k0 (VV i) (VV (i + 2)) (VV (i + 2) + 1) hk0 hs0 e9 e11 e10 ⟨ha, by omega⟩ e12' rfl)
  · have hl1 : KK (i + 1) = 61 ∧ KK (i + 2) = 91 := of_decide_eq_true hL
    have hsf : sfi KK VV c i = c := by unfold sfi; rw [hL]; rfl
    have hsa : sac KK i = 91 := by unfold sac; rw [hL]; rfl
    have e12 := e12 (Or.inr hL)
    unfold rS at e12
    rw [hL] at e12
    rw [hsf] at e11
    rw [hsa] at e10
    have hB : isB KK VV c i = false := decide_eq_false (fun z => by omega)
    have hX : exS KK VV hs c i = sS hs (VV i) (pLv (fun j => VV (i + 3 + 2 * j)) (slc KK i)) := by
      unfold exS
      rw [if_neg (by omega), if_neg (by omega), if_neg (by omega), if_pos hL]
    rw [hX]
    exact RMi_iff (fun r u => pq_one hB) (kt_X7_isDone_91 l D C K hAp F hs mv G k0 (VV i) c (slc KK i) (fun j => VV (i + 3 + 2 * j)) hk0 hs0 e9 e11 e10 e12 (by omega) (fun j hj => ⟨elv j hj, hV3 _ (hl3 j hj)⟩))
  · have hsf : sfi KK VV c i = VV (i + 2) := by unfold sfi; rw [hL]; rfl
    have hsa : sac KK i = KK (i + 1) := by unfold sac; rw [hL]; rfl
    rw [hsf] at e11
    rw [hsa] at e10
    have hB : isB KK VV c i = false := decide_eq_false (fun z => by omega)
    have ho := hV2 _ hst2
    have hX : exS KK VV hs c i = sS hs (VV i) (fun j => pJ (KK (i + 1)) (hM hs (VV i) j) (hM hs (VV (i + 2)) j)) := by
      unfold exS
      rw [if_neg (by omega), if_neg (by omega), if_neg (by omega), if_neg (by rw [hL]; decide)]
    rw [hX]
    rcases hs5 with z | z | z | z | z
    · rw [z] at e10 ⊢
      exact RMi_iff (fun r u => pq_one hB) (kt_X7_isDone_38 l D C K hAp F hs mv G k0 (VV i) (VV (i + 2)) hk0 hs0 e9 e11 e10 ho)
    · rw [z] at e10 ⊢
      exact RMi_iff (fun r u => pq_one hB) (kt_X7_isDone_124 l D C K hAp F hs mv G k0 (VV i) (VV (i + 2)) hk0 hs0 e9 e11 e10 ho)
    · rw [z] at e10 ⊢
      exact RMi_iff (fun r u => pq_one hB) (kt_X7_isDone_126 l D C K hAp F hs mv G k0 (VV i) (VV (i + 2)) hk0 hs0 e9 e11 e10 ho)
    · rw [z] at e10 ⊢
      exact RMi_iff (fun r u => pq_one hB) (kt_X7_isDone_33 l D C K hAp F hs mv G k0 (VV i) (VV (i + 2)) hk0 hs0 e9 e11 e10 ho)
    · rw [z] at e10 ⊢
      exact RMi_iff (fun r u => pq_one hB) (kt_X7_isDone_61 l D C K hAp F hs mv G k0 (VV i) (VV (i + 2)) hk0 hs0 e9 e11 e10 ho)
