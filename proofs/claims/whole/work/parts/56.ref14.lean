theorem TBL_cong {K V : Nat → Nat} {m : Nat} {g9 g10 g11 g12 g13 a9 a10 a11 a12 a13 : Nat → Int32} (h : TBL K V m g9 g10 g11 g12 g13) (hk : ∀ k, k < m → a9 k = g9 k ∧ a10 k = g10 k ∧ a11 k = g11 k ∧ a12 k = g12 k) (hl : ∀ k, k < sC K m → a13 k = g13 k) : TBL K V m a9 a10 a11 a12 a13 := by
  refine ⟨fun k hk2 => ?_, fun k hk2 j hj2 => ?_⟩
  · have e := hk k hk2
    have := h.1 k hk2
    rw [e.1, e.2.1, e.2.2.1, e.2.2.2]
    exact this
  · have := sC_mono (K := K) hk2
    rw [hl _ (by omega)]
    exact h.2 k hk2 j hj2

/-! Statements done. -/
/-- the first n of the numbers lv -/
def pLv (lv : Nat → Nat) : Nat → Nat → Bool
  | 0, _ => false
  | n + 1, j => pLv lv n j || j == lv n
def exS (K V : Nat → Nat) (hs : Nat → Bool) (c i : Nat) : Nat → Bool := if K (i + 1) = 43 then sS hs (V i) (pR (hM hs (V i)) (V (i + 2)) (sse K V c i) true) else if K (i + 1) = 45 then sS hs (V i) (pR (hM hs (V i)) (V (i + 2)) (sse K V c i) false) else if K (i + 1) = 94 then sS hs (V i) (pX (hM hs (V i)) (V (i + 2)) (sse K V c i)) else if isL K i then sS hs (V i) (pLv (fun j => V (i + 3 + 2 * j)) (slc K i)) else sS hs (V i) (fun j => pJ (K (i + 1)) (hM hs (V i) j) (hM hs (V (i + 2)) j))
/-- its numbers are no range -/
def isB (K V : Nat → Nat) (c i : Nat) : Bool := decide ((K (i + 1) = 43 ∨ K (i + 1) = 45 ∨ K (i + 1) = 94) ∧ sse K V c i < V (i + 2))
def hX (K V : Nat → Nat) (hs : Nat → Bool) : Nat → Nat → Bool
  | 0 => hs
  | m + 1 => exS K V (hX K V hs m) (sC K m) (sI K m)
/-- k statements of m are done, the next one stops or there is none -/
def stp (K V : Nat → Nat) (m k : Nat) : Prop := k ≤ m ∧ (∀ j, j < k → isB K V (sC K j) (sI K j) = false) ∧ (k < m → isB K V (sC K k) (sI K k) = true)
theorem stp_ex (K V : Nat → Nat) (m : Nat) : ∃ k, stp K V m k := by
  have key : ∀ d k, m - k ≤ d → k ≤ m → (∀ j, j < k → isB K V (sC K j) (sI K j) = false) → ∃ k, stp K V m k := by
    intro d
    induction d with
    | zero => intro k h1 h2 h3; exact ⟨k, h2, h3, fun h => by omega⟩
    | succ d ih =>
      intro k h1 h2 h3
      rcases Nat.lt_or_ge k m with z | z
      · rcases zb_tf (isB K V (sC K k) (sI K k)) with y | y
        · exact ⟨k, h2, h3, fun _ => y⟩
        · exact ih (k + 1) (by omega) z (fun j hj => by
            rcases Nat.lt_or_ge j k with x | x
            · exact h3 j x
            · rw [show j = k by omega]; exact y)
      · exact ⟨k, h2, h3, fun h => by omega⟩
  exact key m 0 (by omega) (Nat.zero_le _) (fun j hj => by omega)
theorem okS_ex {K : Nat → Nat} {n : Nat} (hn : ∀ i, K i ≠ 0 → i < n) : ∃ m, okS K m ∧ (K (sI K m) = 0 ∨ (stR K (sI K m)).1 = false) := by
  have key : ∀ d m, n - 4 * m ≤ d → okS K m → ∃ m, okS K m ∧ (K (sI K m) = 0 ∨ (stR K (sI K m)).1 = false) := by
    intro d
    induction d with
    | zero =>
      intro m h1 h2
      have hg := sI_ge m h2
      rcases Nat.eq_zero_or_pos (K (sI K m)) with z | z
      · exact ⟨m, h2, Or.inl z⟩
      · have := hn (sI K m) (by omega)
        omega
    | succ d ih =>
      intro m h1 h2
      have hg := sI_ge m h2
      rcases Nat.eq_zero_or_pos (K (sI K m)) with z | z
      · exact ⟨m, h2, Or.inl z⟩
      · have hlt := hn (sI K m) (by omega)
        rcases zb_tf (stR K (sI K m)).1 with y | y
        · exact ih (m + 1) (by omega) (okS_up h2 (by omega) y)
        · exact ⟨m, h2, Or.inr y⟩
  exact key n 0 (by omega) (fun k hk => absurd hk (Nat.not_lt_zero _))
theorem sF_upL {hs hs1 : Nat → Bool} {s n : Nat} {lv : Nat → Nat} (hh : hs1 = sS hs s (pLv lv n)) (hl : lv n < 1024) : va_up hs1 (1024 * s + lv n) true = sS hs s (pLv lv (n + 1)) := by
  rw [p1_up hl, hh, sS_sS]
  refine sS_cong (fun j hj => ?_)
  unfold p1
  show (if j = lv n then true else hM (sS hs s (pLv lv n)) s j) = (pLv lv n j || j == lv n)
  rw [hM_sS hj]
  by_cases z : j = lv n
  · rw [if_pos z, z]; simp
  · rw [if_neg z]
    have : (j == lv n) = false := by simp [z]
    rw [this, Bool.or_false]

abbrev rm_X7_isDone : Room := { frames := 2, cells := 0, slots := 0, locals := 49 }
theorem yd_X7_isDone : yX7_isDone.cls = RX7 ∧ yX7_isDone.cls ≠ "java/lang/invoke/MethodHandle" ∧ yX7_isDone.cls ≠ "java/lang/invoke/VarHandle" ∧ (parseMethodDescriptor yX7_isDone.desc).map (fun d => d.parameters.length) = some 1 := by decide +kernel
set_option maxHeartbeats 4000000 in
set_option maxRecDepth 100000 in
theorem kt_X7_isDone_43_1 (l : Launch) (D : va_G) (C : Nat → ClassId) (K : Nat → Nat) (hAp : RAp K) (F : Nat → Int32) (hs mv : Nat → Bool) (G : Nat → Nat → Int32) (k0 : Nat) (s0 : Nat) (a0 : Nat) (b0 : Nat) (hk0 : k0 < 100) (hs0 : s0 < 8) (h9 : G 9 k0 = nI s0) (h11 : G 11 k0 = nI a0) (h10 : G 10 k0 = nI 43) (hab : a0 < 1024 ∧ b0 ≤ 1024) (h12 : G 12 k0 = -1) (hb0 : b0 = a0 + 1) : RMi l yX7_isDone wsX7_isDone rm_X7_isDone D C K [.int (nI k0)] F hs mv G (fun (r : Int32) (u : MSt) => (a0 ≤ b0 → r = (bI true) ∧ u = (F, sS hs s0 (pR (hM hs s0) a0 b0 true), mv, G)) ∧ (b0 < a0 → r = (bI false) ∧ u = (F, hs, mv, G))) := by
  refine RMi_of (lv := [(0, .ref (K 0)), (1, .int (nI k0))]) (cc := cX7_isDone) (maxL := 6) (ret := (some .boolean)) rfl rfl (by decide +kernel) (Nat.le_of_ble_eq_true rfl) rfl ?_
  intro p e s m args below meth c X hml hr hlk
  generalize hQ : MQ below _ args s 0 0 _ = Q
  refine zz_aload_n 0 X.1 0 dX7_isDone_0 rfl ?_
  refine rr_get 1 X 9 (by decide) (v := .ref (K 9)) rfl (by decide +kernel) rfl dX7_isDone_1 ?_
  refine zz_iload_n 4 X.1 1 dX7_isDone_4 rfl ?_
  refine rr_iald 5 X 3 9 (len := 100) (f := G 9) rfl (by omega) (by decide) dX7_isDone_5 ?_
  refine zz_topi (nI s0) (h9) ?_
  refine zz_istore_n 6 X.1 (lv' := [(2, .int (nI s0)), (0, .ref (K 0)), (1, .int (nI k0))]) dX7_isDone_6 (by decide) rfl ?_
  refine zz_aload_n 7 X.1 1 dX7_isDone_7 rfl ?_
  refine rr_get 8 X 10 (by decide) (v := .ref (K 10)) rfl (by decide +kernel) rfl dX7_isDone_8 ?_
  refine zz_iload_n 11 X.1 2 dX7_isDone_11 rfl ?_
  refine rr_iald 12 X 4 10 (len := 100) (f := G 10) rfl (by omega) (by decide) dX7_isDone_12 ?_
  refine zz_topi (nI 43) (h10) ?_
  refine zz_istore_n 13 X.1 (lv' := [(3, .int (nI 43)), (2, .int (nI s0)), (0, .ref (K 0)), (1, .int (nI k0))]) dX7_isDone_13 (by decide) rfl ?_
  refine zz_iload_n 14 X.1 0 dX7_isDone_14 rfl ?_
  refine zz_bipush 15 X.1 (v := nI 43) dX7_isDone_15 rfl ?_
  refine zz_icmp_eq 17 32 X.1 (nI_toInt (by omega)) (nI_toInt (by omega)) dX7_isDone_17 (by decide) (fun h17 => ?_) (fun h17 => ?_)
  · skip
    refine zz_aload_n 32 X.1 2 dX7_isDone_32 rfl ?_
    refine rr_get 33 X 12 (by decide) (v := .ref (K 12)) rfl (by decide +kernel) rfl dX7_isDone_33 ?_
    refine zz_iload_n 36 X.1 3 dX7_isDone_36 rfl ?_
    refine rr_iald 37 X 6 12 (len := 100) (f := G 12) rfl (by omega) (by decide) dX7_isDone_37 ?_
    refine zz_topi (-1) (h12) ?_
    refine zz_iconst 38 X.1 (v := (-1)) dX7_isDone_38 (by decide) ?_
    refine zz_icmp_ne 39 53 X.1 (by decide : (-1 : Int32).toInt = -1) (by decide : (-1 : Int32).toInt = -1) dX7_isDone_39 (by decide) (fun h39 => ?_) (fun h39 => ?_)
    · exfalso; omega
    · skip
      refine zz_aload_n 42 X.1 2 dX7_isDone_42 rfl ?_
      refine rr_get 43 X 11 (by decide) (v := .ref (K 11)) rfl (by decide +kernel) rfl dX7_isDone_43 ?_
      refine zz_iload_n 46 X.1 3 dX7_isDone_46 rfl ?_
      refine rr_iald 47 X 5 11 (len := 100) (f := G 11) rfl (by omega) (by decide) dX7_isDone_47 ?_
      refine zz_topi (nI a0) (h11) ?_
      refine zz_iconst 48 X.1 (v := nI 1) dX7_isDone_48 rfl ?_
      refine zz_iadd 49 X.1 (v := (nI (a0 + 1))) dX7_isDone_49 (nI_add _ _) ?_
      refine zz_topi (nI b0) ((congrArg nI hb0.symm)) ?_
      refine zz_goto 50 59 X.1 dX7_isDone_50 (by decide) ?_
      refine zz_istore 59 X.1 (lv' := [(4, .int (nI b0)), (3, .int (nI 43)), (2, .int (nI s0)), (0, .ref (K 0)), (1, .int (nI k0))]) dX7_isDone_59 (by decide) rfl ?_
      refine zz_aload_n 61 X.1 3 dX7_isDone_61 rfl ?_
      refine rr_get 62 X 11 (by decide) (v := .ref (K 11)) rfl (by decide +kernel) rfl dX7_isDone_62 ?_
      refine zz_iload_n 65 X.1 4 dX7_isDone_65 rfl ?_
      refine rr_iald 66 X 5 11 (len := 100) (f := G 11) rfl (by omega) (by decide) dX7_isDone_66 ?_
      refine zz_topi (nI a0) (h11) ?_
      refine zz_iload 67 X.1 0 dX7_isDone_67 rfl ?_
      refine zz_icmp_le 69 74 X.1 (nI_toInt (by omega)) (nI_toInt (by omega)) dX7_isDone_69 (by decide) (fun h69 => ?_) (fun h69 => ?_)
      · skip
        refine zz_aload_n 74 X.1 3 dX7_isDone_74 rfl ?_
        refine rr_get 75 X 11 (by decide) (v := .ref (K 11)) rfl (by decide +kernel) rfl dX7_isDone_75 ?_
        refine zz_iload_n 78 X.1 4 dX7_isDone_78 rfl ?_
        refine rr_iald 79 X 5 11 (len := 100) (f := G 11) rfl (by omega) (by decide) dX7_isDone_79 ?_
        refine zz_topi (nI a0) (h11) ?_
        refine zz_istore 80 X.1 (lv' := [(5, .int (nI a0)), (4, .int (nI b0)), (3, .int (nI 43)), (2, .int (nI s0)), (0, .ref (K 0)), (1, .int (nI k0))]) dX7_isDone_80 (by decide) rfl ?_
        have C82 : ∀ (d : Nat) (i : Nat) (hs1 : Nat → Bool) (hi : a0 ≤ i ∧ i ≤ b0) (hh : hs1 = sF hs s0 (pR (hM hs s0) a0 b0 true) i) (hd : b0 - i < d), ZZ p l e rm_X7_isDone s m args below meth c 0 0 Q (zz_A (RAd K) s.heap.size) (RP D C K F hs1 mv G) 6 [(0, .ref (K 0)), (2, .int (nI s0)), (3, .int (nI 43)), (4, .int (nI b0)), (5, .int (nI i))] [] 82 := by
          intro d
          induction d with
          | zero => intro i hs1 hi hh hd; exact absurd hd (Nat.not_lt_zero _)
          | succ d ih82 =>
            intro i hs1 hi hh hd
            have ea : hM hs s0 i = hs1 (1024 * s0 + i) := by rw [hh, sF_rd (Nat.le_refl _)]; rfl
            refine zz_iload 82 X.1 4 dX7_isDone_82 rfl ?_
            refine zz_iload 84 X.1 3 dX7_isDone_84 rfl ?_
            refine zz_icmp_ge 86 141 X.1 (nI_toInt (by omega)) (nI_toInt (by omega)) dX7_isDone_86 (by decide) (fun h86 => ?_) (fun h86 => ?_)
            · skip
              refine rr_hs (hs' := sS hs s0 (pR (hM hs s0) a0 b0 true)) (hh.trans (puts_end (by omega) (by omega))) ?_
              refine zz_goto 141 217 X.1 dX7_isDone_141 (by decide) ?_
              refine zz_iconst 217 X.1 (v := nI 1) dX7_isDone_217 rfl ?_
              refine zz_topi (bI true) rfl ?_
              rw [← hQ]
              refine zz_iret 218 X.1 hr (bI_nar _) hlk (F, sS hs s0 (pR (hM hs s0) a0 b0 true), mv, G) ?_ (fun _ h _ => h) dX7_isDone_218
              refine ⟨fun hc => ?_, fun hc => ?_⟩ <;> first | (exfalso; omega) | (exact ⟨rfl, rfl⟩)
            · skip
              refine zz_aload_n 89 X.1 0 dX7_isDone_89 rfl ?_
              refine rr_get 90 X 1 (by decide) (v := .ref (K 1)) rfl (by decide +kernel) rfl dX7_isDone_90 ?_
              refine zz_sipush 93 X.1 (v := nI 1024) dX7_isDone_93 rfl ?_
              refine zz_iload_n 96 X.1 1 dX7_isDone_96 rfl ?_
              refine zz_imul 97 X.1 (v := (nI (1024 * s0))) dX7_isDone_97 (pk_mul _ _) ?_
              refine zz_iload 98 X.1 4 dX7_isDone_98 rfl ?_
              refine zz_iadd 100 X.1 (v := (nI ((1024 * s0) + i))) dX7_isDone_100 (nI_add _ _) ?_
              refine zz_iload_n 101 X.1 2 dX7_isDone_101 rfl ?_
              refine zz_bipush 102 X.1 (v := nI 43) dX7_isDone_102 rfl ?_
              refine zz_icmp_eq 104 129 X.1 (nI_toInt (by omega)) (nI_toInt (by omega)) dX7_isDone_104 (by decide) (fun h104 => ?_) (fun h104 => ?_)
              · skip
                refine zz_iconst 129 X.1 (v := nI 1) dX7_isDone_129 rfl ?_
                refine zz_goto 130 134 X.1 dX7_isDone_130 (by decide) ?_
                refine zz_topi (bI true) rfl ?_
                refine rr_hst 134 hAp X (by omega) dX7_isDone_134 ?_
                refine zz_iinc 135 X.1 4 (v := (nI (i + 1))) (lv' := [(5, .int (nI (i + 1))), (0, .ref (K 0)), (2, .int (nI s0)), (3, .int (nI 43)), (4, .int (nI b0))]) dX7_isDone_135 rfl (nI_add i 1) (by decide) rfl ?_
                refine zz_goto 138 82 X.1 dX7_isDone_138 (by decide) ?_
                refine zz_lvs [1, 2, 3, 4, 0] rfl ?_
                exact ih82 (i + 1) (va_up hs1 ((1024 * s0) + i) true) (by omega) (sF_up2 hh (pR_in (by omega) (by omega))) (by omega)
              · exfalso; omega
        refine zz_lvs [4, 3, 2, 1, 0] rfl ?_
        exact C82 (b0 - a0 + 1) a0 hs (by omega) (puts_begin) (Nat.lt_succ_self _)
      · skip
        refine zz_iconst 72 X.1 (v := nI 0) dX7_isDone_72 rfl ?_
        refine zz_topi (bI false) rfl ?_
        rw [← hQ]
        refine zz_iret 73 X.1 hr (bI_nar _) hlk (F, hs, mv, G) ?_ (fun _ h _ => h) dX7_isDone_73
        refine ⟨fun hc => ?_, fun hc => ?_⟩ <;> first | (exfalso; omega) | (exact ⟨rfl, rfl⟩)
  · exfalso; omega

set_option maxHeartbeats 4000000 in
set_option maxRecDepth 100000 in
theorem kt_X7_isDone_43_2 (l : Launch) (D : va_G) (C : Nat → ClassId) (K : Nat → Nat) (hAp : RAp K) (F : Nat → Int32) (hs mv : Nat → Bool) (G : Nat → Nat → Int32) (k0 : Nat) (s0 : Nat) (a0 : Nat) (b0 : Nat) (hk0 : k0 < 100) (hs0 : s0 < 8) (h9 : G 9 k0 = nI s0) (h11 : G 11 k0 = nI a0) (h10 : G 10 k0 = nI 43) (hab : a0 < 1024 ∧ b0 ≤ 1024) (h12 : G 12 k0 = nI b0) : RMi l yX7_isDone wsX7_isDone rm_X7_isDone D C K [.int (nI k0)] F hs mv G (fun (r : Int32) (u : MSt) => (a0 ≤ b0 → r = (bI true) ∧ u = (F, sS hs s0 (pR (hM hs s0) a0 b0 true), mv, G)) ∧ (b0 < a0 → r = (bI false) ∧ u = (F, hs, mv, G))) := by
  refine RMi_of (lv := [(0, .ref (K 0)), (1, .int (nI k0))]) (cc := cX7_isDone) (maxL := 6) (ret := (some .boolean)) rfl rfl (by decide +kernel) (Nat.le_of_ble_eq_true rfl) rfl ?_
  intro p e s m args below meth c X hml hr hlk
  generalize hQ : MQ below _ args s 0 0 _ = Q
  refine zz_aload_n 0 X.1 0 dX7_isDone_0 rfl ?_
  refine rr_get 1 X 9 (by decide) (v := .ref (K 9)) rfl (by decide +kernel) rfl dX7_isDone_1 ?_
  refine zz_iload_n 4 X.1 1 dX7_isDone_4 rfl ?_
  refine rr_iald 5 X 3 9 (len := 100) (f := G 9) rfl (by omega) (by decide) dX7_isDone_5 ?_
  refine zz_topi (nI s0) (h9) ?_
  refine zz_istore_n 6 X.1 (lv' := [(2, .int (nI s0)), (0, .ref (K 0)), (1, .int (nI k0))]) dX7_isDone_6 (by decide) rfl ?_
  refine zz_aload_n 7 X.1 1 dX7_isDone_7 rfl ?_
  refine rr_get 8 X 10 (by decide) (v := .ref (K 10)) rfl (by decide +kernel) rfl dX7_isDone_8 ?_
  refine zz_iload_n 11 X.1 2 dX7_isDone_11 rfl ?_
  refine rr_iald 12 X 4 10 (len := 100) (f := G 10) rfl (by omega) (by decide) dX7_isDone_12 ?_
  refine zz_topi (nI 43) (h10) ?_
  refine zz_istore_n 13 X.1 (lv' := [(3, .int (nI 43)), (2, .int (nI s0)), (0, .ref (K 0)), (1, .int (nI k0))]) dX7_isDone_13 (by decide) rfl ?_
  refine zz_iload_n 14 X.1 0 dX7_isDone_14 rfl ?_
  refine zz_bipush 15 X.1 (v := nI 43) dX7_isDone_15 rfl ?_
  refine zz_icmp_eq 17 32 X.1 (nI_toInt (by omega)) (nI_toInt (by omega)) dX7_isDone_17 (by decide) (fun h17 => ?_) (fun h17 => ?_)
  · skip
    refine zz_aload_n 32 X.1 2 dX7_isDone_32 rfl ?_
    refine rr_get 33 X 12 (by decide) (v := .ref (K 12)) rfl (by decide +kernel) rfl dX7_isDone_33 ?_
    refine zz_iload_n 36 X.1 3 dX7_isDone_36 rfl ?_
    refine rr_iald 37 X 6 12 (len := 100) (f := G 12) rfl (by omega) (by decide) dX7_isDone_37 ?_
    refine zz_topi (nI b0) (h12) ?_
    refine zz_iconst 38 X.1 (v := (-1)) dX7_isDone_38 (by decide) ?_
    refine zz_icmp_ne 39 53 X.1 (nI_toInt (by omega)) (by decide : (-1 : Int32).toInt = -1) dX7_isDone_39 (by decide) (fun h39 => ?_) (fun h39 => ?_)
    · skip
      refine zz_aload_n 53 X.1 2 dX7_isDone_53 rfl ?_
      refine rr_get 54 X 12 (by decide) (v := .ref (K 12)) rfl (by decide +kernel) rfl dX7_isDone_54 ?_
      refine zz_iload_n 57 X.1 3 dX7_isDone_57 rfl ?_
      refine rr_iald 58 X 6 12 (len := 100) (f := G 12) rfl (by omega) (by decide) dX7_isDone_58 ?_
      refine zz_topi (nI b0) (h12) ?_
      refine zz_istore 59 X.1 (lv' := [(4, .int (nI b0)), (3, .int (nI 43)), (2, .int (nI s0)), (0, .ref (K 0)), (1, .int (nI k0))]) dX7_isDone_59 (by decide) rfl ?_
      refine zz_aload_n 61 X.1 3 dX7_isDone_61 rfl ?_
      refine rr_get 62 X 11 (by decide) (v := .ref (K 11)) rfl (by decide +kernel) rfl dX7_isDone_62 ?_
      refine zz_iload_n 65 X.1 4 dX7_isDone_65 rfl ?_
      refine rr_iald 66 X 5 11 (len := 100) (f := G 11) rfl (by omega) (by decide) dX7_isDone_66 ?_
      refine zz_topi (nI a0) (h11) ?_
      refine zz_iload 67 X.1 0 dX7_isDone_67 rfl ?_
      refine zz_icmp_le 69 74 X.1 (nI_toInt (by omega)) (nI_toInt (by omega)) dX7_isDone_69 (by decide) (fun h69 => ?_) (fun h69 => ?_)
      · skip
        refine zz_aload_n 74 X.1 3 dX7_isDone_74 rfl ?_
        refine rr_get 75 X 11 (by decide) (v := .ref (K 11)) rfl (by decide +kernel) rfl dX7_isDone_75 ?_
        refine zz_iload_n 78 X.1 4 dX7_isDone_78 rfl ?_
        refine rr_iald 79 X 5 11 (len := 100) (f := G 11) rfl (by omega) (by decide) dX7_isDone_79 ?_
        refine zz_topi (nI a0) (h11) ?_
        refine zz_istore 80 X.1 (lv' := [(5, .int (nI a0)), (4, .int (nI b0)), (3, .int (nI 43)), (2, .int (nI s0)), (0, .ref (K 0)), (1, .int (nI k0))]) dX7_isDone_80 (by decide) rfl ?_
        have C82 : ∀ (d : Nat) (i : Nat) (hs1 : Nat → Bool) (hi : a0 ≤ i ∧ i ≤ b0) (hh : hs1 = sF hs s0 (pR (hM hs s0) a0 b0 true) i) (hd : b0 - i < d), ZZ p l e rm_X7_isDone s m args below meth c 0 0 Q (zz_A (RAd K) s.heap.size) (RP D C K F hs1 mv G) 6 [(0, .ref (K 0)), (2, .int (nI s0)), (3, .int (nI 43)), (4, .int (nI b0)), (5, .int (nI i))] [] 82 := by
          intro d
          induction d with
          | zero => intro i hs1 hi hh hd; exact absurd hd (Nat.not_lt_zero _)
          | succ d ih82 =>
            intro i hs1 hi hh hd
            have ea : hM hs s0 i = hs1 (1024 * s0 + i) := by rw [hh, sF_rd (Nat.le_refl _)]; rfl
            refine zz_iload 82 X.1 4 dX7_isDone_82 rfl ?_
            refine zz_iload 84 X.1 3 dX7_isDone_84 rfl ?_
            refine zz_icmp_ge 86 141 X.1 (nI_toInt (by omega)) (nI_toInt (by omega)) dX7_isDone_86 (by decide) (fun h86 => ?_) (fun h86 => ?_)
            · skip
              refine rr_hs (hs' := sS hs s0 (pR (hM hs s0) a0 b0 true)) (hh.trans (puts_end (by omega) (by omega))) ?_
              refine zz_goto 141 217 X.1 dX7_isDone_141 (by decide) ?_
              refine zz_iconst 217 X.1 (v := nI 1) dX7_isDone_217 rfl ?_
              refine zz_topi (bI true) rfl ?_
              rw [← hQ]
              refine zz_iret 218 X.1 hr (bI_nar _) hlk (F, sS hs s0 (pR (hM hs s0) a0 b0 true), mv, G) ?_ (fun _ h _ => h) dX7_isDone_218
              refine ⟨fun hc => ?_, fun hc => ?_⟩ <;> first | (exfalso; omega) | (exact ⟨rfl, rfl⟩)
            · skip
              refine zz_aload_n 89 X.1 0 dX7_isDone_89 rfl ?_
              refine rr_get 90 X 1 (by decide) (v := .ref (K 1)) rfl (by decide +kernel) rfl dX7_isDone_90 ?_
              refine zz_sipush 93 X.1 (v := nI 1024) dX7_isDone_93 rfl ?_
              refine zz_iload_n 96 X.1 1 dX7_isDone_96 rfl ?_
              refine zz_imul 97 X.1 (v := (nI (1024 * s0))) dX7_isDone_97 (pk_mul _ _) ?_
              refine zz_iload 98 X.1 4 dX7_isDone_98 rfl ?_
              refine zz_iadd 100 X.1 (v := (nI ((1024 * s0) + i))) dX7_isDone_100 (nI_add _ _) ?_
              refine zz_iload_n 101 X.1 2 dX7_isDone_101 rfl ?_
              refine zz_bipush 102 X.1 (v := nI 43) dX7_isDone_102 rfl ?_
              refine zz_icmp_eq 104 129 X.1 (nI_toInt (by omega)) (nI_toInt (by omega)) dX7_isDone_104 (by decide) (fun h104 => ?_) (fun h104 => ?_)
              · skip
                refine zz_iconst 129 X.1 (v := nI 1) dX7_isDone_129 rfl ?_
                refine zz_goto 130 134 X.1 dX7_isDone_130 (by decide) ?_
                refine zz_topi (bI true) rfl ?_
                refine rr_hst 134 hAp X (by omega) dX7_isDone_134 ?_
                refine zz_iinc 135 X.1 4 (v := (nI (i + 1))) (lv' := [(5, .int (nI (i + 1))), (0, .ref (K 0)), (2, .int (nI s0)), (3, .int (nI 43)), (4, .int (nI b0))]) dX7_isDone_135 rfl (nI_add i 1) (by decide) rfl ?_
                refine zz_goto 138 82 X.1 dX7_isDone_138 (by decide) ?_
                refine zz_lvs [1, 2, 3, 4, 0] rfl ?_
                exact ih82 (i + 1) (va_up hs1 ((1024 * s0) + i) true) (by omega) (sF_up2 hh (pR_in (by omega) (by omega))) (by omega)
              · exfalso; omega
        refine zz_lvs [4, 3, 2, 1, 0] rfl ?_
        exact C82 (b0 - a0 + 1) a0 hs (by omega) (puts_begin) (Nat.lt_succ_self _)
      · skip
        refine zz_iconst 72 X.1 (v := nI 0) dX7_isDone_72 rfl ?_
        refine zz_topi (bI false) rfl ?_
        rw [← hQ]
        refine zz_iret 73 X.1 hr (bI_nar _) hlk (F, hs, mv, G) ?_ (fun _ h _ => h) dX7_isDone_73
        refine ⟨fun hc => ?_, fun hc => ?_⟩ <;> first | (exfalso; omega) | (exact ⟨rfl, rfl⟩)
    · exfalso; omega
  · exfalso; omega

set_option maxHeartbeats 4000000 in
set_option maxRecDepth 100000 in
theorem kt_X7_isDone_45_1 (l : Launch) (D : va_G) (C : Nat → ClassId) (K : Nat → Nat) (hAp : RAp K) (F : Nat → Int32) (hs mv : Nat → Bool) (G : Nat → Nat → Int32) (k0 : Nat) (s0 : Nat) (a0 : Nat) (b0 : Nat) (hk0 : k0 < 100) (hs0 : s0 < 8) (h9 : G 9 k0 = nI s0) (h11 : G 11 k0 = nI a0) (h10 : G 10 k0 = nI 45) (hab : a0 < 1024 ∧ b0 ≤ 1024) (h12 : G 12 k0 = -1) (hb0 : b0 = a0 + 1) : RMi l yX7_isDone wsX7_isDone rm_X7_isDone D C K [.int (nI k0)] F hs mv G (fun (r : Int32) (u : MSt) => (a0 ≤ b0 → r = (bI true) ∧ u = (F, sS hs s0 (pR (hM hs s0) a0 b0 false), mv, G)) ∧ (b0 < a0 → r = (bI false) ∧ u = (F, hs, mv, G))) := by
  refine RMi_of (lv := [(0, .ref (K 0)), (1, .int (nI k0))]) (cc := cX7_isDone) (maxL := 6) (ret := (some .boolean)) rfl rfl (by decide +kernel) (Nat.le_of_ble_eq_true rfl) rfl ?_
  intro p e s m args below meth c X hml hr hlk
  generalize hQ : MQ below _ args s 0 0 _ = Q
  refine zz_aload_n 0 X.1 0 dX7_isDone_0 rfl ?_
  refine rr_get 1 X 9 (by decide) (v := .ref (K 9)) rfl (by decide +kernel) rfl dX7_isDone_1 ?_
  refine zz_iload_n 4 X.1 1 dX7_isDone_4 rfl ?_
  refine rr_iald 5 X 3 9 (len := 100) (f := G 9) rfl (by omega) (by decide) dX7_isDone_5 ?_
  refine zz_topi (nI s0) (h9) ?_
  refine zz_istore_n 6 X.1 (lv' := [(2, .int (nI s0)), (0, .ref (K 0)), (1, .int (nI k0))]) dX7_isDone_6 (by decide) rfl ?_
  refine zz_aload_n 7 X.1 1 dX7_isDone_7 rfl ?_
  refine rr_get 8 X 10 (by decide) (v := .ref (K 10)) rfl (by decide +kernel) rfl dX7_isDone_8 ?_
  refine zz_iload_n 11 X.1 2 dX7_isDone_11 rfl ?_
  refine rr_iald 12 X 4 10 (len := 100) (f := G 10) rfl (by omega) (by decide) dX7_isDone_12 ?_
  refine zz_topi (nI 45) (h10) ?_
  refine zz_istore_n 13 X.1 (lv' := [(3, .int (nI 45)), (2, .int (nI s0)), (0, .ref (K 0)), (1, .int (nI k0))]) dX7_isDone_13 (by decide) rfl ?_
  refine zz_iload_n 14 X.1 0 dX7_isDone_14 rfl ?_
  refine zz_bipush 15 X.1 (v := nI 43) dX7_isDone_15 rfl ?_
  refine zz_icmp_eq 17 32 X.1 (nI_toInt (by omega)) (nI_toInt (by omega)) dX7_isDone_17 (by decide) (fun h17 => ?_) (fun h17 => ?_)
  · exfalso; omega
  · skip
    refine zz_iload_n 20 X.1 0 dX7_isDone_20 rfl ?_
    refine zz_bipush 21 X.1 (v := nI 45) dX7_isDone_21 rfl ?_
    refine zz_icmp_eq 23 32 X.1 (nI_toInt (by omega)) (nI_toInt (by omega)) dX7_isDone_23 (by decide) (fun h23 => ?_) (fun h23 => ?_)
    · skip
      refine zz_aload_n 32 X.1 2 dX7_isDone_32 rfl ?_
      refine rr_get 33 X 12 (by decide) (v := .ref (K 12)) rfl (by decide +kernel) rfl dX7_isDone_33 ?_
      refine zz_iload_n 36 X.1 3 dX7_isDone_36 rfl ?_
      refine rr_iald 37 X 6 12 (len := 100) (f := G 12) rfl (by omega) (by decide) dX7_isDone_37 ?_
      refine zz_topi (-1) (h12) ?_
      refine zz_iconst 38 X.1 (v := (-1)) dX7_isDone_38 (by decide) ?_
      refine zz_icmp_ne 39 53 X.1 (by decide : (-1 : Int32).toInt = -1) (by decide : (-1 : Int32).toInt = -1) dX7_isDone_39 (by decide) (fun h39 => ?_) (fun h39 => ?_)
      · exfalso; omega
      · skip
        refine zz_aload_n 42 X.1 2 dX7_isDone_42 rfl ?_
        refine rr_get 43 X 11 (by decide) (v := .ref (K 11)) rfl (by decide +kernel) rfl dX7_isDone_43 ?_
        refine zz_iload_n 46 X.1 3 dX7_isDone_46 rfl ?_
        refine rr_iald 47 X 5 11 (len := 100) (f := G 11) rfl (by omega) (by decide) dX7_isDone_47 ?_
        refine zz_topi (nI a0) (h11) ?_
        refine zz_iconst 48 X.1 (v := nI 1) dX7_isDone_48 rfl ?_
        refine zz_iadd 49 X.1 (v := (nI (a0 + 1))) dX7_isDone_49 (nI_add _ _) ?_
        refine zz_topi (nI b0) ((congrArg nI hb0.symm)) ?_
        refine zz_goto 50 59 X.1 dX7_isDone_50 (by decide) ?_
        refine zz_istore 59 X.1 (lv' := [(4, .int (nI b0)), (3, .int (nI 45)), (2, .int (nI s0)), (0, .ref (K 0)), (1, .int (nI k0))]) dX7_isDone_59 (by decide) rfl ?_
        refine zz_aload_n 61 X.1 3 dX7_isDone_61 rfl ?_
        refine rr_get 62 X 11 (by decide) (v := .ref (K 11)) rfl (by decide +kernel) rfl dX7_isDone_62 ?_
        refine zz_iload_n 65 X.1 4 dX7_isDone_65 rfl ?_
        refine rr_iald 66 X 5 11 (len := 100) (f := G 11) rfl (by omega) (by decide) dX7_isDone_66 ?_
        refine zz_topi (nI a0) (h11) ?_
        refine zz_iload 67 X.1 0 dX7_isDone_67 rfl ?_
        refine zz_icmp_le 69 74 X.1 (nI_toInt (by omega)) (nI_toInt (by omega)) dX7_isDone_69 (by decide) (fun h69 => ?_) (fun h69 => ?_)
        · skip
          refine zz_aload_n 74 X.1 3 dX7_isDone_74 rfl ?_
          refine rr_get 75 X 11 (by decide) (v := .ref (K 11)) rfl (by decide +kernel) rfl dX7_isDone_75 ?_
          refine zz_iload_n 78 X.1 4 dX7_isDone_78 rfl ?_
          refine rr_iald 79 X 5 11 (len := 100) (f := G 11) rfl (by omega) (by decide) dX7_isDone_79 ?_
          refine zz_topi (nI a0) (h11) ?_
          refine zz_istore 80 X.1 (lv' := [(5, .int (nI a0)), (4, .int (nI b0)), (3, .int (nI 45)), (2, .int (nI s0)), (0, .ref (K 0)), (1, .int (nI k0))]) dX7_isDone_80 (by decide) rfl ?_
          have C82 : ∀ (d : Nat) (i : Nat) (hs1 : Nat → Bool) (hi : a0 ≤ i ∧ i ≤ b0) (hh : hs1 = sF hs s0 (pR (hM hs s0) a0 b0 false) i) (hd : b0 - i < d), ZZ p l e rm_X7_isDone s m args below meth c 0 0 Q (zz_A (RAd K) s.heap.size) (RP D C K F hs1 mv G) 6 [(0, .ref (K 0)), (2, .int (nI s0)), (3, .int (nI 45)), (4, .int (nI b0)), (5, .int (nI i))] [] 82 := by
            intro d
            induction d with
            | zero => intro i hs1 hi hh hd; exact absurd hd (Nat.not_lt_zero _)
            | succ d ih82 =>
              intro i hs1 hi hh hd
              have ea : hM hs s0 i = hs1 (1024 * s0 + i) := by rw [hh, sF_rd (Nat.le_refl _)]; rfl
              refine zz_iload 82 X.1 4 dX7_isDone_82 rfl ?_
              refine zz_iload 84 X.1 3 dX7_isDone_84 rfl ?_
              refine zz_icmp_ge 86 141 X.1 (nI_toInt (by omega)) (nI_toInt (by omega)) dX7_isDone_86 (by decide) (fun h86 => ?_) (fun h86 => ?_)
              · skip
                refine rr_hs (hs' := sS hs s0 (pR (hM hs s0) a0 b0 false)) (hh.trans (puts_end (by omega) (by omega))) ?_
                refine zz_goto 141 217 X.1 dX7_isDone_141 (by decide) ?_
                refine zz_iconst 217 X.1 (v := nI 1) dX7_isDone_217 rfl ?_
                refine zz_topi (bI true) rfl ?_
                rw [← hQ]
                refine zz_iret 218 X.1 hr (bI_nar _) hlk (F, sS hs s0 (pR (hM hs s0) a0 b0 false), mv, G) ?_ (fun _ h _ => h) dX7_isDone_218
                refine ⟨fun hc => ?_, fun hc => ?_⟩ <;> first | (exfalso; omega) | (exact ⟨rfl, rfl⟩)
              · skip
                refine zz_aload_n 89 X.1 0 dX7_isDone_89 rfl ?_
                refine rr_get 90 X 1 (by decide) (v := .ref (K 1)) rfl (by decide +kernel) rfl dX7_isDone_90 ?_
                refine zz_sipush 93 X.1 (v := nI 1024) dX7_isDone_93 rfl ?_
                refine zz_iload_n 96 X.1 1 dX7_isDone_96 rfl ?_
                refine zz_imul 97 X.1 (v := (nI (1024 * s0))) dX7_isDone_97 (pk_mul _ _) ?_
                refine zz_iload 98 X.1 4 dX7_isDone_98 rfl ?_
                refine zz_iadd 100 X.1 (v := (nI ((1024 * s0) + i))) dX7_isDone_100 (nI_add _ _) ?_
                refine zz_iload_n 101 X.1 2 dX7_isDone_101 rfl ?_
                refine zz_bipush 102 X.1 (v := nI 43) dX7_isDone_102 rfl ?_
                refine zz_icmp_eq 104 129 X.1 (nI_toInt (by omega)) (nI_toInt (by omega)) dX7_isDone_104 (by decide) (fun h104 => ?_) (fun h104 => ?_)
                · exfalso; omega
                · skip
                  refine zz_iload_n 107 X.1 2 dX7_isDone_107 rfl ?_
                  refine zz_bipush 108 X.1 (v := nI 94) dX7_isDone_108 rfl ?_
                  refine zz_icmp_ne 110 133 X.1 (nI_toInt (by omega)) (nI_toInt (by omega)) dX7_isDone_110 (by decide) (fun h110 => ?_) (fun h110 => ?_)
                  · skip
                    refine zz_iconst 133 X.1 (v := nI 0) dX7_isDone_133 rfl ?_
                    refine zz_topi (bI false) rfl ?_
                    refine rr_hst 134 hAp X (by omega) dX7_isDone_134 ?_
                    refine zz_iinc 135 X.1 4 (v := (nI (i + 1))) (lv' := [(5, .int (nI (i + 1))), (0, .ref (K 0)), (2, .int (nI s0)), (3, .int (nI 45)), (4, .int (nI b0))]) dX7_isDone_135 rfl (nI_add i 1) (by decide) rfl ?_
                    refine zz_goto 138 82 X.1 dX7_isDone_138 (by decide) ?_
                    refine zz_lvs [1, 2, 3, 4, 0] rfl ?_
                    exact ih82 (i + 1) (va_up hs1 ((1024 * s0) + i) false) (by omega) (sF_up2 hh (pR_in (by omega) (by omega))) (by omega)
                  · exfalso; omega
          refine zz_lvs [4, 3, 2, 1, 0] rfl ?_
          exact C82 (b0 - a0 + 1) a0 hs (by omega) (puts_begin) (Nat.lt_succ_self _)
        · skip
          refine zz_iconst 72 X.1 (v := nI 0) dX7_isDone_72 rfl ?_
          refine zz_topi (bI false) rfl ?_
          rw [← hQ]
          refine zz_iret 73 X.1 hr (bI_nar _) hlk (F, hs, mv, G) ?_ (fun _ h _ => h) dX7_isDone_73
          refine ⟨fun hc => ?_, fun hc => ?_⟩ <;> first | (exfalso; omega) | (exact ⟨rfl, rfl⟩)
    · exfalso; omega

set_option maxHeartbeats 4000000 in
set_option maxRecDepth 100000 in
theorem kt_X7_isDone_45_2 (l : Launch) (D : va_G) (C : Nat → ClassId) (K : Nat → Nat) (hAp : RAp K) (F : Nat → Int32) (hs mv : Nat → Bool) (G : Nat → Nat → Int32) (k0 : Nat) (s0 : Nat) (a0 : Nat) (b0 : Nat) (hk0 : k0 < 100) (hs0 : s0 < 8) (h9 : G 9 k0 = nI s0) (h11 : G 11 k0 = nI a0) (h10 : G 10 k0 = nI 45) (hab : a0 < 1024 ∧ b0 ≤ 1024) (h12 : G 12 k0 = nI b0) : RMi l yX7_isDone wsX7_isDone rm_X7_isDone D C K [.int (nI k0)] F hs mv G (fun (r : Int32) (u : MSt) => (a0 ≤ b0 → r = (bI true) ∧ u = (F, sS hs s0 (pR (hM hs s0) a0 b0 false), mv, G)) ∧ (b0 < a0 → r = (bI false) ∧ u = (F, hs, mv, G))) := by
  refine RMi_of (lv := [(0, .ref (K 0)), (1, .int (nI k0))]) (cc := cX7_isDone) (maxL := 6) (ret := (some .boolean)) rfl rfl (by decide +kernel) (Nat.le_of_ble_eq_true rfl) rfl ?_
  intro p e s m args below meth c X hml hr hlk
  generalize hQ : MQ below _ args s 0 0 _ = Q
  refine zz_aload_n 0 X.1 0 dX7_isDone_0 rfl ?_
  refine rr_get 1 X 9 (by decide) (v := .ref (K 9)) rfl (by decide +kernel) rfl dX7_isDone_1 ?_
  refine zz_iload_n 4 X.1 1 dX7_isDone_4 rfl ?_
  refine rr_iald 5 X 3 9 (len := 100) (f := G 9) rfl (by omega) (by decide) dX7_isDone_5 ?_
  refine zz_topi (nI s0) (h9) ?_
  refine zz_istore_n 6 X.1 (lv' := [(2, .int (nI s0)), (0, .ref (K 0)), (1, .int (nI k0))]) dX7_isDone_6 (by decide) rfl ?_
  refine zz_aload_n 7 X.1 1 dX7_isDone_7 rfl ?_
  refine rr_get 8 X 10 (by decide) (v := .ref (K 10)) rfl (by decide +kernel) rfl dX7_isDone_8 ?_
  refine zz_iload_n 11 X.1 2 dX7_isDone_11 rfl ?_
  refine rr_iald 12 X 4 10 (len := 100) (f := G 10) rfl (by omega) (by decide) dX7_isDone_12 ?_
  refine zz_topi (nI 45) (h10) ?_
  refine zz_istore_n 13 X.1 (lv' := [(3, .int (nI 45)), (2, .int (nI s0)), (0, .ref (K 0)), (1, .int (nI k0))]) dX7_isDone_13 (by decide) rfl ?_
  refine zz_iload_n 14 X.1 0 dX7_isDone_14 rfl ?_
  refine zz_bipush 15 X.1 (v := nI 43) dX7_isDone_15 rfl ?_
  refine zz_icmp_eq 17 32 X.1 (nI_toInt (by omega)) (nI_toInt (by omega)) dX7_isDone_17 (by decide) (fun h17 => ?_) (fun h17 => ?_)
  · exfalso; omega
  · skip
    refine zz_iload_n 20 X.1 0 dX7_isDone_20 rfl ?_
    refine zz_bipush 21 X.1 (v := nI 45) dX7_isDone_21 rfl ?_
    refine zz_icmp_eq 23 32 X.1 (nI_toInt (by omega)) (nI_toInt (by omega)) dX7_isDone_23 (by decide) (fun h23 => ?_) (fun h23 => ?_)
    · skip
      refine zz_aload_n 32 X.1 2 dX7_isDone_32 rfl ?_
      refine rr_get 33 X 12 (by decide) (v := .ref (K 12)) rfl (by decide +kernel) rfl dX7_isDone_33 ?_
      refine zz_iload_n 36 X.1 3 dX7_isDone_36 rfl ?_
      refine rr_iald 37 X 6 12 (len := 100) (f := G 12) rfl (by omega) (by decide) dX7_isDone_37 ?_
      refine zz_topi (nI b0) (h12) ?_
      refine zz_iconst 38 X.1 (v := (-1)) dX7_isDone_38 (by decide) ?_
      refine zz_icmp_ne 39 53 X.1 (nI_toInt (by omega)) (by decide : (-1 : Int32).toInt = -1) dX7_isDone_39 (by decide) (fun h39 => ?_) (fun h39 => ?_)
      · skip
        refine zz_aload_n 53 X.1 2 dX7_isDone_53 rfl ?_
        refine rr_get 54 X 12 (by decide) (v := .ref (K 12)) rfl (by decide +kernel) rfl dX7_isDone_54 ?_
        refine zz_iload_n 57 X.1 3 dX7_isDone_57 rfl ?_
        refine rr_iald 58 X 6 12 (len := 100) (f := G 12) rfl (by omega) (by decide) dX7_isDone_58 ?_
        refine zz_topi (nI b0) (h12) ?_
        refine zz_istore 59 X.1 (lv' := [(4, .int (nI b0)), (3, .int (nI 45)), (2, .int (nI s0)), (0, .ref (K 0)), (1, .int (nI k0))]) dX7_isDone_59 (by decide) rfl ?_
        refine zz_aload_n 61 X.1 3 dX7_isDone_61 rfl ?_
        refine rr_get 62 X 11 (by decide) (v := .ref (K 11)) rfl (by decide +kernel) rfl dX7_isDone_62 ?_
        refine zz_iload_n 65 X.1 4 dX7_isDone_65 rfl ?_
        refine rr_iald 66 X 5 11 (len := 100) (f := G 11) rfl (by omega) (by decide) dX7_isDone_66 ?_
        refine zz_topi (nI a0) (h11) ?_
        refine zz_iload 67 X.1 0 dX7_isDone_67 rfl ?_
        refine zz_icmp_le 69 74 X.1 (nI_toInt (by omega)) (nI_toInt (by omega)) dX7_isDone_69 (by decide) (fun h69 => ?_) (fun h69 => ?_)
        · skip
          refine zz_aload_n 74 X.1 3 dX7_isDone_74 rfl ?_
          refine rr_get 75 X 11 (by decide) (v := .ref (K 11)) rfl (by decide +kernel) rfl dX7_isDone_75 ?_
          refine zz_iload_n 78 X.1 4 dX7_isDone_78 rfl ?_
          refine rr_iald 79 X 5 11 (len := 100) (f := G 11) rfl (by omega) (by decide) dX7_isDone_79 ?_
          refine zz_topi (nI a0) (h11) ?_
          refine zz_istore 80 X.1 (lv' := [(5, .int (nI a0)), (4, .int (nI b0)), (3, .int (nI 45)), (2, .int (nI s0)), (0, .ref (K 0)), (1, .int (nI k0))]) dX7_isDone_80 (by decide) rfl ?_
          have C82 : ∀ (d : Nat) (i : Nat) (hs1 : Nat → Bool) (hi : a0 ≤ i ∧ i ≤ b0) (hh : hs1 = sF hs s0 (pR (hM hs s0) a0 b0 false) i) (hd : b0 - i < d), ZZ p l e rm_X7_isDone s m args below meth c 0 0 Q (zz_A (RAd K) s.heap.size) (RP D C K F hs1 mv G) 6 [(0, .ref (K 0)), (2, .int (nI s0)), (3, .int (nI 45)), (4, .int (nI b0)), (5, .int (nI i))] [] 82 := by
            intro d
            induction d with
            | zero => intro i hs1 hi hh hd; exact absurd hd (Nat.not_lt_zero _)
            | succ d ih82 =>
              intro i hs1 hi hh hd
              have ea : hM hs s0 i = hs1 (1024 * s0 + i) := by rw [hh, sF_rd (Nat.le_refl _)]; rfl
              refine zz_iload 82 X.1 4 dX7_isDone_82 rfl ?_
              refine zz_iload 84 X.1 3 dX7_isDone_84 rfl ?_
              refine zz_icmp_ge 86 141 X.1 (nI_toInt (by omega)) (nI_toInt (by omega)) dX7_isDone_86 (by decide) (fun h86 => ?_) (fun h86 => ?_)
              · skip
                refine rr_hs (hs' := sS hs s0 (pR (hM hs s0) a0 b0 false)) (hh.trans (puts_end (by omega) (by omega))) ?_
                refine zz_goto 141 217 X.1 dX7_isDone_141 (by decide) ?_
                refine zz_iconst 217 X.1 (v := nI 1) dX7_isDone_217 rfl ?_
                refine zz_topi (bI true) rfl ?_
                rw [← hQ]
                refine zz_iret 218 X.1 hr (bI_nar _) hlk (F, sS hs s0 (pR (hM hs s0) a0 b0 false), mv, G) ?_ (fun _ h _ => h) dX7_isDone_218
                refine ⟨fun hc => ?_, fun hc => ?_⟩ <;> first | (exfalso; omega) | (exact ⟨rfl, rfl⟩)
              · skip
                refine zz_aload_n 89 X.1 0 dX7_isDone_89 rfl ?_
                refine rr_get 90 X 1 (by decide) (v := .ref (K 1)) rfl (by decide +kernel) rfl dX7_isDone_90 ?_
                refine zz_sipush 93 X.1 (v := nI 1024) dX7_isDone_93 rfl ?_
                refine zz_iload_n 96 X.1 1 dX7_isDone_96 rfl ?_
                refine zz_imul 97 X.1 (v := (nI (1024 * s0))) dX7_isDone_97 (pk_mul _ _) ?_
                refine zz_iload 98 X.1 4 dX7_isDone_98 rfl ?_
                refine zz_iadd 100 X.1 (v := (nI ((1024 * s0) + i))) dX7_isDone_100 (nI_add _ _) ?_
                refine zz_iload_n 101 X.1 2 dX7_isDone_101 rfl ?_
                refine zz_bipush 102 X.1 (v := nI 43) dX7_isDone_102 rfl ?_
                refine zz_icmp_eq 104 129 X.1 (nI_toInt (by omega)) (nI_toInt (by omega)) dX7_isDone_104 (by decide) (fun h104 => ?_) (fun h104 => ?_)
                · exfalso; omega
                · skip
                  refine zz_iload_n 107 X.1 2 dX7_isDone_107 rfl ?_
                  refine zz_bipush 108 X.1 (v := nI 94) dX7_isDone_108 rfl ?_
                  refine zz_icmp_ne 110 133 X.1 (nI_toInt (by omega)) (nI_toInt (by omega)) dX7_isDone_110 (by decide) (fun h110 => ?_) (fun h110 => ?_)
                  · skip
                    refine zz_iconst 133 X.1 (v := nI 0) dX7_isDone_133 rfl ?_
                    refine zz_topi (bI false) rfl ?_
                    refine rr_hst 134 hAp X (by omega) dX7_isDone_134 ?_
                    refine zz_iinc 135 X.1 4 (v := (nI (i + 1))) (lv' := [(5, .int (nI (i + 1))), (0, .ref (K 0)), (2, .int (nI s0)), (3, .int (nI 45)), (4, .int (nI b0))]) dX7_isDone_135 rfl (nI_add i 1) (by decide) rfl ?_
                    refine zz_goto 138 82 X.1 dX7_isDone_138 (by decide) ?_
                    refine zz_lvs [1, 2, 3, 4, 0] rfl ?_
                    exact ih82 (i + 1) (va_up hs1 ((1024 * s0) + i) false) (by omega) (sF_up2 hh (pR_in (by omega) (by omega))) (by omega)
                  · exfalso; omega
          refine zz_lvs [4, 3, 2, 1, 0] rfl ?_
          exact C82 (b0 - a0 + 1) a0 hs (by omega) (puts_begin) (Nat.lt_succ_self _)
        · skip
          refine zz_iconst 72 X.1 (v := nI 0) dX7_isDone_72 rfl ?_
          refine zz_topi (bI false) rfl ?_
          rw [← hQ]
          refine zz_iret 73 X.1 hr (bI_nar _) hlk (F, hs, mv, G) ?_ (fun _ h _ => h) dX7_isDone_73
          refine ⟨fun hc => ?_, fun hc => ?_⟩ <;> first | (exfalso; omega) | (exact ⟨rfl, rfl⟩)
      · exfalso; omega
    · exfalso; omega

set_option maxHeartbeats 4000000 in
set_option maxRecDepth 100000 in
theorem kt_X7_isDone_94_1 (l : Launch) (D : va_G) (C : Nat → ClassId) (K : Nat → Nat) (hAp : RAp K) (F : Nat → Int32) (hs mv : Nat → Bool) (G : Nat → Nat → Int32) (k0 : Nat) (s0 : Nat) (a0 : Nat) (b0 : Nat) (hk0 : k0 < 100) (hs0 : s0 < 8) (h9 : G 9 k0 = nI s0) (h11 : G 11 k0 = nI a0) (h10 : G 10 k0 = nI 94) (hab : a0 < 1024 ∧ b0 ≤ 1024) (h12 : G 12 k0 = -1) (hb0 : b0 = a0 + 1) : RMi l yX7_isDone wsX7_isDone rm_X7_isDone D C K [.int (nI k0)] F hs mv G (fun (r : Int32) (u : MSt) => (a0 ≤ b0 → r = (bI true) ∧ u = (F, sS hs s0 (pX (hM hs s0) a0 b0), mv, G)) ∧ (b0 < a0 → r = (bI false) ∧ u = (F, hs, mv, G))) := by
  refine RMi_of (lv := [(0, .ref (K 0)), (1, .int (nI k0))]) (cc := cX7_isDone) (maxL := 6) (ret := (some .boolean)) rfl rfl (by decide +kernel) (Nat.le_of_ble_eq_true rfl) rfl ?_
  intro p e s m args below meth c X hml hr hlk
  generalize hQ : MQ below _ args s 0 0 _ = Q
  refine zz_aload_n 0 X.1 0 dX7_isDone_0 rfl ?_
  refine rr_get 1 X 9 (by decide) (v := .ref (K 9)) rfl (by decide +kernel) rfl dX7_isDone_1 ?_
  refine zz_iload_n 4 X.1 1 dX7_isDone_4 rfl ?_
  refine rr_iald 5 X 3 9 (len := 100) (f := G 9) rfl (by omega) (by decide) dX7_isDone_5 ?_
  refine zz_topi (nI s0) (h9) ?_
  refine zz_istore_n 6 X.1 (lv' := [(2, .int (nI s0)), (0, .ref (K 0)), (1, .int (nI k0))]) dX7_isDone_6 (by decide) rfl ?_
  refine zz_aload_n 7 X.1 1 dX7_isDone_7 rfl ?_
  refine rr_get 8 X 10 (by decide) (v := .ref (K 10)) rfl (by decide +kernel) rfl dX7_isDone_8 ?_
  refine zz_iload_n 11 X.1 2 dX7_isDone_11 rfl ?_
  refine rr_iald 12 X 4 10 (len := 100) (f := G 10) rfl (by omega) (by decide) dX7_isDone_12 ?_
  refine zz_topi (nI 94) (h10) ?_
  refine zz_istore_n 13 X.1 (lv' := [(3, .int (nI 94)), (2, .int (nI s0)), (0, .ref (K 0)), (1, .int (nI k0))]) dX7_isDone_13 (by decide) rfl ?_
  refine zz_iload_n 14 X.1 0 dX7_isDone_14 rfl ?_
  refine zz_bipush 15 X.1 (v := nI 43) dX7_isDone_15 rfl ?_
  refine zz_icmp_eq 17 32 X.1 (nI_toInt (by omega)) (nI_toInt (by omega)) dX7_isDone_17 (by decide) (fun h17 => ?_) (fun h17 => ?_)
  · exfalso; omega
  · skip
    refine zz_iload_n 20 X.1 0 dX7_isDone_20 rfl ?_
    refine zz_bipush 21 X.1 (v := nI 45) dX7_isDone_21 rfl ?_
    refine zz_icmp_eq 23 32 X.1 (nI_toInt (by omega)) (nI_toInt (by omega)) dX7_isDone_23 (by decide) (fun h23 => ?_) (fun h23 => ?_)
    · exfalso; omega
    · skip
      refine zz_iload_n 26 X.1 0 dX7_isDone_26 rfl ?_
      refine zz_bipush 27 X.1 (v := nI 94) dX7_isDone_27 rfl ?_
      refine zz_icmp_ne 29 144 X.1 (nI_toInt (by omega)) (nI_toInt (by omega)) dX7_isDone_29 (by decide) (fun h29 => ?_) (fun h29 => ?_)
      · exfalso; omega
      · skip
        refine zz_aload_n 32 X.1 2 dX7_isDone_32 rfl ?_
        refine rr_get 33 X 12 (by decide) (v := .ref (K 12)) rfl (by decide +kernel) rfl dX7_isDone_33 ?_
        refine zz_iload_n 36 X.1 3 dX7_isDone_36 rfl ?_
        refine rr_iald 37 X 6 12 (len := 100) (f := G 12) rfl (by omega) (by decide) dX7_isDone_37 ?_
        refine zz_topi (-1) (h12) ?_
        refine zz_iconst 38 X.1 (v := (-1)) dX7_isDone_38 (by decide) ?_
        refine zz_icmp_ne 39 53 X.1 (by decide : (-1 : Int32).toInt = -1) (by decide : (-1 : Int32).toInt = -1) dX7_isDone_39 (by decide) (fun h39 => ?_) (fun h39 => ?_)
        · exfalso; omega
        · skip
          refine zz_aload_n 42 X.1 2 dX7_isDone_42 rfl ?_
          refine rr_get 43 X 11 (by decide) (v := .ref (K 11)) rfl (by decide +kernel) rfl dX7_isDone_43 ?_
          refine zz_iload_n 46 X.1 3 dX7_isDone_46 rfl ?_
          refine rr_iald 47 X 5 11 (len := 100) (f := G 11) rfl (by omega) (by decide) dX7_isDone_47 ?_
          refine zz_topi (nI a0) (h11) ?_
          refine zz_iconst 48 X.1 (v := nI 1) dX7_isDone_48 rfl ?_
          refine zz_iadd 49 X.1 (v := (nI (a0 + 1))) dX7_isDone_49 (nI_add _ _) ?_
          refine zz_topi (nI b0) ((congrArg nI hb0.symm)) ?_
          refine zz_goto 50 59 X.1 dX7_isDone_50 (by decide) ?_
          refine zz_istore 59 X.1 (lv' := [(4, .int (nI b0)), (3, .int (nI 94)), (2, .int (nI s0)), (0, .ref (K 0)), (1, .int (nI k0))]) dX7_isDone_59 (by decide) rfl ?_
          refine zz_aload_n 61 X.1 3 dX7_isDone_61 rfl ?_
          refine rr_get 62 X 11 (by decide) (v := .ref (K 11)) rfl (by decide +kernel) rfl dX7_isDone_62 ?_
          refine zz_iload_n 65 X.1 4 dX7_isDone_65 rfl ?_
          refine rr_iald 66 X 5 11 (len := 100) (f := G 11) rfl (by omega) (by decide) dX7_isDone_66 ?_
          refine zz_topi (nI a0) (h11) ?_
          refine zz_iload 67 X.1 0 dX7_isDone_67 rfl ?_
          refine zz_icmp_le 69 74 X.1 (nI_toInt (by omega)) (nI_toInt (by omega)) dX7_isDone_69 (by decide) (fun h69 => ?_) (fun h69 => ?_)
          · skip
            refine zz_aload_n 74 X.1 3 dX7_isDone_74 rfl ?_
            refine rr_get 75 X 11 (by decide) (v := .ref (K 11)) rfl (by decide +kernel) rfl dX7_isDone_75 ?_
            refine zz_iload_n 78 X.1 4 dX7_isDone_78 rfl ?_
            refine rr_iald 79 X 5 11 (len := 100) (f := G 11) rfl (by omega) (by decide) dX7_isDone_79 ?_
            refine zz_topi (nI a0) (h11) ?_
            refine zz_istore 80 X.1 (lv' := [(5, .int (nI a0)), (4, .int (nI b0)), (3, .int (nI 94)), (2, .int (nI s0)), (0, .ref (K 0)), (1, .int (nI k0))]) dX7_isDone_80 (by decide) rfl ?_
            have C82 : ∀ (d : Nat) (i : Nat) (hs1 : Nat → Bool) (hi : a0 ≤ i ∧ i ≤ b0) (hh : hs1 = sF hs s0 (pX (hM hs s0) a0 b0) i) (hd : b0 - i < d), ZZ p l e rm_X7_isDone s m args below meth c 0 0 Q (zz_A (RAd K) s.heap.size) (RP D C K F hs1 mv G) 6 [(0, .ref (K 0)), (2, .int (nI s0)), (3, .int (nI 94)), (4, .int (nI b0)), (5, .int (nI i))] [] 82 := by
              intro d
              induction d with
              | zero => intro i hs1 hi hh hd; exact absurd hd (Nat.not_lt_zero _)
              | succ d ih82 =>
                intro i hs1 hi hh hd
                have ea : hM hs s0 i = hs1 (1024 * s0 + i) := by rw [hh, sF_rd (Nat.le_refl _)]; rfl
                refine zz_iload 82 X.1 4 dX7_isDone_82 rfl ?_
                refine zz_iload 84 X.1 3 dX7_isDone_84 rfl ?_
                refine zz_icmp_ge 86 141 X.1 (nI_toInt (by omega)) (nI_toInt (by omega)) dX7_isDone_86 (by decide) (fun h86 => ?_) (fun h86 => ?_)
                · skip
                  refine rr_hs (hs' := sS hs s0 (pX (hM hs s0) a0 b0)) (hh.trans (flip_end (by omega) (by omega))) ?_
                  refine zz_goto 141 217 X.1 dX7_isDone_141 (by decide) ?_
                  refine zz_iconst 217 X.1 (v := nI 1) dX7_isDone_217 rfl ?_
                  refine zz_topi (bI true) rfl ?_
                  rw [← hQ]
                  refine zz_iret 218 X.1 hr (bI_nar _) hlk (F, sS hs s0 (pX (hM hs s0) a0 b0), mv, G) ?_ (fun _ h _ => h) dX7_isDone_218
                  refine ⟨fun hc => ?_, fun hc => ?_⟩ <;> first | (exfalso; omega) | (exact ⟨rfl, rfl⟩)
                · skip
                  refine zz_aload_n 89 X.1 0 dX7_isDone_89 rfl ?_
                  refine rr_get 90 X 1 (by decide) (v := .ref (K 1)) rfl (by decide +kernel) rfl dX7_isDone_90 ?_
                  refine zz_sipush 93 X.1 (v := nI 1024) dX7_isDone_93 rfl ?_
                  refine zz_iload_n 96 X.1 1 dX7_isDone_96 rfl ?_
                  refine zz_imul 97 X.1 (v := (nI (1024 * s0))) dX7_isDone_97 (pk_mul _ _) ?_
                  refine zz_iload 98 X.1 4 dX7_isDone_98 rfl ?_
                  refine zz_iadd 100 X.1 (v := (nI ((1024 * s0) + i))) dX7_isDone_100 (nI_add _ _) ?_
                  refine zz_iload_n 101 X.1 2 dX7_isDone_101 rfl ?_
                  refine zz_bipush 102 X.1 (v := nI 43) dX7_isDone_102 rfl ?_
                  refine zz_icmp_eq 104 129 X.1 (nI_toInt (by omega)) (nI_toInt (by omega)) dX7_isDone_104 (by decide) (fun h104 => ?_) (fun h104 => ?_)
                  · exfalso; omega
                  · skip
                    refine zz_iload_n 107 X.1 2 dX7_isDone_107 rfl ?_
                    refine zz_bipush 108 X.1 (v := nI 94) dX7_isDone_108 rfl ?_
                    refine zz_icmp_ne 110 133 X.1 (nI_toInt (by omega)) (nI_toInt (by omega)) dX7_isDone_110 (by decide) (fun h110 => ?_) (fun h110 => ?_)
                    · exfalso; omega
                    · skip
                      refine zz_aload_n 113 X.1 0 dX7_isDone_113 rfl ?_
                      refine rr_get 114 X 1 (by decide) (v := .ref (K 1)) rfl (by decide +kernel) rfl dX7_isDone_114 ?_
                      refine zz_sipush 117 X.1 (v := nI 1024) dX7_isDone_117 rfl ?_
                      refine zz_iload_n 120 X.1 1 dX7_isDone_120 rfl ?_
                      refine zz_imul 121 X.1 (v := (nI (1024 * s0))) dX7_isDone_121 (pk_mul _ _) ?_
                      refine zz_iload 122 X.1 4 dX7_isDone_122 rfl ?_
                      refine zz_iadd 124 X.1 (v := (nI ((1024 * s0) + i))) dX7_isDone_124 (nI_add _ _) ?_
                      refine rr_hld 125 X (by omega) dX7_isDone_125 ?_
                      refine zz_ifB_ne 126 133 X.1 dX7_isDone_126 (by decide) (fun h126 => ?_) (fun h126 => ?_)
                      · skip
                        refine zz_iconst 133 X.1 (v := nI 0) dX7_isDone_133 rfl ?_
                        refine zz_topi (bI false) rfl ?_
                        refine rr_hst 134 hAp X (by omega) dX7_isDone_134 ?_
                        refine zz_iinc 135 X.1 4 (v := (nI (i + 1))) (lv' := [(5, .int (nI (i + 1))), (0, .ref (K 0)), (2, .int (nI s0)), (3, .int (nI 94)), (4, .int (nI b0))]) dX7_isDone_135 rfl (nI_add i 1) (by decide) rfl ?_
                        refine zz_goto 138 82 X.1 dX7_isDone_138 (by decide) ?_
                        refine zz_lvs [1, 2, 3, 4, 0] rfl ?_
                        exact ih82 (i + 1) (va_up hs1 ((1024 * s0) + i) false) (by omega) (sF_up2 hh (by rw [pX_in (by omega) (by omega), ea, h126]; rfl)) (by omega)
                      · skip
                        refine zz_iconst 129 X.1 (v := nI 1) dX7_isDone_129 rfl ?_
                        refine zz_goto 130 134 X.1 dX7_isDone_130 (by decide) ?_
                        refine zz_topi (bI true) rfl ?_
                        refine rr_hst 134 hAp X (by omega) dX7_isDone_134 ?_
                        refine zz_iinc 135 X.1 4 (v := (nI (i + 1))) (lv' := [(5, .int (nI (i + 1))), (0, .ref (K 0)), (2, .int (nI s0)), (3, .int (nI 94)), (4, .int (nI b0))]) dX7_isDone_135 rfl (nI_add i 1) (by decide) rfl ?_
                        refine zz_goto 138 82 X.1 dX7_isDone_138 (by decide) ?_
                        refine zz_lvs [1, 2, 3, 4, 0] rfl ?_
                        exact ih82 (i + 1) (va_up hs1 ((1024 * s0) + i) true) (by omega) (sF_up2 hh (by rw [pX_in (by omega) (by omega), ea, h126]; rfl)) (by omega)
            refine zz_lvs [4, 3, 2, 1, 0] rfl ?_
            exact C82 (b0 - a0 + 1) a0 hs (by omega) (flip_begin) (Nat.lt_succ_self _)
          · skip
            refine zz_iconst 72 X.1 (v := nI 0) dX7_isDone_72 rfl ?_
            refine zz_topi (bI false) rfl ?_
            rw [← hQ]
            refine zz_iret 73 X.1 hr (bI_nar _) hlk (F, hs, mv, G) ?_ (fun _ h _ => h) dX7_isDone_73
            refine ⟨fun hc => ?_, fun hc => ?_⟩ <;> first | (exfalso; omega) | (exact ⟨rfl, rfl⟩)

set_option maxHeartbeats 4000000 in
set_option maxRecDepth 100000 in
theorem kt_X7_isDone_94_2 (l : Launch) (D : va_G) (C : Nat → ClassId) (K : Nat → Nat) (hAp : RAp K) (F : Nat → Int32) (hs mv : Nat → Bool) (G : Nat → Nat → Int32) (k0 : Nat) (s0 : Nat) (a0 : Nat) (b0 : Nat) (hk0 : k0 < 100) (hs0 : s0 < 8) (h9 : G 9 k0 = nI s0) (h11 : G 11 k0 = nI a0) (h10 : G 10 k0 = nI 94) (hab : a0 < 1024 ∧ b0 ≤ 1024) (h12 : G 12 k0 = nI b0) : RMi l yX7_isDone wsX7_isDone rm_X7_isDone D C K [.int (nI k0)] F hs mv G (fun (r : Int32) (u : MSt) => (a0 ≤ b0 → r = (bI true) ∧ u = (F, sS hs s0 (pX (hM hs s0) a0 b0), mv, G)) ∧ (b0 < a0 → r = (bI false) ∧ u = (F, hs, mv, G))) := by
  refine RMi_of (lv := [(0, .ref (K 0)), (1, .int (nI k0))]) (cc := cX7_isDone) (maxL := 6) (ret := (some .boolean)) rfl rfl (by decide +kernel) (Nat.le_of_ble_eq_true rfl) rfl ?_
  intro p e s m args below meth c X hml hr hlk
  generalize hQ : MQ below _ args s 0 0 _ = Q
  refine zz_aload_n 0 X.1 0 dX7_isDone_0 rfl ?_
  refine rr_get 1 X 9 (by decide) (v := .ref (K 9)) rfl (by decide +kernel) rfl dX7_isDone_1 ?_
  refine zz_iload_n 4 X.1 1 dX7_isDone_4 rfl ?_
  refine rr_iald 5 X 3 9 (len := 100) (f := G 9) rfl (by omega) (by decide) dX7_isDone_5 ?_
  refine zz_topi (nI s0) (h9) ?_
  refine zz_istore_n 6 X.1 (lv' := [(2, .int (nI s0)), (0, .ref (K 0)), (1, .int (nI k0))]) dX7_isDone_6 (by decide) rfl ?_
  refine zz_aload_n 7 X.1 1 dX7_isDone_7 rfl ?_
  refine rr_get 8 X 10 (by decide) (v := .ref (K 10)) rfl (by decide +kernel) rfl dX7_isDone_8 ?_
  refine zz_iload_n 11 X.1 2 dX7_isDone_11 rfl ?_
  refine rr_iald 12 X 4 10 (len := 100) (f := G 10) rfl (by omega) (by decide) dX7_isDone_12 ?_
  refine zz_topi (nI 94) (h10) ?_
  refine zz_istore_n 13 X.1 (lv' := [(3, .int (nI 94)), (2, .int (nI s0)), (0, .ref (K 0)), (1, .int (nI k0))]) dX7_isDone_13 (by decide) rfl ?_
  refine zz_iload_n 14 X.1 0 dX7_isDone_14 rfl ?_
  refine zz_bipush 15 X.1 (v := nI 43) dX7_isDone_15 rfl ?_
  refine zz_icmp_eq 17 32 X.1 (nI_toInt (by omega)) (nI_toInt (by omega)) dX7_isDone_17 (by decide) (fun h17 => ?_) (fun h17 => ?_)
  · exfalso; omega
  · skip
    refine zz_iload_n 20 X.1 0 dX7_isDone_20 rfl ?_
    refine zz_bipush 21 X.1 (v := nI 45) dX7_isDone_21 rfl ?_
    refine zz_icmp_eq 23 32 X.1 (nI_toInt (by omega)) (nI_toInt (by omega)) dX7_isDone_23 (by decide) (fun h23 => ?_) (fun h23 => ?_)
    · exfalso; omega
    · skip
      refine zz_iload_n 26 X.1 0 dX7_isDone_26 rfl ?_
      refine zz_bipush 27 X.1 (v := nI 94) dX7_isDone_27 rfl ?_
      refine zz_icmp_ne 29 144 X.1 (nI_toInt (by omega)) (nI_toInt (by omega)) dX7_isDone_29 (by decide) (fun h29 => ?_) (fun h29 => ?_)
      · exfalso; omega
      · skip
        refine zz_aload_n 32 X.1 2 dX7_isDone_32 rfl ?_
        refine rr_get 33 X 12 (by decide) (v := .ref (K 12)) rfl (by decide +kernel) rfl dX7_isDone_33 ?_
        refine zz_iload_n 36 X.1 3 dX7_isDone_36 rfl ?_
        refine rr_iald 37 X 6 12 (len := 100) (f := G 12) rfl (by omega) (by decide) dX7_isDone_37 ?_
        refine zz_topi (nI b0) (h12) ?_
        refine zz_iconst 38 X.1 (v := (-1)) dX7_isDone_38 (by decide) ?_
        refine zz_icmp_ne 39 53 X.1 (nI_toInt (by omega)) (by decide : (-1 : Int32).toInt = -1) dX7_isDone_39 (by decide) (fun h39 => ?_) (fun h39 => ?_)
        · skip
          refine zz_aload_n 53 X.1 2 dX7_isDone_53 rfl ?_
          refine rr_get 54 X 12 (by decide) (v := .ref (K 12)) rfl (by decide +kernel) rfl dX7_isDone_54 ?_
          refine zz_iload_n 57 X.1 3 dX7_isDone_57 rfl ?_
          refine rr_iald 58 X 6 12 (len := 100) (f := G 12) rfl (by omega) (by decide) dX7_isDone_58 ?_
          refine zz_topi (nI b0) (h12) ?_
          refine zz_istore 59 X.1 (lv' := [(4, .int (nI b0)), (3, .int (nI 94)), (2, .int (nI s0)), (0, .ref (K 0)), (1, .int (nI k0))]) dX7_isDone_59 (by decide) rfl ?_
          refine zz_aload_n 61 X.1 3 dX7_isDone_61 rfl ?_
          refine rr_get 62 X 11 (by decide) (v := .ref (K 11)) rfl (by decide +kernel) rfl dX7_isDone_62 ?_
          refine zz_iload_n 65 X.1 4 dX7_isDone_65 rfl ?_
          refine rr_iald 66 X 5 11 (len := 100) (f := G 11) rfl (by omega) (by decide) dX7_isDone_66 ?_
          refine zz_topi (nI a0) (h11) ?_
          refine zz_iload 67 X.1 0 dX7_isDone_67 rfl ?_
          refine zz_icmp_le 69 74 X.1 (nI_toInt (by omega)) (nI_toInt (by omega)) dX7_isDone_69 (by decide) (fun h69 => ?_) (fun h69 => ?_)
          · skip
            refine zz_aload_n 74 X.1 3 dX7_isDone_74 rfl ?_
            refine rr_get 75 X 11 (by decide) (v := .ref (K 11)) rfl (by decide +kernel) rfl dX7_isDone_75 ?_
            refine zz_iload_n 78 X.1 4 dX7_isDone_78 rfl ?_
            refine rr_iald 79 X 5 11 (len := 100) (f := G 11) rfl (by omega) (by decide) dX7_isDone_79 ?_
            refine zz_topi (nI a0) (h11) ?_
            refine zz_istore 80 X.1 (lv' := [(5, .int (nI a0)), (4, .int (nI b0)), (3, .int (nI 94)), (2, .int (nI s0)), (0, .ref (K 0)), (1, .int (nI k0))]) dX7_isDone_80 (by decide) rfl ?_
            have C82 : ∀ (d : Nat) (i : Nat) (hs1 : Nat → Bool) (hi : a0 ≤ i ∧ i ≤ b0) (hh : hs1 = sF hs s0 (pX (hM hs s0) a0 b0) i) (hd : b0 - i < d), ZZ p l e rm_X7_isDone s m args below meth c 0 0 Q (zz_A (RAd K) s.heap.size) (RP D C K F hs1 mv G) 6 [(0, .ref (K 0)), (2, .int (nI s0)), (3, .int (nI 94)), (4, .int (nI b0)), (5, .int (nI i))] [] 82 := by
              intro d
              induction d with
              | zero => intro i hs1 hi hh hd; exact absurd hd (Nat.not_lt_zero _)
              | succ d ih82 =>
                intro i hs1 hi hh hd
                have ea : hM hs s0 i = hs1 (1024 * s0 + i) := by rw [hh, sF_rd (Nat.le_refl _)]; rfl
                refine zz_iload 82 X.1 4 dX7_isDone_82 rfl ?_
                refine zz_iload 84 X.1 3 dX7_isDone_84 rfl ?_
                refine zz_icmp_ge 86 141 X.1 (nI_toInt (by omega)) (nI_toInt (by omega)) dX7_isDone_86 (by decide) (fun h86 => ?_) (fun h86 => ?_)
                · skip
                  refine rr_hs (hs' := sS hs s0 (pX (hM hs s0) a0 b0)) (hh.trans (flip_end (by omega) (by omega))) ?_
                  refine zz_goto 141 217 X.1 dX7_isDone_141 (by decide) ?_
                  refine zz_iconst 217 X.1 (v := nI 1) dX7_isDone_217 rfl ?_
                  refine zz_topi (bI true) rfl ?_
                  rw [← hQ]
                  refine zz_iret 218 X.1 hr (bI_nar _) hlk (F, sS hs s0 (pX (hM hs s0) a0 b0), mv, G) ?_ (fun _ h _ => h) dX7_isDone_218
                  refine ⟨fun hc => ?_, fun hc => ?_⟩ <;> first | (exfalso; omega) | (exact ⟨rfl, rfl⟩)
                · skip
                  refine zz_aload_n 89 X.1 0 dX7_isDone_89 rfl ?_
                  refine rr_get 90 X 1 (by decide) (v := .ref (K 1)) rfl (by decide +kernel) rfl dX7_isDone_90 ?_
                  refine zz_sipush 93 X.1 (v := nI 1024) dX7_isDone_93 rfl ?_
                  refine zz_iload_n 96 X.1 1 dX7_isDone_96 rfl ?_
                  refine zz_imul 97 X.1 (v := (nI (1024 * s0))) dX7_isDone_97 (pk_mul _ _) ?_
                  refine zz_iload 98 X.1 4 dX7_isDone_98 rfl ?_
                  refine zz_iadd 100 X.1 (v := (nI ((1024 * s0) + i))) dX7_isDone_100 (nI_add _ _) ?_
                  refine zz_iload_n 101 X.1 2 dX7_isDone_101 rfl ?_
                  refine zz_bipush 102 X.1 (v := nI 43) dX7_isDone_102 rfl ?_
                  refine zz_icmp_eq 104 129 X.1 (nI_toInt (by omega)) (nI_toInt (by omega)) dX7_isDone_104 (by decide) (fun h104 => ?_) (fun h104 => ?_)
                  · exfalso; omega
                  · skip
                    refine zz_iload_n 107 X.1 2 dX7_isDone_107 rfl ?_
                    refine zz_bipush 108 X.1 (v := nI 94) dX7_isDone_108 rfl ?_
                    refine zz_icmp_ne 110 133 X.1 (nI_toInt (by omega)) (nI_toInt (by omega)) dX7_isDone_110 (by decide) (fun h110 => ?_) (fun h110 => ?_)
                    · exfalso; omega
                    · skip
                      refine zz_aload_n 113 X.1 0 dX7_isDone_113 rfl ?_
                      refine rr_get 114 X 1 (by decide) (v := .ref (K 1)) rfl (by decide +kernel) rfl dX7_isDone_114 ?_
                      refine zz_sipush 117 X.1 (v := nI 1024) dX7_isDone_117 rfl ?_
                      refine zz_iload_n 120 X.1 1 dX7_isDone_120 rfl ?_
                      refine zz_imul 121 X.1 (v := (nI (1024 * s0))) dX7_isDone_121 (pk_mul _ _) ?_
                      refine zz_iload 122 X.1 4 dX7_isDone_122 rfl ?_
                      refine zz_iadd 124 X.1 (v := (nI ((1024 * s0) + i))) dX7_isDone_124 (nI_add _ _) ?_
                      refine rr_hld 125 X (by omega) dX7_isDone_125 ?_
                      refine zz_ifB_ne 126 133 X.1 dX7_isDone_126 (by decide) (fun h126 => ?_) (fun h126 => ?_)
                      · skip
                        refine zz_iconst 133 X.1 (v := nI 0) dX7_isDone_133 rfl ?_
                        refine zz_topi (bI false) rfl ?_
                        refine rr_hst 134 hAp X (by omega) dX7_isDone_134 ?_
                        refine zz_iinc 135 X.1 4 (v := (nI (i + 1))) (lv' := [(5, .int (nI (i + 1))), (0, .ref (K 0)), (2, .int (nI s0)), (3, .int (nI 94)), (4, .int (nI b0))]) dX7_isDone_135 rfl (nI_add i 1) (by decide) rfl ?_
                        refine zz_goto 138 82 X.1 dX7_isDone_138 (by decide) ?_
                        refine zz_lvs [1, 2, 3, 4, 0] rfl ?_
                        exact ih82 (i + 1) (va_up hs1 ((1024 * s0) + i) false) (by omega) (sF_up2 hh (by rw [pX_in (by omega) (by omega), ea, h126]; rfl)) (by omega)
                      · skip
                        refine zz_iconst 129 X.1 (v := nI 1) dX7_isDone_129 rfl ?_
                        refine zz_goto 130 134 X.1 dX7_isDone_130 (by decide) ?_
                        refine zz_topi (bI true) rfl ?_
                        refine rr_hst 134 hAp X (by omega) dX7_isDone_134 ?_
                        refine zz_iinc 135 X.1 4 (v := (nI (i + 1))) (lv' := [(5, .int (nI (i + 1))), (0, .ref (K 0)), (2, .int (nI s0)), (3, .int (nI 94)), (4, .int (nI b0))]) dX7_isDone_135 rfl (nI_add i 1) (by decide) rfl ?_
                        refine zz_goto 138 82 X.1 dX7_isDone_138 (by decide) ?_
                        refine zz_lvs [1, 2, 3, 4, 0] rfl ?_
                        exact ih82 (i + 1) (va_up hs1 ((1024 * s0) + i) true) (by omega) (sF_up2 hh (by rw [pX_in (by omega) (by omega), ea, h126]; rfl)) (by omega)
            refine zz_lvs [4, 3, 2, 1, 0] rfl ?_
            exact C82 (b0 - a0 + 1) a0 hs (by omega) (flip_begin) (Nat.lt_succ_self _)
          · skip
            refine zz_iconst 72 X.1 (v := nI 0) dX7_isDone_72 rfl ?_
            refine zz_topi (bI false) rfl ?_
            rw [← hQ]
            refine zz_iret 73 X.1 hr (bI_nar _) hlk (F, hs, mv, G) ?_ (fun _ h _ => h) dX7_isDone_73
            refine ⟨fun hc => ?_, fun hc => ?_⟩ <;> first | (exfalso; omega) | (exact ⟨rfl, rfl⟩)
        · exfalso; omega

set_option maxHeartbeats 4000000 in
set_option maxRecDepth 100000 in
theorem kt_X7_isDone_91 (l : Launch) (D : va_G) (C : Nat → ClassId) (K : Nat → Nat) (hAp : RAp K) (F : Nat → Int32) (hs mv : Nat → Bool) (G : Nat → Nat → Int32) (k0 : Nat) (s0 : Nat) (a0 : Nat) (n0 : Nat) (lv : Nat → Nat) (hk0 : k0 < 100) (hs0 : s0 < 8) (h9 : G 9 k0 = nI s0) (h11 : G 11 k0 = nI a0) (h10 : G 10 k0 = nI 91) (h12 : G 12 k0 = nI n0) (han : a0 + n0 ≤ 200) (hlv : ∀ j, j < n0 → G 13 (a0 + j) = nI (lv j) ∧ lv j < 1024) : RMi l yX7_isDone wsX7_isDone rm_X7_isDone D C K [.int (nI k0)] F hs mv G (fun (r : Int32) (u : MSt) => r = (bI true) ∧ u = (F, sS hs s0 (pLv lv n0), mv, G)) := by
  refine RMi_of (lv := [(0, .ref (K 0)), (1, .int (nI k0))]) (cc := cX7_isDone) (maxL := 6) (ret := (some .boolean)) rfl rfl (by decide +kernel) (Nat.le_of_ble_eq_true rfl) rfl ?_
  intro p e s m args below meth c X hml hr hlk
  generalize hQ : MQ below _ args s 0 0 _ = Q
  refine zz_aload_n 0 X.1 0 dX7_isDone_0 rfl ?_
  refine rr_get 1 X 9 (by decide) (v := .ref (K 9)) rfl (by decide +kernel) rfl dX7_isDone_1 ?_
  refine zz_iload_n 4 X.1 1 dX7_isDone_4 rfl ?_
  refine rr_iald 5 X 3 9 (len := 100) (f := G 9) rfl (by omega) (by decide) dX7_isDone_5 ?_
  refine zz_topi (nI s0) (h9) ?_
  refine zz_istore_n 6 X.1 (lv' := [(2, .int (nI s0)), (0, .ref (K 0)), (1, .int (nI k0))]) dX7_isDone_6 (by decide) rfl ?_
  refine zz_aload_n 7 X.1 1 dX7_isDone_7 rfl ?_
  refine rr_get 8 X 10 (by decide) (v := .ref (K 10)) rfl (by decide +kernel) rfl dX7_isDone_8 ?_
  refine zz_iload_n 11 X.1 2 dX7_isDone_11 rfl ?_
  refine rr_iald 12 X 4 10 (len := 100) (f := G 10) rfl (by omega) (by decide) dX7_isDone_12 ?_
  refine zz_topi (nI 91) (h10) ?_
  refine zz_istore_n 13 X.1 (lv' := [(3, .int (nI 91)), (2, .int (nI s0)), (0, .ref (K 0)), (1, .int (nI k0))]) dX7_isDone_13 (by decide) rfl ?_
  refine zz_iload_n 14 X.1 0 dX7_isDone_14 rfl ?_
  refine zz_bipush 15 X.1 (v := nI 43) dX7_isDone_15 rfl ?_
  refine zz_icmp_eq 17 32 X.1 (nI_toInt (by omega)) (nI_toInt (by omega)) dX7_isDone_17 (by decide) (fun h17 => ?_) (fun h17 => ?_)
  · exfalso; omega
  · skip
    refine zz_iload_n 20 X.1 0 dX7_isDone_20 rfl ?_
    refine zz_bipush 21 X.1 (v := nI 45) dX7_isDone_21 rfl ?_
    refine zz_icmp_eq 23 32 X.1 (nI_toInt (by omega)) (nI_toInt (by omega)) dX7_isDone_23 (by decide) (fun h23 => ?_) (fun h23 => ?_)
    · exfalso; omega
    · skip
      refine zz_iload_n 26 X.1 0 dX7_isDone_26 rfl ?_
      refine zz_bipush 27 X.1 (v := nI 94) dX7_isDone_27 rfl ?_
      refine zz_icmp_ne 29 144 X.1 (nI_toInt (by omega)) (nI_toInt (by omega)) dX7_isDone_29 (by decide) (fun h29 => ?_) (fun h29 => ?_)
      · skip
        refine zz_iload_n 144 X.1 0 dX7_isDone_144 rfl ?_
        refine zz_bipush 145 X.1 (v := nI 91) dX7_isDone_145 rfl ?_
        refine zz_icmp_ne 147 204 X.1 (nI_toInt (by omega)) (nI_toInt (by omega)) dX7_isDone_147 (by decide) (fun h147 => ?_) (fun h147 => ?_)
        · exfalso; omega
        · skip
          refine zz_aload_n 150 X.1 2 dX7_isDone_150 rfl ?_
          refine zz_iload_n 151 X.1 1 dX7_isDone_151 rfl ?_
          refine rr_callVv 152 X hml (As := [.int (nI s0)]) (kt_X7_empties l D C K hAp F hs mv G s0 (by first | rfl | assumption | omega)) gX7_isDone_X7_empties rfl ⟨rfl, rfl⟩ yd_X7_empties ⟨Nat.le_of_ble_eq_true rfl, Nat.le_of_ble_eq_true rfl⟩ rfl rfl (Nat.le_of_ble_eq_true rfl) dX7_isDone_152 ?_
          rintro ⟨F1, hs1, mv1, G1⟩ hu1
          cases hu1
          refine zz_world (P' := (RP D C K F (sS hs s0 (fun _ => false)) mv G)) (fun _ h => h) ?_
          refine zz_iconst 155 X.1 (v := nI 0) dX7_isDone_155 rfl ?_
          refine zz_istore 156 X.1 (lv' := [(4, .int (nI 0)), (3, .int (nI 91)), (2, .int (nI s0)), (0, .ref (K 0)), (1, .int (nI k0))]) dX7_isDone_156 (by decide) rfl ?_
          have C158 : ∀ (d : Nat) (i : Nat) (hs1 : Nat → Bool) (hi : i ≤ n0) (hh : hs1 = sS hs s0 (pLv lv i)) (hd : n0 - i < d), ZZ p l e rm_X7_isDone s m args below meth c 0 0 Q (zz_A (RAd K) s.heap.size) (RP D C K F hs1 mv G) 6 [(0, .ref (K 0)), (1, .int (nI k0)), (2, .int (nI s0)), (4, .int (nI i))] [] 158 := by
            intro d
            induction d with
            | zero => intro i hs1 hi hh hd; exact absurd hd (Nat.not_lt_zero _)
            | succ d ih158 =>
              intro i hs1 hi hh hd
              refine zz_iload 158 X.1 3 dX7_isDone_158 rfl ?_
              refine zz_aload_n 160 X.1 0 dX7_isDone_160 rfl ?_
              refine rr_get 161 X 12 (by decide) (v := .ref (K 12)) rfl (by decide +kernel) rfl dX7_isDone_161 ?_
              refine zz_iload_n 164 X.1 1 dX7_isDone_164 rfl ?_
              refine rr_iald 165 X 6 12 (len := 100) (f := G 12) rfl (by omega) (by decide) dX7_isDone_165 ?_
              refine zz_topi (nI n0) (h12) ?_
              refine zz_icmp_ge 166 201 X.1 (nI_toInt (by omega)) (nI_toInt (by omega)) dX7_isDone_166 (by decide) (fun h166 => ?_) (fun h166 => ?_)
              · skip
                refine rr_hs (hs' := sS hs s0 (pLv lv n0)) (hh.trans (by rw [show i = n0 by omega])) ?_
                refine zz_goto 201 217 X.1 dX7_isDone_201 (by decide) ?_
                refine zz_iconst 217 X.1 (v := nI 1) dX7_isDone_217 rfl ?_
                refine zz_topi (bI true) rfl ?_
                rw [← hQ]
                refine zz_iret 218 X.1 hr (bI_nar _) hlk (F, sS hs s0 (pLv lv n0), mv, G) ?_ (fun _ h _ => h) dX7_isDone_218
                exact ⟨rfl, rfl⟩
              · skip
                have hlvi := (hlv i (by omega)).2
                refine zz_aload_n 169 X.1 0 dX7_isDone_169 rfl ?_
                refine rr_get 170 X 1 (by decide) (v := .ref (K 1)) rfl (by decide +kernel) rfl dX7_isDone_170 ?_
                refine zz_sipush 173 X.1 (v := nI 1024) dX7_isDone_173 rfl ?_
                refine zz_iload_n 176 X.1 2 dX7_isDone_176 rfl ?_
                refine zz_imul 177 X.1 (v := (nI (1024 * s0))) dX7_isDone_177 (pk_mul _ _) ?_
                refine zz_aload_n 178 X.1 0 dX7_isDone_178 rfl ?_
                refine rr_get 179 X 13 (by decide) (v := .ref (K 13)) rfl (by decide +kernel) rfl dX7_isDone_179 ?_
                refine zz_aload_n 182 X.1 0 dX7_isDone_182 rfl ?_
                refine rr_get 183 X 11 (by decide) (v := .ref (K 11)) rfl (by decide +kernel) rfl dX7_isDone_183 ?_
                refine zz_iload_n 186 X.1 1 dX7_isDone_186 rfl ?_
                refine rr_iald 187 X 5 11 (len := 100) (f := G 11) rfl (by omega) (by decide) dX7_isDone_187 ?_
                refine zz_topi (nI a0) (h11) ?_
                refine zz_iload 188 X.1 3 dX7_isDone_188 rfl ?_
                refine zz_iadd 190 X.1 (v := (nI (a0 + i))) dX7_isDone_190 (nI_add _ _) ?_
                refine rr_iald 191 X 7 13 (len := 200) (f := G 13) rfl (by omega) (by decide) dX7_isDone_191 ?_
                refine zz_topi (nI (lv i)) ((hlv i (by omega)).1) ?_
                refine zz_iadd 192 X.1 (v := (nI ((1024 * s0) + (lv i)))) dX7_isDone_192 (nI_add _ _) ?_
                refine zz_iconst 193 X.1 (v := nI 1) dX7_isDone_193 rfl ?_
                refine zz_topi (bI true) rfl ?_
                refine rr_hst 194 hAp X (by omega) dX7_isDone_194 ?_
                refine zz_iinc 195 X.1 3 (v := (nI (i + 1))) (lv' := [(4, .int (nI (i + 1))), (0, .ref (K 0)), (1, .int (nI k0)), (2, .int (nI s0))]) dX7_isDone_195 rfl (nI_add i 1) (by decide) rfl ?_
                refine zz_goto 198 158 X.1 dX7_isDone_198 (by decide) ?_
                refine zz_lvs [1, 2, 3, 0] rfl ?_
                exact ih158 (i + 1) (va_up hs1 ((1024 * s0) + (lv i)) true) (by omega) (sF_upL hh (hlv i (by omega)).2) (by omega)
          refine zz_lvs [3, 4, 2, 0] rfl ?_
          exact C158 (n0 - 0 + 1) 0 (sS hs s0 (fun _ => false)) (by omega) (rfl) (Nat.lt_succ_self _)
      · exfalso; omega

set_option maxHeartbeats 4000000 in
set_option maxRecDepth 100000 in
theorem kt_X7_isDone_38 (l : Launch) (D : va_G) (C : Nat → ClassId) (K : Nat → Nat) (hAp : RAp K) (F : Nat → Int32) (hs mv : Nat → Bool) (G : Nat → Nat → Int32) (k0 : Nat) (s0 : Nat) (a0 : Nat) (hk0 : k0 < 100) (hs0 : s0 < 8) (h9 : G 9 k0 = nI s0) (h11 : G 11 k0 = nI a0) (h10 : G 10 k0 = nI 38) (ha0 : a0 < 8) : RMi l yX7_isDone wsX7_isDone rm_X7_isDone D C K [.int (nI k0)] F hs mv G (fun (r : Int32) (u : MSt) => r = (bI true) ∧ u = (F, sS hs s0 (fun i => pJ 38 (hM hs s0 i) (hM hs a0 i)), mv, G)) := by
  refine RMi_of (lv := [(0, .ref (K 0)), (1, .int (nI k0))]) (cc := cX7_isDone) (maxL := 6) (ret := (some .boolean)) rfl rfl (by decide +kernel) (Nat.le_of_ble_eq_true rfl) rfl ?_
  intro p e s m args below meth c X hml hr hlk
  generalize hQ : MQ below _ args s 0 0 _ = Q
  refine zz_aload_n 0 X.1 0 dX7_isDone_0 rfl ?_
  refine rr_get 1 X 9 (by decide) (v := .ref (K 9)) rfl (by decide +kernel) rfl dX7_isDone_1 ?_
  refine zz_iload_n 4 X.1 1 dX7_isDone_4 rfl ?_
  refine rr_iald 5 X 3 9 (len := 100) (f := G 9) rfl (by omega) (by decide) dX7_isDone_5 ?_
  refine zz_topi (nI s0) (h9) ?_
  refine zz_istore_n 6 X.1 (lv' := [(2, .int (nI s0)), (0, .ref (K 0)), (1, .int (nI k0))]) dX7_isDone_6 (by decide) rfl ?_
  refine zz_aload_n 7 X.1 1 dX7_isDone_7 rfl ?_
  refine rr_get 8 X 10 (by decide) (v := .ref (K 10)) rfl (by decide +kernel) rfl dX7_isDone_8 ?_
  refine zz_iload_n 11 X.1 2 dX7_isDone_11 rfl ?_
  refine rr_iald 12 X 4 10 (len := 100) (f := G 10) rfl (by omega) (by decide) dX7_isDone_12 ?_
  refine zz_topi (nI 38) (h10) ?_
  refine zz_istore_n 13 X.1 (lv' := [(3, .int (nI 38)), (2, .int (nI s0)), (0, .ref (K 0)), (1, .int (nI k0))]) dX7_isDone_13 (by decide) rfl ?_
  refine zz_iload_n 14 X.1 0 dX7_isDone_14 rfl ?_
  refine zz_bipush 15 X.1 (v := nI 43) dX7_isDone_15 rfl ?_
  refine zz_icmp_eq 17 32 X.1 (nI_toInt (by omega)) (nI_toInt (by omega)) dX7_isDone_17 (by decide) (fun h17 => ?_) (fun h17 => ?_)
  · exfalso; omega
  · skip
    refine zz_iload_n 20 X.1 0 dX7_isDone_20 rfl ?_
    refine zz_bipush 21 X.1 (v := nI 45) dX7_isDone_21 rfl ?_
    refine zz_icmp_eq 23 32 X.1 (nI_toInt (by omega)) (nI_toInt (by omega)) dX7_isDone_23 (by decide) (fun h23 => ?_) (fun h23 => ?_)
    · exfalso; omega
    · skip
      refine zz_iload_n 26 X.1 0 dX7_isDone_26 rfl ?_
      refine zz_bipush 27 X.1 (v := nI 94) dX7_isDone_27 rfl ?_
      refine zz_icmp_ne 29 144 X.1 (nI_toInt (by omega)) (nI_toInt (by omega)) dX7_isDone_29 (by decide) (fun h29 => ?_) (fun h29 => ?_)
      · skip
        refine zz_iload_n 144 X.1 0 dX7_isDone_144 rfl ?_
        refine zz_bipush 145 X.1 (v := nI 91) dX7_isDone_145 rfl ?_
        refine zz_icmp_ne 147 204 X.1 (nI_toInt (by omega)) (nI_toInt (by omega)) dX7_isDone_147 (by decide) (fun h147 => ?_) (fun h147 => ?_)
        · skip
          refine zz_aload_n 204 X.1 2 dX7_isDone_204 rfl ?_
          refine zz_iload_n 205 X.1 1 dX7_isDone_205 rfl ?_
          refine zz_aload_n 206 X.1 2 dX7_isDone_206 rfl ?_
          refine rr_get 207 X 11 (by decide) (v := .ref (K 11)) rfl (by decide +kernel) rfl dX7_isDone_207 ?_
          refine zz_iload_n 210 X.1 3 dX7_isDone_210 rfl ?_
          refine rr_iald 211 X 5 11 (len := 100) (f := G 11) rfl (by omega) (by decide) dX7_isDone_211 ?_
          refine zz_topi (nI a0) (h11) ?_
          refine zz_iload_n 212 X.1 0 dX7_isDone_212 rfl ?_
          refine rr_callVi 213 X hml (As := [.int (nI s0), .int (nI a0), .int (nI 38)]) (kt_X7_joins_38 l D C K hAp F hs mv G s0 a0 (by first | rfl | assumption | omega) (by first | rfl | assumption | omega)) gX7_isDone_X7_joins rfl ⟨rfl, rfl⟩ yd_X7_joins ⟨Nat.le_of_ble_eq_true rfl, Nat.le_of_ble_eq_true rfl⟩ rfl rfl (Nat.le_of_ble_eq_true rfl) dX7_isDone_213 ?_
          rintro r1 ⟨F1, hs1, mv1, G1⟩ hu1
          obtain ⟨rfl, hv1⟩ := hu1
          cases hv1
          refine zz_world (P' := (RP D C K F (sS hs s0 (fun i => pJ 38 (hM hs s0 i) (hM hs a0 i))) mv G)) (fun _ h => h) ?_
          refine zz_pop 216 X.1 dX7_isDone_216 rfl ?_
          refine zz_iconst 217 X.1 (v := nI 1) dX7_isDone_217 rfl ?_
          refine zz_topi (bI true) rfl ?_
          rw [← hQ]
          refine zz_iret 218 X.1 hr (bI_nar _) hlk (F, sS hs s0 (fun i => pJ 38 (hM hs s0 i) (hM hs a0 i)), mv, G) ?_ (fun _ h _ => h) dX7_isDone_218
          exact ⟨rfl, rfl⟩
        · exfalso; omega
      · exfalso; omega

set_option maxHeartbeats 4000000 in
set_option maxRecDepth 100000 in
theorem kt_X7_isDone_124 (l : Launch) (D : va_G) (C : Nat → ClassId) (K : Nat → Nat) (hAp : RAp K) (F : Nat → Int32) (hs mv : Nat → Bool) (G : Nat → Nat → Int32) (k0 : Nat) (s0 : Nat) (a0 : Nat) (hk0 : k0 < 100) (hs0 : s0 < 8) (h9 : G 9 k0 = nI s0) (h11 : G 11 k0 = nI a0) (h10 : G 10 k0 = nI 124) (ha0 : a0 < 8) : RMi l yX7_isDone wsX7_isDone rm_X7_isDone D C K [.int (nI k0)] F hs mv G (fun (r : Int32) (u : MSt) => r = (bI true) ∧ u = (F, sS hs s0 (fun i => pJ 124 (hM hs s0 i) (hM hs a0 i)), mv, G)) := by
  refine RMi_of (lv := [(0, .ref (K 0)), (1, .int (nI k0))]) (cc := cX7_isDone) (maxL := 6) (ret := (some .boolean)) rfl rfl (by decide +kernel) (Nat.le_of_ble_eq_true rfl) rfl ?_
  intro p e s m args below meth c X hml hr hlk
  generalize hQ : MQ below _ args s 0 0 _ = Q
  refine zz_aload_n 0 X.1 0 dX7_isDone_0 rfl ?_
  refine rr_get 1 X 9 (by decide) (v := .ref (K 9)) rfl (by decide +kernel) rfl dX7_isDone_1 ?_
  refine zz_iload_n 4 X.1 1 dX7_isDone_4 rfl ?_
  refine rr_iald 5 X 3 9 (len := 100) (f := G 9) rfl (by omega) (by decide) dX7_isDone_5 ?_
  refine zz_topi (nI s0) (h9) ?_
  refine zz_istore_n 6 X.1 (lv' := [(2, .int (nI s0)), (0, .ref (K 0)), (1, .int (nI k0))]) dX7_isDone_6 (by decide) rfl ?_
  refine zz_aload_n 7 X.1 1 dX7_isDone_7 rfl ?_
  refine rr_get 8 X 10 (by decide) (v := .ref (K 10)) rfl (by decide +kernel) rfl dX7_isDone_8 ?_
  refine zz_iload_n 11 X.1 2 dX7_isDone_11 rfl ?_
  refine rr_iald 12 X 4 10 (len := 100) (f := G 10) rfl (by omega) (by decide) dX7_isDone_12 ?_
  refine zz_topi (nI 124) (h10) ?_
  refine zz_istore_n 13 X.1 (lv' := [(3, .int (nI 124)), (2, .int (nI s0)), (0, .ref (K 0)), (1, .int (nI k0))]) dX7_isDone_13 (by decide) rfl ?_
  refine zz_iload_n 14 X.1 0 dX7_isDone_14 rfl ?_
  refine zz_bipush 15 X.1 (v := nI 43) dX7_isDone_15 rfl ?_
  refine zz_icmp_eq 17 32 X.1 (nI_toInt (by omega)) (nI_toInt (by omega)) dX7_isDone_17 (by decide) (fun h17 => ?_) (fun h17 => ?_)
  · exfalso; omega
  · skip
    refine zz_iload_n 20 X.1 0 dX7_isDone_20 rfl ?_
    refine zz_bipush 21 X.1 (v := nI 45) dX7_isDone_21 rfl ?_
    refine zz_icmp_eq 23 32 X.1 (nI_toInt (by omega)) (nI_toInt (by omega)) dX7_isDone_23 (by decide) (fun h23 => ?_) (fun h23 => ?_)
    · exfalso; omega
    · skip
      refine zz_iload_n 26 X.1 0 dX7_isDone_26 rfl ?_
      refine zz_bipush 27 X.1 (v := nI 94) dX7_isDone_27 rfl ?_
      refine zz_icmp_ne 29 144 X.1 (nI_toInt (by omega)) (nI_toInt (by omega)) dX7_isDone_29 (by decide) (fun h29 => ?_) (fun h29 => ?_)
      · skip
        refine zz_iload_n 144 X.1 0 dX7_isDone_144 rfl ?_
        refine zz_bipush 145 X.1 (v := nI 91) dX7_isDone_145 rfl ?_
        refine zz_icmp_ne 147 204 X.1 (nI_toInt (by omega)) (nI_toInt (by omega)) dX7_isDone_147 (by decide) (fun h147 => ?_) (fun h147 => ?_)
        · skip
          refine zz_aload_n 204 X.1 2 dX7_isDone_204 rfl ?_
          refine zz_iload_n 205 X.1 1 dX7_isDone_205 rfl ?_
          refine zz_aload_n 206 X.1 2 dX7_isDone_206 rfl ?_
          refine rr_get 207 X 11 (by decide) (v := .ref (K 11)) rfl (by decide +kernel) rfl dX7_isDone_207 ?_
          refine zz_iload_n 210 X.1 3 dX7_isDone_210 rfl ?_
          refine rr_iald 211 X 5 11 (len := 100) (f := G 11) rfl (by omega) (by decide) dX7_isDone_211 ?_
          refine zz_topi (nI a0) (h11) ?_
          refine zz_iload_n 212 X.1 0 dX7_isDone_212 rfl ?_
          refine rr_callVi 213 X hml (As := [.int (nI s0), .int (nI a0), .int (nI 124)]) (kt_X7_joins_124 l D C K hAp F hs mv G s0 a0 (by first | rfl | assumption | omega) (by first | rfl | assumption | omega)) gX7_isDone_X7_joins rfl ⟨rfl, rfl⟩ yd_X7_joins ⟨Nat.le_of_ble_eq_true rfl, Nat.le_of_ble_eq_true rfl⟩ rfl rfl (Nat.le_of_ble_eq_true rfl) dX7_isDone_213 ?_
          rintro r1 ⟨F1, hs1, mv1, G1⟩ hu1
          obtain ⟨rfl, hv1⟩ := hu1
          cases hv1
          refine zz_world (P' := (RP D C K F (sS hs s0 (fun i => pJ 124 (hM hs s0 i) (hM hs a0 i))) mv G)) (fun _ h => h) ?_
          refine zz_pop 216 X.1 dX7_isDone_216 rfl ?_
          refine zz_iconst 217 X.1 (v := nI 1) dX7_isDone_217 rfl ?_
          refine zz_topi (bI true) rfl ?_
          rw [← hQ]
          refine zz_iret 218 X.1 hr (bI_nar _) hlk (F, sS hs s0 (fun i => pJ 124 (hM hs s0 i) (hM hs a0 i)), mv, G) ?_ (fun _ h _ => h) dX7_isDone_218
          exact ⟨rfl, rfl⟩
        · exfalso; omega
      · exfalso; omega

set_option maxHeartbeats 4000000 in
set_option maxRecDepth 100000 in
theorem kt_X7_isDone_126 (l : Launch) (D : va_G) (C : Nat → ClassId) (K : Nat → Nat) (hAp : RAp K) (F : Nat → Int32) (hs mv : Nat → Bool) (G : Nat → Nat → Int32) (k0 : Nat) (s0 : Nat) (a0 : Nat) (hk0 : k0 < 100) (hs0 : s0 < 8) (h9 : G 9 k0 = nI s0) (h11 : G 11 k0 = nI a0) (h10 : G 10 k0 = nI 126) (ha0 : a0 < 8) : RMi l yX7_isDone wsX7_isDone rm_X7_isDone D C K [.int (nI k0)] F hs mv G (fun (r : Int32) (u : MSt) => r = (bI true) ∧ u = (F, sS hs s0 (fun i => pJ 126 (hM hs s0 i) (hM hs a0 i)), mv, G)) := by
  refine RMi_of (lv := [(0, .ref (K 0)), (1, .int (nI k0))]) (cc := cX7_isDone) (maxL := 6) (ret := (some .boolean)) rfl rfl (by decide +kernel) (Nat.le_of_ble_eq_true rfl) rfl ?_
  intro p e s m args below meth c X hml hr hlk
  generalize hQ : MQ below _ args s 0 0 _ = Q
  refine zz_aload_n 0 X.1 0 dX7_isDone_0 rfl ?_
  refine rr_get 1 X 9 (by decide) (v := .ref (K 9)) rfl (by decide +kernel) rfl dX7_isDone_1 ?_
  refine zz_iload_n 4 X.1 1 dX7_isDone_4 rfl ?_
  refine rr_iald 5 X 3 9 (len := 100) (f := G 9) rfl (by omega) (by decide) dX7_isDone_5 ?_
  refine zz_topi (nI s0) (h9) ?_
  refine zz_istore_n 6 X.1 (lv' := [(2, .int (nI s0)), (0, .ref (K 0)), (1, .int (nI k0))]) dX7_isDone_6 (by decide) rfl ?_
  refine zz_aload_n 7 X.1 1 dX7_isDone_7 rfl ?_
  refine rr_get 8 X 10 (by decide) (v := .ref (K 10)) rfl (by decide +kernel) rfl dX7_isDone_8 ?_
  refine zz_iload_n 11 X.1 2 dX7_isDone_11 rfl ?_
  refine rr_iald 12 X 4 10 (len := 100) (f := G 10) rfl (by omega) (by decide) dX7_isDone_12 ?_
  refine zz_topi (nI 126) (h10) ?_
  refine zz_istore_n 13 X.1 (lv' := [(3, .int (nI 126)), (2, .int (nI s0)), (0, .ref (K 0)), (1, .int (nI k0))]) dX7_isDone_13 (by decide) rfl ?_
  refine zz_iload_n 14 X.1 0 dX7_isDone_14 rfl ?_
  refine zz_bipush 15 X.1 (v := nI 43) dX7_isDone_15 rfl ?_
  refine zz_icmp_eq 17 32 X.1 (nI_toInt (by omega)) (nI_toInt (by omega)) dX7_isDone_17 (by decide) (fun h17 => ?_) (fun h17 => ?_)
  · exfalso; omega
  · skip
    refine zz_iload_n 20 X.1 0 dX7_isDone_20 rfl ?_
    refine zz_bipush 21 X.1 (v := nI 45) dX7_isDone_21 rfl ?_
    refine zz_icmp_eq 23 32 X.1 (nI_toInt (by omega)) (nI_toInt (by omega)) dX7_isDone_23 (by decide) (fun h23 => ?_) (fun h23 => ?_)
    · exfalso; omega
    · skip
      refine zz_iload_n 26 X.1 0 dX7_isDone_26 rfl ?_
      refine zz_bipush 27 X.1 (v := nI 94) dX7_isDone_27 rfl ?_
      refine zz_icmp_ne 29 144 X.1 (nI_toInt (by omega)) (nI_toInt (by omega)) dX7_isDone_29 (by decide) (fun h29 => ?_) (fun h29 => ?_)
      · skip
        refine zz_iload_n 144 X.1 0 dX7_isDone_144 rfl ?_
        refine zz_bipush 145 X.1 (v := nI 91) dX7_isDone_145 rfl ?_
        refine zz_icmp_ne 147 204 X.1 (nI_toInt (by omega)) (nI_toInt (by omega)) dX7_isDone_147 (by decide) (fun h147 => ?_) (fun h147 => ?_)
        · skip
          refine zz_aload_n 204 X.1 2 dX7_isDone_204 rfl ?_
          refine zz_iload_n 205 X.1 1 dX7_isDone_205 rfl ?_
          refine zz_aload_n 206 X.1 2 dX7_isDone_206 rfl ?_
          refine rr_get 207 X 11 (by decide) (v := .ref (K 11)) rfl (by decide +kernel) rfl dX7_isDone_207 ?_
          refine zz_iload_n 210 X.1 3 dX7_isDone_210 rfl ?_
          refine rr_iald 211 X 5 11 (len := 100) (f := G 11) rfl (by omega) (by decide) dX7_isDone_211 ?_
          refine zz_topi (nI a0) (h11) ?_
          refine zz_iload_n 212 X.1 0 dX7_isDone_212 rfl ?_
          refine rr_callVi 213 X hml (As := [.int (nI s0), .int (nI a0), .int (nI 126)]) (kt_X7_joins_126 l D C K hAp F hs mv G s0 a0 (by first | rfl | assumption | omega) (by first | rfl | assumption | omega)) gX7_isDone_X7_joins rfl ⟨rfl, rfl⟩ yd_X7_joins ⟨Nat.le_of_ble_eq_true rfl, Nat.le_of_ble_eq_true rfl⟩ rfl rfl (Nat.le_of_ble_eq_true rfl) dX7_isDone_213 ?_
          rintro r1 ⟨F1, hs1, mv1, G1⟩ hu1
          obtain ⟨rfl, hv1⟩ := hu1
          cases hv1
          refine zz_world (P' := (RP D C K F (sS hs s0 (fun i => pJ 126 (hM hs s0 i) (hM hs a0 i))) mv G)) (fun _ h => h) ?_
          refine zz_pop 216 X.1 dX7_isDone_216 rfl ?_
          refine zz_iconst 217 X.1 (v := nI 1) dX7_isDone_217 rfl ?_
          refine zz_topi (bI true) rfl ?_
          rw [← hQ]
          refine zz_iret 218 X.1 hr (bI_nar _) hlk (F, sS hs s0 (fun i => pJ 126 (hM hs s0 i) (hM hs a0 i)), mv, G) ?_ (fun _ h _ => h) dX7_isDone_218
          exact ⟨rfl, rfl⟩
        · exfalso; omega
      · exfalso; omega

set_option maxHeartbeats 4000000 in
set_option maxRecDepth 100000 in
theorem kt_X7_isDone_33 (l : Launch) (D : va_G) (C : Nat → ClassId) (K : Nat → Nat) (hAp : RAp K) (F : Nat → Int32) (hs mv : Nat → Bool) (G : Nat → Nat → Int32) (k0 : Nat) (s0 : Nat) (a0 : Nat) (hk0 : k0 < 100) (hs0 : s0 < 8) (h9 : G 9 k0 = nI s0) (h11 : G 11 k0 = nI a0) (h10 : G 10 k0 = nI 33) (ha0 : a0 < 8) : RMi l yX7_isDone wsX7_isDone rm_X7_isDone D C K [.int (nI k0)] F hs mv G (fun (r : Int32) (u : MSt) => r = (bI true) ∧ u = (F, sS hs s0 (fun i => pJ 33 (hM hs s0 i) (hM hs a0 i)), mv, G)) := by
  refine RMi_of (lv := [(0, .ref (K 0)), (1, .int (nI k0))]) (cc := cX7_isDone) (maxL := 6) (ret := (some .boolean)) rfl rfl (by decide +kernel) (Nat.le_of_ble_eq_true rfl) rfl ?_
  intro p e s m args below meth c X hml hr hlk
  generalize hQ : MQ below _ args s 0 0 _ = Q
  refine zz_aload_n 0 X.1 0 dX7_isDone_0 rfl ?_
  refine rr_get 1 X 9 (by decide) (v := .ref (K 9)) rfl (by decide +kernel) rfl dX7_isDone_1 ?_
  refine zz_iload_n 4 X.1 1 dX7_isDone_4 rfl ?_
  refine rr_iald 5 X 3 9 (len := 100) (f := G 9) rfl (by omega) (by decide) dX7_isDone_5 ?_
  refine zz_topi (nI s0) (h9) ?_
  refine zz_istore_n 6 X.1 (lv' := [(2, .int (nI s0)), (0, .ref (K 0)), (1, .int (nI k0))]) dX7_isDone_6 (by decide) rfl ?_
  refine zz_aload_n 7 X.1 1 dX7_isDone_7 rfl ?_
  refine rr_get 8 X 10 (by decide) (v := .ref (K 10)) rfl (by decide +kernel) rfl dX7_isDone_8 ?_
  refine zz_iload_n 11 X.1 2 dX7_isDone_11 rfl ?_
  refine rr_iald 12 X 4 10 (len := 100) (f := G 10) rfl (by omega) (by decide) dX7_isDone_12 ?_
  refine zz_topi (nI 33) (h10) ?_
  refine zz_istore_n 13 X.1 (lv' := [(3, .int (nI 33)), (2, .int (nI s0)), (0, .ref (K 0)), (1, .int (nI k0))]) dX7_isDone_13 (by decide) rfl ?_
  refine zz_iload_n 14 X.1 0 dX7_isDone_14 rfl ?_
  refine zz_bipush 15 X.1 (v := nI 43) dX7_isDone_15 rfl ?_
  refine zz_icmp_eq 17 32 X.1 (nI_toInt (by omega)) (nI_toInt (by omega)) dX7_isDone_17 (by decide) (fun h17 => ?_) (fun h17 => ?_)
  · exfalso; omega
  · skip
    refine zz_iload_n 20 X.1 0 dX7_isDone_20 rfl ?_
    refine zz_bipush 21 X.1 (v := nI 45) dX7_isDone_21 rfl ?_
    refine zz_icmp_eq 23 32 X.1 (nI_toInt (by omega)) (nI_toInt (by omega)) dX7_isDone_23 (by decide) (fun h23 => ?_) (fun h23 => ?_)
    · exfalso; omega
    · skip
      refine zz_iload_n 26 X.1 0 dX7_isDone_26 rfl ?_
      refine zz_bipush 27 X.1 (v := nI 94) dX7_isDone_27 rfl ?_
      refine zz_icmp_ne 29 144 X.1 (nI_toInt (by omega)) (nI_toInt (by omega)) dX7_isDone_29 (by decide) (fun h29 => ?_) (fun h29 => ?_)
      · skip
        refine zz_iload_n 144 X.1 0 dX7_isDone_144 rfl ?_
        refine zz_bipush 145 X.1 (v := nI 91) dX7_isDone_145 rfl ?_
        refine zz_icmp_ne 147 204 X.1 (nI_toInt (by omega)) (nI_toInt (by omega)) dX7_isDone_147 (by decide) (fun h147 => ?_) (fun h147 => ?_)
        · skip
          refine zz_aload_n 204 X.1 2 dX7_isDone_204 rfl ?_
          refine zz_iload_n 205 X.1 1 dX7_isDone_205 rfl ?_
          refine zz_aload_n 206 X.1 2 dX7_isDone_206 rfl ?_
          refine rr_get 207 X 11 (by decide) (v := .ref (K 11)) rfl (by decide +kernel) rfl dX7_isDone_207 ?_
          refine zz_iload_n 210 X.1 3 dX7_isDone_210 rfl ?_
          refine rr_iald 211 X 5 11 (len := 100) (f := G 11) rfl (by omega) (by decide) dX7_isDone_211 ?_
          refine zz_topi (nI a0) (h11) ?_
          refine zz_iload_n 212 X.1 0 dX7_isDone_212 rfl ?_
          refine rr_callVi 213 X hml (As := [.int (nI s0), .int (nI a0), .int (nI 33)]) (kt_X7_joins_33 l D C K hAp F hs mv G s0 a0 (by first | rfl | assumption | omega) (by first | rfl | assumption | omega)) gX7_isDone_X7_joins rfl ⟨rfl, rfl⟩ yd_X7_joins ⟨Nat.le_of_ble_eq_true rfl, Nat.le_of_ble_eq_true rfl⟩ rfl rfl (Nat.le_of_ble_eq_true rfl) dX7_isDone_213 ?_
          rintro r1 ⟨F1, hs1, mv1, G1⟩ hu1
          obtain ⟨rfl, hv1⟩ := hu1
          cases hv1
          refine zz_world (P' := (RP D C K F (sS hs s0 (fun i => pJ 33 (hM hs s0 i) (hM hs a0 i))) mv G)) (fun _ h => h) ?_
          refine zz_pop 216 X.1 dX7_isDone_216 rfl ?_
          refine zz_iconst 217 X.1 (v := nI 1) dX7_isDone_217 rfl ?_
          refine zz_topi (bI true) rfl ?_
          rw [← hQ]
          refine zz_iret 218 X.1 hr (bI_nar _) hlk (F, sS hs s0 (fun i => pJ 33 (hM hs s0 i) (hM hs a0 i)), mv, G) ?_ (fun _ h _ => h) dX7_isDone_218
          exact ⟨rfl, rfl⟩
        · exfalso; omega
      · exfalso; omega

set_option maxHeartbeats 4000000 in
set_option maxRecDepth 100000 in
theorem kt_X7_isDone_61 (l : Launch) (D : va_G) (C : Nat → ClassId) (K : Nat → Nat) (hAp : RAp K) (F : Nat → Int32) (hs mv : Nat → Bool) (G : Nat → Nat → Int32) (k0 : Nat) (s0 : Nat) (a0 : Nat) (hk0 : k0 < 100) (hs0 : s0 < 8) (h9 : G 9 k0 = nI s0) (h11 : G 11 k0 = nI a0) (h10 : G 10 k0 = nI 61) (ha0 : a0 < 8) : RMi l yX7_isDone wsX7_isDone rm_X7_isDone D C K [.int (nI k0)] F hs mv G (fun (r : Int32) (u : MSt) => r = (bI true) ∧ u = (F, sS hs s0 (fun i => pJ 61 (hM hs s0 i) (hM hs a0 i)), mv, G)) := by
  refine RMi_of (lv := [(0, .ref (K 0)), (1, .int (nI k0))]) (cc := cX7_isDone) (maxL := 6) (ret := (some .boolean)) rfl rfl (by decide +kernel) (Nat.le_of_ble_eq_true rfl) rfl ?_
  intro p e s m args below meth c X hml hr hlk
  generalize hQ : MQ below _ args s 0 0 _ = Q
  refine zz_aload_n 0 X.1 0 dX7_isDone_0 rfl ?_
  refine rr_get 1 X 9 (by decide) (v := .ref (K 9)) rfl (by decide +kernel) rfl dX7_isDone_1 ?_
  refine zz_iload_n 4 X.1 1 dX7_isDone_4 rfl ?_
  refine rr_iald 5 X 3 9 (len := 100) (f := G 9) rfl (by omega) (by decide) dX7_isDone_5 ?_
  refine zz_topi (nI s0) (h9) ?_
  refine zz_istore_n 6 X.1 (lv' := [(2, .int (nI s0)), (0, .ref (K 0)), (1, .int (nI k0))]) dX7_isDone_6 (by decide) rfl ?_
  refine zz_aload_n 7 X.1 1 dX7_isDone_7 rfl ?_
  refine rr_get 8 X 10 (by decide) (v := .ref (K 10)) rfl (by decide +kernel) rfl dX7_isDone_8 ?_
  refine zz_iload_n 11 X.1 2 dX7_isDone_11 rfl ?_
  refine rr_iald 12 X 4 10 (len := 100) (f := G 10) rfl (by omega) (by decide) dX7_isDone_12 ?_
  refine zz_topi (nI 61) (h10) ?_
  refine zz_istore_n 13 X.1 (lv' := [(3, .int (nI 61)), (2, .int (nI s0)), (0, .ref (K 0)), (1, .int (nI k0))]) dX7_isDone_13 (by decide) rfl ?_
  refine zz_iload_n 14 X.1 0 dX7_isDone_14 rfl ?_
  refine zz_bipush 15 X.1 (v := nI 43) dX7_isDone_15 rfl ?_
  refine zz_icmp_eq 17 32 X.1 (nI_toInt (by omega)) (nI_toInt (by omega)) dX7_isDone_17 (by decide) (fun h17 => ?_) (fun h17 => ?_)
  · exfalso; omega
  · skip
    refine zz_iload_n 20 X.1 0 dX7_isDone_20 rfl ?_
    refine zz_bipush 21 X.1 (v := nI 45) dX7_isDone_21 rfl ?_
    refine zz_icmp_eq 23 32 X.1 (nI_toInt (by omega)) (nI_toInt (by omega)) dX7_isDone_23 (by decide) (fun h23 => ?_) (fun h23 => ?_)
    · exfalso; omega
    · skip
      refine zz_iload_n 26 X.1 0 dX7_isDone_26 rfl ?_
      refine zz_bipush 27 X.1 (v := nI 94) dX7_isDone_27 rfl ?_
      refine zz_icmp_ne 29 144 X.1 (nI_toInt (by omega)) (nI_toInt (by omega)) dX7_isDone_29 (by decide) (fun h29 => ?_) (fun h29 => ?_)
      · skip
        refine zz_iload_n 144 X.1 0 dX7_isDone_144 rfl ?_
        refine zz_bipush 145 X.1 (v := nI 91) dX7_isDone_145 rfl ?_
        refine zz_icmp_ne 147 204 X.1 (nI_toInt (by omega)) (nI_toInt (by omega)) dX7_isDone_147 (by decide) (fun h147 => ?_) (fun h147 => ?_)
        · skip
          refine zz_aload_n 204 X.1 2 dX7_isDone_204 rfl ?_
          refine zz_iload_n 205 X.1 1 dX7_isDone_205 rfl ?_
          refine zz_aload_n 206 X.1 2 dX7_isDone_206 rfl ?_
          refine rr_get 207 X 11 (by decide) (v := .ref (K 11)) rfl (by decide +kernel) rfl dX7_isDone_207 ?_
          refine zz_iload_n 210 X.1 3 dX7_isDone_210 rfl ?_
          refine rr_iald 211 X 5 11 (len := 100) (f := G 11) rfl (by omega) (by decide) dX7_isDone_211 ?_
          refine zz_topi (nI a0) (h11) ?_
          refine zz_iload_n 212 X.1 0 dX7_isDone_212 rfl ?_
          refine rr_callVi 213 X hml (As := [.int (nI s0), .int (nI a0), .int (nI 61)]) (kt_X7_joins_61 l D C K hAp F hs mv G s0 a0 (by first | rfl | assumption | omega) (by first | rfl | assumption | omega)) gX7_isDone_X7_joins rfl ⟨rfl, rfl⟩ yd_X7_joins ⟨Nat.le_of_ble_eq_true rfl, Nat.le_of_ble_eq_true rfl⟩ rfl rfl (Nat.le_of_ble_eq_true rfl) dX7_isDone_213 ?_
          rintro r1 ⟨F1, hs1, mv1, G1⟩ hu1
          obtain ⟨rfl, hv1⟩ := hu1
          cases hv1
          refine zz_world (P' := (RP D C K F (sS hs s0 (fun i => pJ 61 (hM hs s0 i) (hM hs a0 i))) mv G)) (fun _ h => h) ?_
          refine zz_pop 216 X.1 dX7_isDone_216 rfl ?_
          refine zz_iconst 217 X.1 (v := nI 1) dX7_isDone_217 rfl ?_
          refine zz_topi (bI true) rfl ?_
          rw [← hQ]
          refine zz_iret 218 X.1 hr (bI_nar _) hlk (F, sS hs s0 (fun i => pJ 61 (hM hs s0 i) (hM hs a0 i)), mv, G) ?_ (fun _ h _ => h) dX7_isDone_218
          exact ⟨rfl, rfl⟩
        · exfalso; omega
      · exfalso; omega
