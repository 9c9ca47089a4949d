/-! The class's tokens: nt of them, their kinds KK, values VV and places SS; behind them ends. -/
def TKc (KK VV SS : Nat → Nat) (nt tn : Nat) (g40 g41 g42 : Nat → Int32) : Prop := nt ≤ 400 ∧ (∀ j, j < nt → g40 j = nI (KK j) ∧ g42 j = nI (SS j) ∧ (KK j = 2 ∨ KK j = 3 → g41 j = nI (VV j))) ∧ (∀ j, nt ≤ j → KK j = 0 ∧ SS j = tn) ∧ ∀ j, KK j ≤ 126
def tvv (g : Nat → Int32) (nt i : Nat) : Int32 := if i < nt then g i else 0
theorem TKc.lt {KK VV SS : Nat → Nat} {nt tn : Nat} {g40 g41 g42 : Nat → Int32} (h : TKc KK VV SS nt tn g40 g41 g42) {i : Nat} (hi : KK i ≠ 0) : i < nt := by
  rcases Nat.lt_or_ge i nt with z | z
  · exact z
  · exact absurd (h.2.2.1 i z).1 hi
theorem tvv_ok {KK VV SS : Nat → Nat} {nt tn : Nat} {g40 g41 g42 : Nat → Int32} (h : TKc KK VV SS nt tn g40 g41 g42) {i : Nat} (hi : KK i = 2 ∨ KK i = 3) : tvv g41 nt i = nI (VV i) := by
  have := h.lt (i := i) (by omega)
  unfold tvv
  rw [if_pos this]
  exact (h.2.1 i this).2.2 hi
theorem dp_F {D : va_G} {C : Nat → ClassId} {K : Nat → Nat} {F F' : Nat → Int32} {G T : Nat → Nat → Int32} {W : Nat → Nat → Int64} (h : F = F') (H : Heap) (q : DP D C K F W G T H) : DP D C K F' W G T H := h ▸ q
theorem dp_G {D : va_G} {C : Nat → ClassId} {K : Nat → Nat} {F : Nat → Int32} {G G' T : Nat → Nat → Int32} {W : Nat → Nat → Int64} (h : G = G') (H : Heap) (q : DP D C K F W G T H) : DP D C K F W G' T H := h ▸ q
abbrev rm_X5_kind : Room := { frames := 0, cells := 0, slots := 0, locals := 0 }
theorem yd_X5_kind : yX5_kind.cls = RX5 ∧ yX5_kind.cls ≠ "java/lang/invoke/MethodHandle" ∧ yX5_kind.cls ≠ "java/lang/invoke/VarHandle" ∧ (parseMethodDescriptor yX5_kind.desc).map (fun d => d.parameters.length) = some 0 := by decide +kernel
set_option maxHeartbeats 4000000 in
set_option maxRecDepth 100000 in
theorem kt_X5_kind (l : Launch) (D : va_G) (C : Nat → ClassId) (K : Nat → Nat) (hAp : DAp K) (F : Nat → Int32) (hs : Nat → Bool) (G T : Nat → Nat → Int32) (KK : Nat → Nat) (VV : Nat → Nat) (SS : Nat → Nat) (nt : Nat) (tn : Nat) (i : Nat) (hTK : TKc KK VV SS nt tn (G 40) (G 41) (G 42)) (h32 : F 32 = nI nt) (h33 : F 33 = nI i) (hi : i ≤ 400) : CMi l yX5_kind wsX5_kind rm_X5_kind D C K (5)  [] F hs G T (fun (r : Int32) (u : CSt) => r = (nI (KK i)) ∧ u = (F, hs, G, T)) := by
  refine CMi_of (lv := [(0, .ref (K 5))]) (cc := cX5_kind) (maxL := 1) (ret := (some .int)) rfl (by decide +kernel) (Nat.le_of_ble_eq_true rfl) rfl ?_
  intro p e s m args below meth c X hml hr hlk
  generalize hQ : MQ below _ args s 0 0 _ = Q
  have hn400 := hTK.1
  refine zz_aload_n 0 X.1 0 dX5_kind_0 rfl ?_
  refine dd_get5 1 X (by decide +kernel) 4 (by decide) (v := .int (F 33)) rfl (by decide +kernel) rfl dX5_kind_1 ?_
  refine zz_topi (nI i) (h33) ?_
  refine zz_if_lt 4 40 X.1 (nI_toInt (by omega)) dX5_kind_4 (by decide) (fun h4 => ?_) (fun h4 => ?_)
  · exfalso; omega
  · skip
    refine zz_aload_n 7 X.1 0 dX5_kind_7 rfl ?_
    refine dd_get5 8 X (by decide +kernel) 4 (by decide) (v := .int (F 33)) rfl (by decide +kernel) rfl dX5_kind_8 ?_
    refine zz_topi (nI i) (h33) ?_
    refine zz_aload_n 11 X.1 0 dX5_kind_11 rfl ?_
    refine dd_get5 12 X (by decide +kernel) 3 (by decide) (v := .int (F 32)) rfl (by decide +kernel) rfl dX5_kind_12 ?_
    refine zz_topi (nI nt) (h32) ?_
    refine zz_icmp_ge 15 40 X.1 (nI_toInt (by omega)) (nI_toInt (by omega)) dX5_kind_15 (by decide) (fun h15 => ?_) (fun h15 => ?_)
    · skip
      refine zz_iconst 40 X.1 (v := nI 0) dX5_kind_40 rfl ?_
      rw [← hQ]
      refine zz_iret 41 X.1 hr rfl hlk (F, hs, G, T) ?_ (fun _ h _ => h) dX5_kind_41
      exact ⟨congrArg nI (hTK.2.2.1 i (by omega)).1.symm, rfl⟩
    · skip
      refine zz_aload_n 18 X.1 0 dX5_kind_18 rfl ?_
      refine dd_get5 19 X (by decide +kernel) 4 (by decide) (v := .int (F 33)) rfl (by decide +kernel) rfl dX5_kind_19 ?_
      refine zz_topi (nI i) (h33) ?_
      refine zz_sipush 22 X.1 (v := nI 400) dX5_kind_22 rfl ?_
      refine zz_icmp_ge 25 40 X.1 (nI_toInt (by omega)) (nI_toInt (by omega)) dX5_kind_25 (by decide) (fun h25 => ?_) (fun h25 => ?_)
      · exfalso; omega
      · skip
        refine zz_aload_n 28 X.1 0 dX5_kind_28 rfl ?_
        refine dd_get5 29 X (by decide +kernel) 0 (by decide) (v := .ref (K 6)) rfl (by decide +kernel) rfl dX5_kind_29 ?_
        refine zz_aload_n 32 X.1 0 dX5_kind_32 rfl ?_
        refine dd_get5 33 X (by decide +kernel) 4 (by decide) (v := .int (F 33)) rfl (by decide +kernel) rfl dX5_kind_33 ?_
        refine zz_topi (nI i) (h33) ?_
        refine dd_iald 36 X 6 6 (by decide) (len := 400) (f := G 40) rfl (by omega) (by decide) dX5_kind_36 ?_
        refine zz_topi (nI (KK i)) ((hTK.2.1 i (by omega)).1) ?_
        refine zz_goto 37 41 X.1 dX5_kind_37 (by decide) ?_
        rw [← hQ]
        refine zz_iret 41 X.1 hr rfl hlk (F, hs, G, T) ?_ (fun _ h _ => h) dX5_kind_41
        exact ⟨rfl, rfl⟩
abbrev rm_X5_value : Room := { frames := 0, cells := 0, slots := 0, locals := 0 }
theorem yd_X5_value : yX5_value.cls = RX5 ∧ yX5_value.cls ≠ "java/lang/invoke/MethodHandle" ∧ yX5_value.cls ≠ "java/lang/invoke/VarHandle" ∧ (parseMethodDescriptor yX5_value.desc).map (fun d => d.parameters.length) = some 0 := by decide +kernel
set_option maxHeartbeats 4000000 in
set_option maxRecDepth 100000 in
theorem kt_X5_value (l : Launch) (D : va_G) (C : Nat → ClassId) (K : Nat → Nat) (hAp : DAp K) (F : Nat → Int32) (hs : Nat → Bool) (G T : Nat → Nat → Int32) (KK : Nat → Nat) (VV : Nat → Nat) (SS : Nat → Nat) (nt : Nat) (tn : Nat) (i : Nat) (hTK : TKc KK VV SS nt tn (G 40) (G 41) (G 42)) (h32 : F 32 = nI nt) (h33 : F 33 = nI i) (hi : i ≤ 400) : CMi l yX5_value wsX5_value rm_X5_value D C K (5)  [] F hs G T (fun (r : Int32) (u : CSt) => r = (tvv (G 41) nt i) ∧ u = (F, hs, G, T)) := by
  refine CMi_of (lv := [(0, .ref (K 5))]) (cc := cX5_value) (maxL := 1) (ret := (some .int)) rfl (by decide +kernel) (Nat.le_of_ble_eq_true rfl) rfl ?_
  intro p e s m args below meth c X hml hr hlk
  generalize hQ : MQ below _ args s 0 0 _ = Q
  have hn400 := hTK.1
  refine zz_aload_n 0 X.1 0 dX5_value_0 rfl ?_
  refine dd_get5 1 X (by decide +kernel) 4 (by decide) (v := .int (F 33)) rfl (by decide +kernel) rfl dX5_value_1 ?_
  refine zz_topi (nI i) (h33) ?_
  refine zz_if_lt 4 40 X.1 (nI_toInt (by omega)) dX5_value_4 (by decide) (fun h4 => ?_) (fun h4 => ?_)
  · exfalso; omega
  · skip
    refine zz_aload_n 7 X.1 0 dX5_value_7 rfl ?_
    refine dd_get5 8 X (by decide +kernel) 4 (by decide) (v := .int (F 33)) rfl (by decide +kernel) rfl dX5_value_8 ?_
    refine zz_topi (nI i) (h33) ?_
    refine zz_aload_n 11 X.1 0 dX5_value_11 rfl ?_
    refine dd_get5 12 X (by decide +kernel) 3 (by decide) (v := .int (F 32)) rfl (by decide +kernel) rfl dX5_value_12 ?_
    refine zz_topi (nI nt) (h32) ?_
    refine zz_icmp_ge 15 40 X.1 (nI_toInt (by omega)) (nI_toInt (by omega)) dX5_value_15 (by decide) (fun h15 => ?_) (fun h15 => ?_)
    · skip
      refine zz_iconst 40 X.1 (v := nI 0) dX5_value_40 rfl ?_
      rw [← hQ]
      refine zz_iret 41 X.1 hr rfl hlk (F, hs, G, T) ?_ (fun _ h _ => h) dX5_value_41
      exact ⟨by unfold tvv; rw [if_neg (by omega)]; rfl, rfl⟩
    · skip
      refine zz_aload_n 18 X.1 0 dX5_value_18 rfl ?_
      refine dd_get5 19 X (by decide +kernel) 4 (by decide) (v := .int (F 33)) rfl (by decide +kernel) rfl dX5_value_19 ?_
      refine zz_topi (nI i) (h33) ?_
      refine zz_sipush 22 X.1 (v := nI 400) dX5_value_22 rfl ?_
      refine zz_icmp_ge 25 40 X.1 (nI_toInt (by omega)) (nI_toInt (by omega)) dX5_value_25 (by decide) (fun h25 => ?_) (fun h25 => ?_)
      · exfalso; omega
      · skip
        refine zz_aload_n 28 X.1 0 dX5_value_28 rfl ?_
        refine dd_get5 29 X (by decide +kernel) 1 (by decide) (v := .ref (K 7)) rfl (by decide +kernel) rfl dX5_value_29 ?_
        refine zz_aload_n 32 X.1 0 dX5_value_32 rfl ?_
        refine dd_get5 33 X (by decide +kernel) 4 (by decide) (v := .int (F 33)) rfl (by decide +kernel) rfl dX5_value_33 ?_
        refine zz_topi (nI i) (h33) ?_
        refine dd_iald 36 X 7 7 (by decide) (len := 400) (f := G 41) rfl (by omega) (by decide) dX5_value_36 ?_
        refine zz_goto 37 41 X.1 dX5_value_37 (by decide) ?_
        rw [← hQ]
        refine zz_iret 41 X.1 hr rfl hlk (F, hs, G, T) ?_ (fun _ h _ => h) dX5_value_41
        exact ⟨by unfold tvv; rw [if_pos (by omega)], rfl⟩
abbrev rm_X5_start : Room := { frames := 0, cells := 0, slots := 0, locals := 0 }
theorem yd_X5_start : yX5_start.cls = RX5 ∧ yX5_start.cls ≠ "java/lang/invoke/MethodHandle" ∧ yX5_start.cls ≠ "java/lang/invoke/VarHandle" ∧ (parseMethodDescriptor yX5_start.desc).map (fun d => d.parameters.length) = some 0 := by decide +kernel
abbrev rm_X5_advance : Room := { frames := 0, cells := 0, slots := 0, locals := 0 }
theorem yd_X5_advance : yX5_advance.cls = RX5 ∧ yX5_advance.cls ≠ "java/lang/invoke/MethodHandle" ∧ yX5_advance.cls ≠ "java/lang/invoke/VarHandle" ∧ (parseMethodDescriptor yX5_advance.desc).map (fun d => d.parameters.length) = some 0 := by decide +kernel
set_option maxHeartbeats 4000000 in
set_option maxRecDepth 100000 in
theorem kt_X5_advance (l : Launch) (D : va_G) (C : Nat → ClassId) (K : Nat → Nat) (hAp : DAp K) (F : Nat → Int32) (hs : Nat → Bool) (G T : Nat → Nat → Int32) (i : Nat) (h33 : F 33 = nI i) : CMv l yX5_advance wsX5_advance rm_X5_advance D C K (5)  [] F hs G T (fun (u : CSt) => u = (upd F 33 (nI (i + 1)), hs, G, T)) := by
  refine CMv_of (lv := [(0, .ref (K 5))]) (cc := cX5_advance) (maxL := 1) (ret := none) rfl (by decide +kernel) (Nat.le_of_ble_eq_true rfl) rfl ?_
  intro p e s m args below meth c X hml hr hlk
  generalize hQ : MQ below _ args s 0 0 _ = Q
  refine zz_aload_n 0 X.1 0 dX5_advance_0 rfl ?_
  refine zz_dup 1 X.1 dX5_advance_1 rfl ?_
  refine dd_get5 2 X (by decide +kernel) 4 (by decide) (v := .int (F 33)) rfl (by decide +kernel) rfl dX5_advance_2 ?_
  refine zz_topi (nI i) (h33) ?_
  refine zz_iconst 5 X.1 (v := nI 1) dX5_advance_5 rfl ?_
  refine zz_iadd 6 X.1 (v := (nI (i + 1))) dX5_advance_6 (nI_add _ _) ?_
  refine dd_put5 7 hAp X (by decide +kernel) 4 (by decide) (F' := upd F 33 (nI (i + 1))) rfl (by decide +kernel) ⟨rfl, rfl⟩ (by decide +kernel) dX5_advance_7 ?_
  rw [← hQ]
  refine zz_vret 10 X.1 hr hlk (upd F 33 (nI (i + 1)), hs, G, T) ?_ (fun _ h _ => h) dX5_advance_10
  exact rfl
abbrev rm_X1_pass : Room := { frames := 1, cells := 0, slots := 0, locals := 20 }
theorem yd_X1_pass : yX1_pass.cls = RX1 ∧ yX1_pass.cls ≠ "java/lang/invoke/MethodHandle" ∧ yX1_pass.cls ≠ "java/lang/invoke/VarHandle" ∧ (parseMethodDescriptor yX1_pass.desc).map (fun d => d.parameters.length) = some 1 := by decide +kernel
set_option maxHeartbeats 4000000 in
set_option maxRecDepth 100000 in
theorem kt_X1_pass (l : Launch) (D : va_G) (C : Nat → ClassId) (K : Nat → Nat) (hAp : DAp K) (F : Nat → Int32) (hs : Nat → Bool) (G T : Nat → Nat → Int32) (KK : Nat → Nat) (VV : Nat → Nat) (SS : Nat → Nat) (nt : Nat) (tn : Nat) (i : Nat) (kk : Nat) (hTK : TKc KK VV SS nt tn (G 40) (G 41) (G 42)) (h32 : F 32 = nI nt) (h33 : F 33 = nI i) (hi : i ≤ 400) (hkk : 0 < kk ∧ kk ≤ 126) : CMi l yX1_pass wsX1_pass rm_X1_pass D C K (4)  [.int (nI kk)] F hs G T (fun (r : Int32) (u : CSt) => (KK i = kk → r = (bI true) ∧ u = (upd F 33 (nI (i + 1)), hs, G, T)) ∧ (KK i ≠ kk → r = (bI false) ∧ u = (upd F 33 (nI i), hs, G, T))) := by
  refine CMi_of (lv := [(0, .ref (K 4)), (1, .int (nI kk))]) (cc := cX1_pass) (maxL := 2) (ret := (some .boolean)) rfl (by decide +kernel) (Nat.le_of_ble_eq_true rfl) rfl ?_
  intro p e s m args below meth c X hml hr hlk
  generalize hQ : MQ below _ args s 0 0 _ = Q
  have hkb := hTK.2.2.2 i
  refine zz_world (P' := (DP D C K (upd F 33 (nI i)) (WH hs) G T)) (dp_F (upd_self (f := F) (k := 33) (x := nI i) h33).symm) ?_
  refine zz_aload_n 0 X.1 0 dX1_pass_0 rfl ?_
  refine dd_get4 1 X (by decide +kernel) 0 (by decide) (v := .ref (K 5)) rfl (by decide +kernel) rfl dX1_pass_1 ?_
  refine dd_callVi 4 X hml (th := 5) (As := []) (kt_X5_kind l D C K hAp (upd F 33 (nI i)) hs G T KK VV SS nt tn i (by first | rfl | assumption | omega) (h32) (rfl) (by first | rfl | assumption | omega)) gX1_pass_X5_kind rfl ⟨rfl, rfl⟩ (dr_5 X) yd_X5_kind ⟨Nat.le_of_ble_eq_true rfl, Nat.le_of_ble_eq_true rfl⟩ rfl rfl (Nat.le_of_ble_eq_true rfl) ⟨Nat.zero_le _, Nat.zero_le _⟩ dX1_pass_4 ?_
  rintro r1 ⟨F1, hs1, G1, T1⟩ hu1
  obtain ⟨rfl, hv1⟩ := hu1
  cases hv1
  refine zz_world (P' := (DP D C K (upd F 33 (nI i)) (WH hs) G T)) (fun _ h => h) ?_
  refine zz_iload_n 7 X.1 1 dX1_pass_7 rfl ?_
  refine zz_icmp_eq 8 13 X.1 (nI_toInt (by omega)) (nI_toInt (by omega)) dX1_pass_8 (by decide) (fun h8 => ?_) (fun h8 => ?_)
  · skip
    refine zz_aload_n 13 X.1 0 dX1_pass_13 rfl ?_
    refine dd_get4 14 X (by decide +kernel) 0 (by decide) (v := .ref (K 5)) rfl (by decide +kernel) rfl dX1_pass_14 ?_
    refine dd_callVv 17 X hml (th := 5) (As := []) (kt_X5_advance l D C K hAp (upd F 33 (nI i)) hs G T i (rfl)) gX1_pass_X5_advance rfl ⟨rfl, rfl⟩ (dr_5 X) yd_X5_advance ⟨Nat.le_of_ble_eq_true rfl, Nat.le_of_ble_eq_true rfl⟩ rfl rfl (Nat.le_of_ble_eq_true rfl) ⟨Nat.zero_le _, Nat.zero_le _⟩ dX1_pass_17 ?_
    rintro ⟨F2, hs2, G2, T2⟩ hu2
    have hv2 := hu2
    cases hv2
    refine zz_world (P' := (DP D C K (upd F 33 (nI (i + 1))) (WH hs) G T)) (fun _ h => h) ?_
    refine zz_iconst 20 X.1 (v := nI 1) dX1_pass_20 rfl ?_
    refine zz_topi (bI true) rfl ?_
    rw [← hQ]
    refine zz_iret 21 X.1 hr (bI_nar _) hlk (upd F 33 (nI (i + 1)), hs, G, T) ?_ (fun _ h _ => h) dX1_pass_21
    refine ⟨fun hc => ?_, fun hc => ?_⟩ <;> first | (exact ⟨rfl, rfl⟩) | (exact rfl) | (exfalso; omega)
  · skip
    refine zz_iconst 11 X.1 (v := nI 0) dX1_pass_11 rfl ?_
    refine zz_topi (bI false) rfl ?_
    rw [← hQ]
    refine zz_iret 12 X.1 hr (bI_nar _) hlk (upd F 33 (nI i), hs, G, T) ?_ (fun _ h _ => h) dX1_pass_12
    refine ⟨fun hc => ?_, fun hc => ?_⟩ <;> first | (exact ⟨rfl, rfl⟩) | (exact rfl) | (exfalso; omega)
abbrev rm_X1_readSet : Room := { frames := 2, cells := 0, slots := 0, locals := 41 }
theorem yd_X1_readSet : yX1_readSet.cls = RX1 ∧ yX1_readSet.cls ≠ "java/lang/invoke/MethodHandle" ∧ yX1_readSet.cls ≠ "java/lang/invoke/VarHandle" ∧ (parseMethodDescriptor yX1_readSet.desc).map (fun d => d.parameters.length) = some 1 := by decide +kernel
set_option maxHeartbeats 4000000 in
set_option maxRecDepth 100000 in
theorem kt_X1_readSet (l : Launch) (D : va_G) (C : Nat → ClassId) (K : Nat → Nat) (hAp : DAp K) (F : Nat → Int32) (hs : Nat → Bool) (G T : Nat → Nat → Int32) (KK : Nat → Nat) (VV : Nat → Nat) (SS : Nat → Nat) (nt : Nat) (tn : Nat) (i : Nat) (u0 : Nat) (hTK : TKc KK VV SS nt tn (G 40) (G 41) (G 42)) (h32 : F 32 = nI nt) (h33 : F 33 = nI i) (hi : i ≤ 400) (hm : u0 < 100) : CMi l yX1_readSet wsX1_readSet rm_X1_readSet D C K (4)  [.ref (K (100 + u0))] F hs G T (fun (r : Int32) (u : CSt) => ∃ (T1 : Nat → Nat → Int32), r = (bI ((seR KK i).1)) ∧ u = (upd F 33 (nI ((seR KK i).2)), hs, G, T1) ∧ (∀ k, k ≠ u0 → T1 k = T k) ∧ (T1 u0 0 = T u0 0 ∧ T1 u0 1 = T u0 1) ∧ ((seR KK i).1 = true → T1 u0 2 = nI (VV i) ∧ T1 u0 3 = nI (VV i))) := by
  refine CMi_of (lv := [(0, .ref (K 4)), (1, .ref (K (100 + u0)))]) (cc := cX1_readSet) (maxL := 2) (ret := (some .boolean)) rfl (by decide +kernel) (Nat.le_of_ble_eq_true rfl) rfl ?_
  intro p e s m args below meth c X hml hr hlk
  generalize hQ : MQ below _ args s 0 0 _ = Q
  have hkb := hTK.2.2.2 i
  refine zz_world (P' := (DP D C K (upd F 33 (nI i)) (WH hs) G T)) (dp_F (upd_self (f := F) (k := 33) (x := nI i) h33).symm) ?_
  refine zz_aload_n 0 X.1 1 dX1_readSet_0 rfl ?_
  refine zz_aload_n 1 X.1 0 dX1_readSet_1 rfl ?_
  refine dd_get4 2 X (by decide +kernel) 0 (by decide) (v := .ref (K 5)) rfl (by decide +kernel) rfl dX1_readSet_2 ?_
  refine dd_callVi 5 X hml (th := 5) (As := []) (kt_X5_value l D C K hAp (upd F 33 (nI i)) hs G T KK VV SS nt tn i (by first | rfl | assumption | omega) (h32) (rfl) (by first | rfl | assumption | omega)) gX1_readSet_X5_value rfl ⟨rfl, rfl⟩ (dr_5 X) yd_X5_value ⟨Nat.le_of_ble_eq_true rfl, Nat.le_of_ble_eq_true rfl⟩ rfl rfl (Nat.le_of_ble_eq_true rfl) ⟨Nat.zero_le _, Nat.zero_le _⟩ dX1_readSet_5 ?_
  rintro r1 ⟨F1, hs1, G1, T1⟩ hu1
  obtain ⟨rfl, hv1⟩ := hu1
  cases hv1
  refine zz_world (P' := (DP D C K (upd F 33 (nI i)) (WH hs) G T)) (fun _ h => h) ?_
  refine dd_putS 8 hAp X (by decide +kernel) (i := u0) (by omega) 2 (by decide) (t := upd (T u0) 2 (tvv (G 41) nt i)) rfl (by decide +kernel) ⟨rfl, rfl⟩ (by decide +kernel) dX1_readSet_8 ?_
  refine zz_aload_n 11 X.1 1 dX1_readSet_11 rfl ?_
  refine zz_aload_n 12 X.1 0 dX1_readSet_12 rfl ?_
  refine dd_get4 13 X (by decide +kernel) 0 (by decide) (v := .ref (K 5)) rfl (by decide +kernel) rfl dX1_readSet_13 ?_
  refine dd_callVi 16 X hml (th := 5) (As := []) (kt_X5_value l D C K hAp (upd F 33 (nI i)) hs G (va_up T u0 (upd (T u0) 2 (tvv (G 41) nt i))) KK VV SS nt tn i (by first | rfl | assumption | omega) (h32) (rfl) (by first | rfl | assumption | omega)) gX1_readSet_X5_value rfl ⟨rfl, rfl⟩ (dr_5 X) yd_X5_value ⟨Nat.le_of_ble_eq_true rfl, Nat.le_of_ble_eq_true rfl⟩ rfl rfl (Nat.le_of_ble_eq_true rfl) ⟨Nat.zero_le _, Nat.zero_le _⟩ dX1_readSet_16 ?_
  rintro r2 ⟨F2, hs2, G2, T2⟩ hu2
  obtain ⟨rfl, hv2⟩ := hu2
  cases hv2
  refine zz_world (P' := (DP D C K (upd F 33 (nI i)) (WH hs) G (va_up T u0 (upd (T u0) 2 (tvv (G 41) nt i))))) (fun _ h => h) ?_
  refine dd_putS 19 hAp X (by decide +kernel) (i := u0) (by omega) 3 (by decide) (t := upd ((va_up T u0 (upd (T u0) 2 (tvv (G 41) nt i))) u0) 3 (tvv (G 41) nt i)) rfl (by decide +kernel) ⟨rfl, rfl⟩ (by decide +kernel) dX1_readSet_19 ?_
  refine zz_aload_n 22 X.1 0 dX1_readSet_22 rfl ?_
  refine zz_iconst 23 X.1 (v := nI 2) dX1_readSet_23 rfl ?_
  refine dd_callVi 24 X hml (th := 4) (As := [.int (nI 2)]) (kt_X1_pass l D C K hAp (upd F 33 (nI i)) hs G (va_up (va_up T u0 (upd (T u0) 2 (tvv (G 41) nt i))) u0 (upd ((va_up T u0 (upd (T u0) 2 (tvv (G 41) nt i))) u0) 3 (tvv (G 41) nt i))) KK VV SS nt tn i 2 (by first | rfl | assumption | omega) (h32) (rfl) (by first | rfl | assumption | omega) (by first | rfl | assumption | omega)) gX1_readSet_X1_pass rfl ⟨rfl, rfl⟩ (dr_4 X) yd_X1_pass ⟨Nat.le_of_ble_eq_true rfl, Nat.le_of_ble_eq_true rfl⟩ rfl rfl (Nat.le_of_ble_eq_true rfl) ⟨Nat.zero_le _, Nat.zero_le _⟩ dX1_readSet_24 ?_
  rintro r3 ⟨F3, hs3, G3, T3⟩ hu3
  rcases (show (KK i = 2) ∨ (KK i ≠ 2) by omega) with hc3 | hc3
  · skip
    obtain ⟨rfl, hv3⟩ := (hu3.1 hc3)
    cases hv3
    refine zz_world (P' := (DP D C K (upd F 33 (nI (i + 1))) (WH hs) G (va_up (va_up T u0 (upd (T u0) 2 (tvv (G 41) nt i))) u0 (upd ((va_up T u0 (upd (T u0) 2 (tvv (G 41) nt i))) u0) 3 (tvv (G 41) nt i))))) (fun _ h => h) ?_
    rw [← hQ]
    refine zz_iret 27 X.1 hr (bI_nar _) hlk (upd F 33 (nI (i + 1)), hs, G, va_up (va_up T u0 (upd (T u0) 2 (tvv (G 41) nt i))) u0 (upd ((va_up T u0 (upd (T u0) 2 (tvv (G 41) nt i))) u0) 3 (tvv (G 41) nt i))) ?_ (fun _ h _ => h) dX1_readSet_27
    have hR : seR KK i = (true, i + 1) := by unfold seR; first | (rw [if_neg (by omega)]; done) | (rw [if_pos (by omega)]; done)
    rw [hR]
    refine ⟨va_up (va_up T u0 (upd (T u0) 2 (tvv (G 41) nt i))) u0 (upd ((va_up T u0 (upd (T u0) 2 (tvv (G 41) nt i))) u0) 3 (tvv (G 41) nt i)), rfl, rfl, fun k hk => by simp [va_up, upd, hk], ⟨(by simp [va_up, upd]), (by simp [va_up, upd])⟩, fun hz => ?_⟩
    first | exact Bool.noConfusion hz | (have hv := tvv_ok hTK (i := i) (by omega); simp [va_up, upd, hv])
  · skip
    obtain ⟨rfl, hv3⟩ := (hu3.2 hc3)
    cases hv3
    refine zz_world (P' := (DP D C K (upd F 33 (nI i)) (WH hs) G (va_up (va_up T u0 (upd (T u0) 2 (tvv (G 41) nt i))) u0 (upd ((va_up T u0 (upd (T u0) 2 (tvv (G 41) nt i))) u0) 3 (tvv (G 41) nt i))))) (fun _ h => h) ?_
    rw [← hQ]
    refine zz_iret 27 X.1 hr (bI_nar _) hlk (upd F 33 (nI i), hs, G, va_up (va_up T u0 (upd (T u0) 2 (tvv (G 41) nt i))) u0 (upd ((va_up T u0 (upd (T u0) 2 (tvv (G 41) nt i))) u0) 3 (tvv (G 41) nt i))) ?_ (fun _ h _ => h) dX1_readSet_27
    have hR : seR KK i = (false, i) := by unfold seR; first | (rw [if_neg (by omega)]; done) | (rw [if_pos (by omega)]; done)
    rw [hR]
    refine ⟨va_up (va_up T u0 (upd (T u0) 2 (tvv (G 41) nt i))) u0 (upd ((va_up T u0 (upd (T u0) 2 (tvv (G 41) nt i))) u0) 3 (tvv (G 41) nt i)), rfl, rfl, fun k hk => by simp [va_up, upd, hk], ⟨(by simp [va_up, upd]), (by simp [va_up, upd])⟩, fun hz => ?_⟩
    first | exact Bool.noConfusion hz | (have hv := tvv_ok hTK (i := i) (by omega); simp [va_up, upd, hv])
abbrev rm_X1_readRange : Room := { frames := 2, cells := 0, slots := 0, locals := 41 }
theorem yd_X1_readRange : yX1_readRange.cls = RX1 ∧ yX1_readRange.cls ≠ "java/lang/invoke/MethodHandle" ∧ yX1_readRange.cls ≠ "java/lang/invoke/VarHandle" ∧ (parseMethodDescriptor yX1_readRange.desc).map (fun d => d.parameters.length) = some 1 := by decide +kernel
set_option maxHeartbeats 4000000 in
set_option maxRecDepth 100000 in
theorem kt_X1_readRange (l : Launch) (D : va_G) (C : Nat → ClassId) (K : Nat → Nat) (hAp : DAp K) (F : Nat → Int32) (hs : Nat → Bool) (G T : Nat → Nat → Int32) (KK : Nat → Nat) (VV : Nat → Nat) (SS : Nat → Nat) (nt : Nat) (tn : Nat) (i : Nat) (u0 : Nat) (hTK : TKc KK VV SS nt tn (G 40) (G 41) (G 42)) (h32 : F 32 = nI nt) (h33 : F 33 = nI i) (hi : i ≤ 400) (hm : u0 < 100) : CMi l yX1_readRange wsX1_readRange rm_X1_readRange D C K (4)  [.ref (K (100 + u0))] F hs G T (fun (r : Int32) (u : CSt) => ∃ (T1 : Nat → Nat → Int32), r = (bI ((rgR KK i).1)) ∧ u = (upd F 33 (nI ((rgR KK i).2)), hs, G, T1) ∧ (∀ k, k ≠ u0 → T1 k = T k) ∧ (T1 u0 0 = T u0 0 ∧ T1 u0 1 = T u0 1) ∧ ((rgR KK i).1 = true → T1 u0 2 = nI (VV i) ∧ T1 u0 3 = nI (if KK (i + 1) = 4 then VV (i + 2) else VV i + 1))) := by
  refine CMi_of (lv := [(0, .ref (K 4)), (1, .ref (K (100 + u0)))]) (cc := cX1_readRange) (maxL := 2) (ret := (some .boolean)) rfl (by decide +kernel) (Nat.le_of_ble_eq_true rfl) rfl ?_
  intro p e s m args below meth c X hml hr hlk
  generalize hQ : MQ below _ args s 0 0 _ = Q
  have hkb := hTK.2.2.2 i
  refine zz_world (P' := (DP D C K (upd F 33 (nI i)) (WH hs) G T)) (dp_F (upd_self (f := F) (k := 33) (x := nI i) h33).symm) ?_
  refine zz_aload_n 0 X.1 1 dX1_readRange_0 rfl ?_
  refine zz_aload_n 1 X.1 0 dX1_readRange_1 rfl ?_
  refine dd_get4 2 X (by decide +kernel) 0 (by decide) (v := .ref (K 5)) rfl (by decide +kernel) rfl dX1_readRange_2 ?_
  refine dd_callVi 5 X hml (th := 5) (As := []) (kt_X5_value l D C K hAp (upd F 33 (nI i)) hs G T KK VV SS nt tn i (by first | rfl | assumption | omega) (h32) (rfl) (by first | rfl | assumption | omega)) gX1_readRange_X5_value rfl ⟨rfl, rfl⟩ (dr_5 X) yd_X5_value ⟨Nat.le_of_ble_eq_true rfl, Nat.le_of_ble_eq_true rfl⟩ rfl rfl (Nat.le_of_ble_eq_true rfl) ⟨Nat.zero_le _, Nat.zero_le _⟩ dX1_readRange_5 ?_
  rintro r1 ⟨F1, hs1, G1, T1⟩ hu1
  obtain ⟨rfl, hv1⟩ := hu1
  cases hv1
  refine zz_world (P' := (DP D C K (upd F 33 (nI i)) (WH hs) G T)) (fun _ h => h) ?_
  refine dd_putS 8 hAp X (by decide +kernel) (i := u0) (by omega) 2 (by decide) (t := upd (T u0) 2 (tvv (G 41) nt i)) rfl (by decide +kernel) ⟨rfl, rfl⟩ (by decide +kernel) dX1_readRange_8 ?_
  refine zz_aload_n 11 X.1 1 dX1_readRange_11 rfl ?_
  refine zz_aload_n 12 X.1 1 dX1_readRange_12 rfl ?_
  refine dd_getS 13 X (by decide +kernel) (i := u0) (by omega) 2 (by decide) (v := .int ((va_up T u0 (upd (T u0) 2 (tvv (G 41) nt i))) u0 2)) rfl (by decide +kernel) rfl dX1_readRange_13 ?_
  refine zz_iconst 16 X.1 (v := nI 1) dX1_readRange_16 rfl ?_
  refine zz_iadd 17 X.1 (v := (((va_up T u0 (upd (T u0) 2 (tvv (G 41) nt i))) u0 2) + (nI 1))) dX1_readRange_17 rfl ?_
  refine dd_putS 18 hAp X (by decide +kernel) (i := u0) (by omega) 3 (by decide) (t := upd ((va_up T u0 (upd (T u0) 2 (tvv (G 41) nt i))) u0) 3 (((va_up T u0 (upd (T u0) 2 (tvv (G 41) nt i))) u0 2) + (nI 1))) rfl (by decide +kernel) ⟨rfl, rfl⟩ (by decide +kernel) dX1_readRange_18 ?_
  refine zz_aload_n 21 X.1 0 dX1_readRange_21 rfl ?_
  refine zz_iconst 22 X.1 (v := nI 3) dX1_readRange_22 rfl ?_
  refine dd_callVi 23 X hml (th := 4) (As := [.int (nI 3)]) (kt_X1_pass l D C K hAp (upd F 33 (nI i)) hs G (va_up (va_up T u0 (upd (T u0) 2 (tvv (G 41) nt i))) u0 (upd ((va_up T u0 (upd (T u0) 2 (tvv (G 41) nt i))) u0) 3 (((va_up T u0 (upd (T u0) 2 (tvv (G 41) nt i))) u0 2) + (nI 1)))) KK VV SS nt tn i 3 (by first | rfl | assumption | omega) (h32) (rfl) (by first | rfl | assumption | omega) (by first | rfl | assumption | omega)) gX1_readRange_X1_pass rfl ⟨rfl, rfl⟩ (dr_4 X) yd_X1_pass ⟨Nat.le_of_ble_eq_true rfl, Nat.le_of_ble_eq_true rfl⟩ rfl rfl (Nat.le_of_ble_eq_true rfl) ⟨Nat.zero_le _, Nat.zero_le _⟩ dX1_readRange_23 ?_
  rintro r2 ⟨F2, hs2, G2, T2⟩ hu2
  rcases (show (KK i = 3) ∨ (KK i ≠ 3) by omega) with hc2 | hc2
  · skip
    obtain ⟨rfl, hv2⟩ := (hu2.1 hc2)
    cases hv2
    refine zz_world (P' := (DP D C K (upd F 33 (nI (i + 1))) (WH hs) G (va_up (va_up T u0 (upd (T u0) 2 (tvv (G 41) nt i))) u0 (upd ((va_up T u0 (upd (T u0) 2 (tvv (G 41) nt i))) u0) 3 (((va_up T u0 (upd (T u0) 2 (tvv (G 41) nt i))) u0 2) + (nI 1)))))) (fun _ h => h) ?_
    refine zz_ifB_ne 26 31 X.1 dX1_readRange_26 (by decide) (fun h26 => ?_) (fun h26 => ?_)
    · skip
      have hkl := hTK.lt (i := i) (by omega)
      have hn400 := hTK.1
      refine zz_aload_n 31 X.1 0 dX1_readRange_31 rfl ?_
      refine zz_iconst 32 X.1 (v := nI 4) dX1_readRange_32 rfl ?_
      refine dd_callVi 33 X hml (th := 4) (As := [.int (nI 4)]) (kt_X1_pass l D C K hAp (upd F 33 (nI (i + 1))) hs G (va_up (va_up T u0 (upd (T u0) 2 (tvv (G 41) nt i))) u0 (upd ((va_up T u0 (upd (T u0) 2 (tvv (G 41) nt i))) u0) 3 (((va_up T u0 (upd (T u0) 2 (tvv (G 41) nt i))) u0 2) + (nI 1)))) KK VV SS nt tn (i + 1) 4 (by first | rfl | assumption | omega) (h32) (rfl) (by first | rfl | assumption | omega) (by first | rfl | assumption | omega)) gX1_readRange_X1_pass rfl ⟨rfl, rfl⟩ (dr_4 X) yd_X1_pass ⟨Nat.le_of_ble_eq_true rfl, Nat.le_of_ble_eq_true rfl⟩ rfl rfl (Nat.le_of_ble_eq_true rfl) ⟨Nat.zero_le _, Nat.zero_le _⟩ dX1_readRange_33 ?_
      rintro r3 ⟨F3, hs3, G3, T3⟩ hu3
      rcases (show (KK (i + 1) = 4) ∨ (KK (i + 1) ≠ 4) by omega) with hc3 | hc3
      · skip
        obtain ⟨rfl, hv3⟩ := (hu3.1 hc3)
        cases hv3
        refine zz_world (P' := (DP D C K (upd F 33 (nI ((i + 1) + 1))) (WH hs) G (va_up (va_up T u0 (upd (T u0) 2 (tvv (G 41) nt i))) u0 (upd ((va_up T u0 (upd (T u0) 2 (tvv (G 41) nt i))) u0) 3 (((va_up T u0 (upd (T u0) 2 (tvv (G 41) nt i))) u0 2) + (nI 1)))))) (fun _ h => h) ?_
        refine zz_ifB_ne 36 41 X.1 dX1_readRange_36 (by decide) (fun h36 => ?_) (fun h36 => ?_)
        · skip
          have hkl2 := hTK.lt (i := i + 1) (by omega)
          refine zz_aload_n 41 X.1 1 dX1_readRange_41 rfl ?_
          refine zz_aload_n 42 X.1 0 dX1_readRange_42 rfl ?_
          refine dd_get4 43 X (by decide +kernel) 0 (by decide) (v := .ref (K 5)) rfl (by decide +kernel) rfl dX1_readRange_43 ?_
          refine dd_callVi 46 X hml (th := 5) (As := []) (kt_X5_value l D C K hAp (upd F 33 (nI ((i + 1) + 1))) hs G (va_up (va_up T u0 (upd (T u0) 2 (tvv (G 41) nt i))) u0 (upd ((va_up T u0 (upd (T u0) 2 (tvv (G 41) nt i))) u0) 3 (((va_up T u0 (upd (T u0) 2 (tvv (G 41) nt i))) u0 2) + (nI 1)))) KK VV SS nt tn ((i + 1) + 1) (by first | rfl | assumption | omega) (h32) (rfl) (by first | rfl | assumption | omega)) gX1_readRange_X5_value rfl ⟨rfl, rfl⟩ (dr_5 X) yd_X5_value ⟨Nat.le_of_ble_eq_true rfl, Nat.le_of_ble_eq_true rfl⟩ rfl rfl (Nat.le_of_ble_eq_true rfl) ⟨Nat.zero_le _, Nat.zero_le _⟩ dX1_readRange_46 ?_
          rintro r4 ⟨F4, hs4, G4, T4⟩ hu4
          obtain ⟨rfl, hv4⟩ := hu4
          cases hv4
          refine zz_world (P' := (DP D C K (upd F 33 (nI ((i + 1) + 1))) (WH hs) G (va_up (va_up T u0 (upd (T u0) 2 (tvv (G 41) nt i))) u0 (upd ((va_up T u0 (upd (T u0) 2 (tvv (G 41) nt i))) u0) 3 (((va_up T u0 (upd (T u0) 2 (tvv (G 41) nt i))) u0 2) + (nI 1)))))) (fun _ h => h) ?_
          refine dd_putS 49 hAp X (by decide +kernel) (i := u0) (by omega) 3 (by decide) (t := upd ((va_up (va_up T u0 (upd (T u0) 2 (tvv (G 41) nt i))) u0 (upd ((va_up T u0 (upd (T u0) 2 (tvv (G 41) nt i))) u0) 3 (((va_up T u0 (upd (T u0) 2 (tvv (G 41) nt i))) u0 2) + (nI 1)))) u0) 3 (tvv (G 41) nt ((i + 1) + 1))) rfl (by decide +kernel) ⟨rfl, rfl⟩ (by decide +kernel) dX1_readRange_49 ?_
          refine zz_aload_n 52 X.1 0 dX1_readRange_52 rfl ?_
          refine zz_iconst 53 X.1 (v := nI 3) dX1_readRange_53 rfl ?_
          refine dd_callVi 54 X hml (th := 4) (As := [.int (nI 3)]) (kt_X1_pass l D C K hAp (upd F 33 (nI ((i + 1) + 1))) hs G (va_up (va_up (va_up T u0 (upd (T u0) 2 (tvv (G 41) nt i))) u0 (upd ((va_up T u0 (upd (T u0) 2 (tvv (G 41) nt i))) u0) 3 (((va_up T u0 (upd (T u0) 2 (tvv (G 41) nt i))) u0 2) + (nI 1)))) u0 (upd ((va_up (va_up T u0 (upd (T u0) 2 (tvv (G 41) nt i))) u0 (upd ((va_up T u0 (upd (T u0) 2 (tvv (G 41) nt i))) u0) 3 (((va_up T u0 (upd (T u0) 2 (tvv (G 41) nt i))) u0 2) + (nI 1)))) u0) 3 (tvv (G 41) nt ((i + 1) + 1)))) KK VV SS nt tn ((i + 1) + 1) 3 (by first | rfl | assumption | omega) (h32) (rfl) (by first | rfl | assumption | omega) (by first | rfl | assumption | omega)) gX1_readRange_X1_pass rfl ⟨rfl, rfl⟩ (dr_4 X) yd_X1_pass ⟨Nat.le_of_ble_eq_true rfl, Nat.le_of_ble_eq_true rfl⟩ rfl rfl (Nat.le_of_ble_eq_true rfl) ⟨Nat.zero_le _, Nat.zero_le _⟩ dX1_readRange_54 ?_
          rintro r5 ⟨F5, hs5, G5, T5⟩ hu5
          rcases (show (KK ((i + 1) + 1) = 3) ∨ (KK ((i + 1) + 1) ≠ 3) by omega) with hc5 | hc5
          · skip
            obtain ⟨rfl, hv5⟩ := (hu5.1 hc5)
            cases hv5
            refine zz_world (P' := (DP D C K (upd F 33 (nI (((i + 1) + 1) + 1))) (WH hs) G (va_up (va_up (va_up T u0 (upd (T u0) 2 (tvv (G 41) nt i))) u0 (upd ((va_up T u0 (upd (T u0) 2 (tvv (G 41) nt i))) u0) 3 (((va_up T u0 (upd (T u0) 2 (tvv (G 41) nt i))) u0 2) + (nI 1)))) u0 (upd ((va_up (va_up T u0 (upd (T u0) 2 (tvv (G 41) nt i))) u0 (upd ((va_up T u0 (upd (T u0) 2 (tvv (G 41) nt i))) u0) 3 (((va_up T u0 (upd (T u0) 2 (tvv (G 41) nt i))) u0 2) + (nI 1)))) u0) 3 (tvv (G 41) nt ((i + 1) + 1)))))) (fun _ h => h) ?_
            rw [← hQ]
            refine zz_iret 57 X.1 hr (bI_nar _) hlk (upd F 33 (nI (((i + 1) + 1) + 1)), hs, G, va_up (va_up (va_up T u0 (upd (T u0) 2 (tvv (G 41) nt i))) u0 (upd ((va_up T u0 (upd (T u0) 2 (tvv (G 41) nt i))) u0) 3 (((va_up T u0 (upd (T u0) 2 (tvv (G 41) nt i))) u0 2) + (nI 1)))) u0 (upd ((va_up (va_up T u0 (upd (T u0) 2 (tvv (G 41) nt i))) u0 (upd ((va_up T u0 (upd (T u0) 2 (tvv (G 41) nt i))) u0) 3 (((va_up T u0 (upd (T u0) 2 (tvv (G 41) nt i))) u0 2) + (nI 1)))) u0) 3 (tvv (G 41) nt ((i + 1) + 1)))) ?_ (fun _ h _ => h) dX1_readRange_57
            have hR : rgR KK i = (true, ((i + 1) + 1) + 1) := by unfold rgR; first | (rw [if_pos (by omega)]; done) | (rw [if_neg (by omega), if_pos (by omega)]; done) | (rw [if_neg (by omega), if_neg (by omega), if_pos (show KK (i + 2) ≠ 3 by have e2 : KK (i + 2) = KK (i + 1 + 1) := rfl; omega)]; done) | (rw [if_neg (by omega), if_neg (by omega), if_neg (show ¬ KK (i + 2) ≠ 3 by have e2 : KK (i + 2) = KK (i + 1 + 1) := rfl; omega)]; done)
            rw [hR]
            refine ⟨va_up (va_up (va_up T u0 (upd (T u0) 2 (tvv (G 41) nt i))) u0 (upd ((va_up T u0 (upd (T u0) 2 (tvv (G 41) nt i))) u0) 3 (((va_up T u0 (upd (T u0) 2 (tvv (G 41) nt i))) u0 2) + (nI 1)))) u0 (upd ((va_up (va_up T u0 (upd (T u0) 2 (tvv (G 41) nt i))) u0 (upd ((va_up T u0 (upd (T u0) 2 (tvv (G 41) nt i))) u0) 3 (((va_up T u0 (upd (T u0) 2 (tvv (G 41) nt i))) u0 2) + (nI 1)))) u0) 3 (tvv (G 41) nt ((i + 1) + 1))), rfl, rfl, fun k hk => by simp [va_up, upd, hk], ⟨(by simp [va_up, upd]), (by simp [va_up, upd])⟩, fun hz => ?_⟩
            first | exact Bool.noConfusion hz | (have hv := tvv_ok hTK (i := i) (by omega); rw [if_neg (by omega)]; simp [va_up, upd, hv, nI_add]; done) | (have hv := tvv_ok hTK (i := i) (by omega); have e2 : KK (i + 2) = KK (i + 1 + 1) := rfl; have hv2 := tvv_ok hTK (i := i + 1 + 1) (by omega); rw [if_pos (by omega)]; simp [va_up, upd, hv, hv2]; done)
          · skip
            obtain ⟨rfl, hv5⟩ := (hu5.2 hc5)
            cases hv5
            refine zz_world (P' := (DP D C K (upd F 33 (nI ((i + 1) + 1))) (WH hs) G (va_up (va_up (va_up T u0 (upd (T u0) 2 (tvv (G 41) nt i))) u0 (upd ((va_up T u0 (upd (T u0) 2 (tvv (G 41) nt i))) u0) 3 (((va_up T u0 (upd (T u0) 2 (tvv (G 41) nt i))) u0 2) + (nI 1)))) u0 (upd ((va_up (va_up T u0 (upd (T u0) 2 (tvv (G 41) nt i))) u0 (upd ((va_up T u0 (upd (T u0) 2 (tvv (G 41) nt i))) u0) 3 (((va_up T u0 (upd (T u0) 2 (tvv (G 41) nt i))) u0 2) + (nI 1)))) u0) 3 (tvv (G 41) nt ((i + 1) + 1)))))) (fun _ h => h) ?_
            rw [← hQ]
            refine zz_iret 57 X.1 hr (bI_nar _) hlk (upd F 33 (nI ((i + 1) + 1)), hs, G, va_up (va_up (va_up T u0 (upd (T u0) 2 (tvv (G 41) nt i))) u0 (upd ((va_up T u0 (upd (T u0) 2 (tvv (G 41) nt i))) u0) 3 (((va_up T u0 (upd (T u0) 2 (tvv (G 41) nt i))) u0 2) + (nI 1)))) u0 (upd ((va_up (va_up T u0 (upd (T u0) 2 (tvv (G 41) nt i))) u0 (upd ((va_up T u0 (upd (T u0) 2 (tvv (G 41) nt i))) u0) 3 (((va_up T u0 (upd (T u0) 2 (tvv (G 41) nt i))) u0 2) + (nI 1)))) u0) 3 (tvv (G 41) nt ((i + 1) + 1)))) ?_ (fun _ h _ => h) dX1_readRange_57
            have hR : rgR KK i = (false, ((i + 1) + 1)) := by unfold rgR; first | (rw [if_pos (by omega)]; done) | (rw [if_neg (by omega), if_pos (by omega)]; done) | (rw [if_neg (by omega), if_neg (by omega), if_pos (show KK (i + 2) ≠ 3 by have e2 : KK (i + 2) = KK (i + 1 + 1) := rfl; omega)]; done) | (rw [if_neg (by omega), if_neg (by omega), if_neg (show ¬ KK (i + 2) ≠ 3 by have e2 : KK (i + 2) = KK (i + 1 + 1) := rfl; omega)]; done)
            rw [hR]
            refine ⟨va_up (va_up (va_up T u0 (upd (T u0) 2 (tvv (G 41) nt i))) u0 (upd ((va_up T u0 (upd (T u0) 2 (tvv (G 41) nt i))) u0) 3 (((va_up T u0 (upd (T u0) 2 (tvv (G 41) nt i))) u0 2) + (nI 1)))) u0 (upd ((va_up (va_up T u0 (upd (T u0) 2 (tvv (G 41) nt i))) u0 (upd ((va_up T u0 (upd (T u0) 2 (tvv (G 41) nt i))) u0) 3 (((va_up T u0 (upd (T u0) 2 (tvv (G 41) nt i))) u0 2) + (nI 1)))) u0) 3 (tvv (G 41) nt ((i + 1) + 1))), rfl, rfl, fun k hk => by simp [va_up, upd, hk], ⟨(by simp [va_up, upd]), (by simp [va_up, upd])⟩, fun hz => ?_⟩
            first | exact Bool.noConfusion hz | (have hv := tvv_ok hTK (i := i) (by omega); rw [if_neg (by omega)]; simp [va_up, upd, hv, nI_add]; done) | (have hv := tvv_ok hTK (i := i) (by omega); have e2 : KK (i + 2) = KK (i + 1 + 1) := rfl; have hv2 := tvv_ok hTK (i := i + 1 + 1) (by omega); rw [if_pos (by omega)]; simp [va_up, upd, hv, hv2]; done)
        · exact absurd h36 (by decide)
      · skip
        obtain ⟨rfl, hv3⟩ := (hu3.2 hc3)
        cases hv3
        refine zz_world (P' := (DP D C K (upd F 33 (nI (i + 1))) (WH hs) G (va_up (va_up T u0 (upd (T u0) 2 (tvv (G 41) nt i))) u0 (upd ((va_up T u0 (upd (T u0) 2 (tvv (G 41) nt i))) u0) 3 (((va_up T u0 (upd (T u0) 2 (tvv (G 41) nt i))) u0 2) + (nI 1)))))) (fun _ h => h) ?_
        refine zz_ifB_ne 36 41 X.1 dX1_readRange_36 (by decide) (fun h36 => ?_) (fun h36 => ?_)
        · exact absurd h36 (by decide)
        · skip
          refine zz_iconst 39 X.1 (v := nI 1) dX1_readRange_39 rfl ?_
          refine zz_topi (bI true) rfl ?_
          rw [← hQ]
          refine zz_iret 40 X.1 hr (bI_nar _) hlk (upd F 33 (nI (i + 1)), hs, G, va_up (va_up T u0 (upd (T u0) 2 (tvv (G 41) nt i))) u0 (upd ((va_up T u0 (upd (T u0) 2 (tvv (G 41) nt i))) u0) 3 (((va_up T u0 (upd (T u0) 2 (tvv (G 41) nt i))) u0 2) + (nI 1)))) ?_ (fun _ h _ => h) dX1_readRange_40
          have hR : rgR KK i = (true, (i + 1)) := by unfold rgR; first | (rw [if_pos (by omega)]; done) | (rw [if_neg (by omega), if_pos (by omega)]; done) | (rw [if_neg (by omega), if_neg (by omega), if_pos (show KK (i + 2) ≠ 3 by have e2 : KK (i + 2) = KK (i + 1 + 1) := rfl; omega)]; done) | (rw [if_neg (by omega), if_neg (by omega), if_neg (show ¬ KK (i + 2) ≠ 3 by have e2 : KK (i + 2) = KK (i + 1 + 1) := rfl; omega)]; done)
          rw [hR]
          refine ⟨va_up (va_up T u0 (upd (T u0) 2 (tvv (G 41) nt i))) u0 (upd ((va_up T u0 (upd (T u0) 2 (tvv (G 41) nt i))) u0) 3 (((va_up T u0 (upd (T u0) 2 (tvv (G 41) nt i))) u0 2) + (nI 1))), rfl, rfl, fun k hk => by simp [va_up, upd, hk], ⟨(by simp [va_up, upd]), (by simp [va_up, upd])⟩, fun hz => ?_⟩
          first | exact Bool.noConfusion hz | (have hv := tvv_ok hTK (i := i) (by omega); rw [if_neg (by omega)]; simp [va_up, upd, hv, nI_add]; done) | (have hv := tvv_ok hTK (i := i) (by omega); have e2 : KK (i + 2) = KK (i + 1 + 1) := rfl; have hv2 := tvv_ok hTK (i := i + 1 + 1) (by omega); rw [if_pos (by omega)]; simp [va_up, upd, hv, hv2]; done)
    · exact absurd h26 (by decide)
  · skip
    obtain ⟨rfl, hv2⟩ := (hu2.2 hc2)
    cases hv2
    refine zz_world (P' := (DP D C K (upd F 33 (nI i)) (WH hs) G (va_up (va_up T u0 (upd (T u0) 2 (tvv (G 41) nt i))) u0 (upd ((va_up T u0 (upd (T u0) 2 (tvv (G 41) nt i))) u0) 3 (((va_up T u0 (upd (T u0) 2 (tvv (G 41) nt i))) u0 2) + (nI 1)))))) (fun _ h => h) ?_
    refine zz_ifB_ne 26 31 X.1 dX1_readRange_26 (by decide) (fun h26 => ?_) (fun h26 => ?_)
    · exact absurd h26 (by decide)
    · skip
      refine zz_iconst 29 X.1 (v := nI 0) dX1_readRange_29 rfl ?_
      refine zz_topi (bI false) rfl ?_
      rw [← hQ]
      refine zz_iret 30 X.1 hr (bI_nar _) hlk (upd F 33 (nI i), hs, G, va_up (va_up T u0 (upd (T u0) 2 (tvv (G 41) nt i))) u0 (upd ((va_up T u0 (upd (T u0) 2 (tvv (G 41) nt i))) u0) 3 (((va_up T u0 (upd (T u0) 2 (tvv (G 41) nt i))) u0 2) + (nI 1)))) ?_ (fun _ h _ => h) dX1_readRange_30
      have hR : rgR KK i = (false, i) := by unfold rgR; first | (rw [if_pos (by omega)]; done) | (rw [if_neg (by omega), if_pos (by omega)]; done) | (rw [if_neg (by omega), if_neg (by omega), if_pos (show KK (i + 2) ≠ 3 by have e2 : KK (i + 2) = KK (i + 1 + 1) := rfl; omega)]; done) | (rw [if_neg (by omega), if_neg (by omega), if_neg (show ¬ KK (i + 2) ≠ 3 by have e2 : KK (i + 2) = KK (i + 1 + 1) := rfl; omega)]; done)
      rw [hR]
      refine ⟨va_up (va_up T u0 (upd (T u0) 2 (tvv (G 41) nt i))) u0 (upd ((va_up T u0 (upd (T u0) 2 (tvv (G 41) nt i))) u0) 3 (((va_up T u0 (upd (T u0) 2 (tvv (G 41) nt i))) u0 2) + (nI 1))), rfl, rfl, fun k hk => by simp [va_up, upd, hk], ⟨(by simp [va_up, upd]), (by simp [va_up, upd])⟩, fun hz => ?_⟩
      first | exact Bool.noConfusion hz | (have hv := tvv_ok hTK (i := i) (by omega); rw [if_neg (by omega)]; simp [va_up, upd, hv, nI_add]; done) | (have hv := tvv_ok hTK (i := i) (by omega); have e2 : KK (i + 2) = KK (i + 1 + 1) := rfl; have hv2 := tvv_ok hTK (i := i + 1 + 1) (by omega); rw [if_pos (by omega)]; simp [va_up, upd, hv, hv2]; done)
