abbrev rw_previousMissing : Room := { frames := 9, cells := 1, slots := 6, locals := 157 }
set_option maxHeartbeats 4000000 in
set_option maxRecDepth 100000 in
theorem wL_previousMissing_ok (l : Launch) (D : va_G) (C : Nat → ClassId) (cD : ClassId) (K adK adV : Nat → Nat) (ao : Nat) (hAp : DAp K) (hao : ¬ DAd K ao) (u : CSt) (o : Int64) (x1 : Int32) (x2 : Int32) {postM : Int32 → CSt → Prop} (hM : CMi l yX6_previousMissing wsX6_previousMissing rm_X6_previousMissing D C K 0 [.int x1, .int x2] u.1 u.2.1 u.2.2.1 u.2.2.2 postM) (rv : Int32) (CU : CSt → Prop) (hp : ∀ r q, postM r q → r = rv ∧ CU q) : LM l yL_previousMissing wsL_previousMissing rw_previousMissing D C cD K adK adV ao (OLn C ao) [.int x1, .int x2] u o (fun r q => r = nI 0 ∧ q.2 = rv.toInt64 ∧ CU q.1) := by
  refine LM_of (lv := [(0, .ref (K 0)), (1, .int x1), (2, .int x2), (3, .ref ao)]) (cc := cL_previousMissing) (maxL := 5) (ret := some .int) (hh := [(0, 10, 13, 19), (0, 10, 17, 25)]) rfl (by decide +kernel) (Nat.le_of_ble_eq_true rfl) rfl ?_
  intro p e s m args below meth c X hKd hAM hAS hNC ht hml hr hlk
  generalize hQ : MQ below _ args s 1 6 _ = Q
  refine zz_aload_n 0 X.1 3 dL_previousMissing_0 rfl ?_
  refine zz_iconst 1 X.1 (v := nI 0) dL_previousMissing_1 rfl ?_
  refine zz_aload_n 2 X.1 0 dL_previousMissing_2 rfl ?_
  refine zz_iload_n 3 X.1 1 dL_previousMissing_3 rfl ?_
  refine zz_iload_n 4 X.1 2 dL_previousMissing_4 rfl ?_
  refine lm_calli 5 X hml hao rfl (As := [.int x1, .int x2]) hM gL_previousMissing_X6_previousMissing rfl ⟨rfl, rfl⟩ yd_X6_previousMissing ⟨Nat.le_of_ble_eq_true rfl, Nat.le_of_ble_eq_true rfl⟩ rfl rfl (Nat.le_of_ble_eq_true rfl) ⟨Nat.le_of_ble_eq_true rfl, Nat.le_of_ble_eq_true rfl⟩ dL_previousMissing_5 ?_
  intro r q hq
  obtain ⟨he, hc⟩ := hp r q hq
  rw [he]
  refine zz_i2l 8 X.1 dL_previousMissing_8 rfl ?_
  refine lm_lst 9 X hAp hao dL_previousMissing_9 ?_
  refine zz_goto 10 21 X.1 dL_previousMissing_10 (by decide) ?_
  refine zz_widen (k := 1) (j := 6) (Nat.le_of_ble_eq_true rfl) (Nat.le_of_ble_eq_true rfl) ?_
  refine zz_iconst 21 X.1 (v := nI 0) dL_previousMissing_21 rfl ?_
  rw [← hQ]
  refine zz_iret 22 X.1 hr rfl hlk (q, rv.toInt64) ⟨rfl, rfl, hc⟩ (fun _ h => fun _ => h) dL_previousMissing_22

set_option maxHeartbeats 4000000 in
set_option maxRecDepth 100000 in
theorem wL_previousMissing_x1 (l : Launch) (D : va_G) (C : Nat → ClassId) (cD : ClassId) (K adK adV : Nat → Nat) (ao : Nat) (hAp : DAp K) (hao : ¬ DAd K ao) (u : CSt) (o : Int64) (x1 : Int32) (x2 : Int32) {u0 : CSt} (hX : CX l yX6_previousMissing wsX6_previousMissing rx_X6_previousMissing D C K 0 [.int x1, .int x2] u.1 u.2.1 u.2.2.1 u.2.2.2 "java/lang/IllegalArgumentException" u0) : LM l yL_previousMissing wsL_previousMissing rw_previousMissing D C cD K adK adV ao (OLn C ao) [.int x1, .int x2] u o (fun r q => r = nI 1 ∧ q.2 = o ∧ q.1 = u0) := by
  refine LM_of (lv := [(0, .ref (K 0)), (1, .int x1), (2, .int x2), (3, .ref ao)]) (cc := cL_previousMissing) (maxL := 5) (ret := some .int) (hh := [(0, 10, 13, 19), (0, 10, 17, 25)]) rfl (by decide +kernel) (Nat.le_of_ble_eq_true rfl) rfl ?_
  intro p e s m args below meth c X hKd hAM hAS hNC ht hml hr hlk
  generalize hQ : MQ below _ args s 1 6 _ = Q
  refine zz_aload_n 0 X.1 3 dL_previousMissing_0 rfl ?_
  refine zz_iconst 1 X.1 (v := nI 0) dL_previousMissing_1 rfl ?_
  refine zz_aload_n 2 X.1 0 dL_previousMissing_2 rfl ?_
  refine zz_iload_n 3 X.1 1 dL_previousMissing_3 rfl ?_
  refine zz_iload_n 4 X.1 2 dL_previousMissing_4 rfl ?_
  refine lm_callX 5 X hAM hml hao rfl (As := [.int x1, .int x2]) hX gL_previousMissing_X6_previousMissing rfl ⟨rfl, rfl⟩ yd_X6_previousMissing ⟨Nat.le_of_ble_eq_true rfl, Nat.le_of_ble_eq_true rfl⟩ rfl rfl (Nat.le_of_ble_eq_true rfl) ⟨Nat.le_of_ble_eq_true rfl, Nat.le_of_ble_eq_true rfl⟩ dL_previousMissing_5 [] ⟨0, 10, 13, 19⟩ [⟨0, 10, 17, 25⟩] ht (fun z hz => absurd hz List.not_mem_nil) (by decide) (by decide) (name := "java/lang/IllegalArgumentException") (by decide +kernel) (by decide +kernel) (hpc := 13) rfl ?_
  intro q9
  refine zz_astore 13 X.1 (lv' := [(4, .ref q9), (0, .ref (K 0)), (1, .int x1), (2, .int x2), (3, .ref ao)]) dL_previousMissing_13 (by decide) rfl ?_
  refine zz_iconst 15 X.1 (v := nI 1) dL_previousMissing_15 rfl ?_
  rw [← hQ]
  refine zz_iret 16 X.1 hr rfl hlk (u0, o) ⟨rfl, rfl, rfl⟩ (fun _ h => fun _ => h) dL_previousMissing_16

set_option maxHeartbeats 4000000 in
set_option maxRecDepth 100000 in
theorem wL_previousMissing_x2 (l : Launch) (D : va_G) (C : Nat → ClassId) (cD : ClassId) (K adK adV : Nat → Nat) (ao : Nat) (hAp : DAp K) (hao : ¬ DAd K ao) (u : CSt) (o : Int64) (x1 : Int32) (x2 : Int32) {u0 : CSt} (hX : CX l yX6_previousMissing wsX6_previousMissing rx_X6_previousMissing D C K 0 [.int x1, .int x2] u.1 u.2.1 u.2.2.1 u.2.2.2 "java/lang/IndexOutOfBoundsException" u0) : LM l yL_previousMissing wsL_previousMissing rw_previousMissing D C cD K adK adV ao (OLn C ao) [.int x1, .int x2] u o (fun r q => r = nI 2 ∧ q.2 = o ∧ q.1 = u0) := by
  refine LM_of (lv := [(0, .ref (K 0)), (1, .int x1), (2, .int x2), (3, .ref ao)]) (cc := cL_previousMissing) (maxL := 5) (ret := some .int) (hh := [(0, 10, 13, 19), (0, 10, 17, 25)]) rfl (by decide +kernel) (Nat.le_of_ble_eq_true rfl) rfl ?_
  intro p e s m args below meth c X hKd hAM hAS hNC ht hml hr hlk
  generalize hQ : MQ below _ args s 1 6 _ = Q
  refine zz_aload_n 0 X.1 3 dL_previousMissing_0 rfl ?_
  refine zz_iconst 1 X.1 (v := nI 0) dL_previousMissing_1 rfl ?_
  refine zz_aload_n 2 X.1 0 dL_previousMissing_2 rfl ?_
  refine zz_iload_n 3 X.1 1 dL_previousMissing_3 rfl ?_
  refine zz_iload_n 4 X.1 2 dL_previousMissing_4 rfl ?_
  refine lm_callX 5 X hAM hml hao rfl (As := [.int x1, .int x2]) hX gL_previousMissing_X6_previousMissing rfl ⟨rfl, rfl⟩ yd_X6_previousMissing ⟨Nat.le_of_ble_eq_true rfl, Nat.le_of_ble_eq_true rfl⟩ rfl rfl (Nat.le_of_ble_eq_true rfl) ⟨Nat.le_of_ble_eq_true rfl, Nat.le_of_ble_eq_true rfl⟩ dL_previousMissing_5 [⟨0, 10, 13, 19⟩] ⟨0, 10, 17, 25⟩ [] ht (fun z hz => by cases List.mem_singleton.mp hz; exact Or.inr ⟨by decide, "java/lang/IllegalArgumentException", X.2.1 _ (by decide +kernel), hNC.1⟩) (by decide) (by decide) (name := "java/lang/IndexOutOfBoundsException") (by decide +kernel) (by decide +kernel) (hpc := 17) rfl ?_
  intro q9
  refine zz_astore 17 X.1 (lv' := [(4, .ref q9), (0, .ref (K 0)), (1, .int x1), (2, .int x2), (3, .ref ao)]) dL_previousMissing_17 (by decide) rfl ?_
  refine zz_iconst 19 X.1 (v := nI 2) dL_previousMissing_19 rfl ?_
  rw [← hQ]
  refine zz_iret 20 X.1 hr rfl hlk (u0, o) ⟨rfl, rfl, rfl⟩ (fun _ h => fun _ => h) dL_previousMissing_20

abbrev rw_memberAt : Room := { frames := 8, cells := 1, slots := 6, locals := 136 }
set_option maxHeartbeats 4000000 in
set_option maxRecDepth 100000 in
theorem wL_memberAt_ok (l : Launch) (D : va_G) (C : Nat → ClassId) (cD : ClassId) (K adK adV : Nat → Nat) (ao : Nat) (hAp : DAp K) (hao : ¬ DAd K ao) (u : CSt) (o : Int64) (x1 : Int32) (x2 : Int32) {postM : Int32 → CSt → Prop} (hM : CMi l yX6_memberAt wsX6_memberAt rm_X6_memberAt D C K 0 [.int x1, .int x2] u.1 u.2.1 u.2.2.1 u.2.2.2 postM) (rv : Int32) (CU : CSt → Prop) (hp : ∀ r q, postM r q → r = rv ∧ CU q) : LM l yL_memberAt wsL_memberAt rw_memberAt D C cD K adK adV ao (OLn C ao) [.int x1, .int x2] u o (fun r q => r = nI 0 ∧ q.2 = rv.toInt64 ∧ CU q.1) := by
  refine LM_of (lv := [(0, .ref (K 0)), (1, .int x1), (2, .int x2), (3, .ref ao)]) (cc := cL_memberAt) (maxL := 5) (ret := some .int) (hh := [(0, 10, 13, 19)]) rfl (by decide +kernel) (Nat.le_of_ble_eq_true rfl) rfl ?_
  intro p e s m args below meth c X hKd hAM hAS hNC ht hml hr hlk
  generalize hQ : MQ below _ args s 1 6 _ = Q
  refine zz_aload_n 0 X.1 3 dL_memberAt_0 rfl ?_
  refine zz_iconst 1 X.1 (v := nI 0) dL_memberAt_1 rfl ?_
  refine zz_aload_n 2 X.1 0 dL_memberAt_2 rfl ?_
  refine zz_iload_n 3 X.1 1 dL_memberAt_3 rfl ?_
  refine zz_iload_n 4 X.1 2 dL_memberAt_4 rfl ?_
  refine lm_calli 5 X hml hao rfl (As := [.int x1, .int x2]) hM gL_memberAt_X6_memberAt rfl ⟨rfl, rfl⟩ yd_X6_memberAt ⟨Nat.le_of_ble_eq_true rfl, Nat.le_of_ble_eq_true rfl⟩ rfl rfl (Nat.le_of_ble_eq_true rfl) ⟨Nat.le_of_ble_eq_true rfl, Nat.le_of_ble_eq_true rfl⟩ dL_memberAt_5 ?_
  intro r q hq
  obtain ⟨he, hc⟩ := hp r q hq
  rw [he]
  refine zz_i2l 8 X.1 dL_memberAt_8 rfl ?_
  refine lm_lst 9 X hAp hao dL_memberAt_9 ?_
  refine zz_goto 10 17 X.1 dL_memberAt_10 (by decide) ?_
  refine zz_widen (k := 1) (j := 6) (Nat.le_of_ble_eq_true rfl) (Nat.le_of_ble_eq_true rfl) ?_
  refine zz_iconst 17 X.1 (v := nI 0) dL_memberAt_17 rfl ?_
  rw [← hQ]
  refine zz_iret 18 X.1 hr rfl hlk (q, rv.toInt64) ⟨rfl, rfl, hc⟩ (fun _ h => fun _ => h) dL_memberAt_18

set_option maxHeartbeats 4000000 in
set_option maxRecDepth 100000 in
theorem wL_memberAt_x1 (l : Launch) (D : va_G) (C : Nat → ClassId) (cD : ClassId) (K adK adV : Nat → Nat) (ao : Nat) (hAp : DAp K) (hao : ¬ DAd K ao) (u : CSt) (o : Int64) (x1 : Int32) (x2 : Int32) {u0 : CSt} (hX : CX l yX6_memberAt wsX6_memberAt rx_X6_memberAt D C K 0 [.int x1, .int x2] u.1 u.2.1 u.2.2.1 u.2.2.2 "java/lang/IllegalArgumentException" u0) : LM l yL_memberAt wsL_memberAt rw_memberAt D C cD K adK adV ao (OLn C ao) [.int x1, .int x2] u o (fun r q => r = nI 1 ∧ q.2 = o ∧ q.1 = u0) := by
  refine LM_of (lv := [(0, .ref (K 0)), (1, .int x1), (2, .int x2), (3, .ref ao)]) (cc := cL_memberAt) (maxL := 5) (ret := some .int) (hh := [(0, 10, 13, 19)]) rfl (by decide +kernel) (Nat.le_of_ble_eq_true rfl) rfl ?_
  intro p e s m args below meth c X hKd hAM hAS hNC ht hml hr hlk
  generalize hQ : MQ below _ args s 1 6 _ = Q
  refine zz_aload_n 0 X.1 3 dL_memberAt_0 rfl ?_
  refine zz_iconst 1 X.1 (v := nI 0) dL_memberAt_1 rfl ?_
  refine zz_aload_n 2 X.1 0 dL_memberAt_2 rfl ?_
  refine zz_iload_n 3 X.1 1 dL_memberAt_3 rfl ?_
  refine zz_iload_n 4 X.1 2 dL_memberAt_4 rfl ?_
  refine lm_callX 5 X hAM hml hao rfl (As := [.int x1, .int x2]) hX gL_memberAt_X6_memberAt rfl ⟨rfl, rfl⟩ yd_X6_memberAt ⟨Nat.le_of_ble_eq_true rfl, Nat.le_of_ble_eq_true rfl⟩ rfl rfl (Nat.le_of_ble_eq_true rfl) ⟨Nat.le_of_ble_eq_true rfl, Nat.le_of_ble_eq_true rfl⟩ dL_memberAt_5 [] ⟨0, 10, 13, 19⟩ [] ht (fun z hz => absurd hz List.not_mem_nil) (by decide) (by decide) (name := "java/lang/IllegalArgumentException") (by decide +kernel) (by decide +kernel) (hpc := 13) rfl ?_
  intro q9
  refine zz_astore 13 X.1 (lv' := [(4, .ref q9), (0, .ref (K 0)), (1, .int x1), (2, .int x2), (3, .ref ao)]) dL_memberAt_13 (by decide) rfl ?_
  refine zz_iconst 15 X.1 (v := nI 1) dL_memberAt_15 rfl ?_
  rw [← hQ]
  refine zz_iret 16 X.1 hr rfl hlk (u0, o) ⟨rfl, rfl, rfl⟩ (fun _ h => fun _ => h) dL_memberAt_16

abbrev rw_sum : Room := { frames := 8, cells := 1, slots := 6, locals := 135 }
set_option maxHeartbeats 4000000 in
set_option maxRecDepth 100000 in
theorem wL_sum_ok (l : Launch) (D : va_G) (C : Nat → ClassId) (cD : ClassId) (K adK adV : Nat → Nat) (ao : Nat) (hAp : DAp K) (hao : ¬ DAd K ao) (u : CSt) (o : Int64) (x1 : Int32) {postM : Int64 → CSt → Prop} (hM : CMl l yX6_sum wsX6_sum rm_X6_sum D C K 0 [.int x1] u.1 u.2.1 u.2.2.1 u.2.2.2 postM) (rv : Int64) (CU : CSt → Prop) (hp : ∀ r q, postM r q → r = rv ∧ CU q) : LM l yL_sum wsL_sum rw_sum D C cD K adK adV ao (OLn C ao) [.int x1] u o (fun r q => r = nI 0 ∧ q.2 = rv ∧ CU q.1) := by
  refine LM_of (lv := [(0, .ref (K 0)), (1, .int x1), (2, .ref ao)]) (cc := cL_sum) (maxL := 4) (ret := some .int) (hh := [(0, 8, 11, 19)]) rfl (by decide +kernel) (Nat.le_of_ble_eq_true rfl) rfl ?_
  intro p e s m args below meth c X hKd hAM hAS hNC ht hml hr hlk
  generalize hQ : MQ below _ args s 1 6 _ = Q
  refine zz_aload_n 0 X.1 2 dL_sum_0 rfl ?_
  refine zz_iconst 1 X.1 (v := nI 0) dL_sum_1 rfl ?_
  refine zz_aload_n 2 X.1 0 dL_sum_2 rfl ?_
  refine zz_iload_n 3 X.1 1 dL_sum_3 rfl ?_
  refine lm_calll 4 X hml hao rfl (As := [.int x1]) hM gL_sum_X6_sum rfl ⟨rfl, rfl⟩ yd_X6_sum ⟨Nat.le_of_ble_eq_true rfl, Nat.le_of_ble_eq_true rfl⟩ rfl rfl (Nat.le_of_ble_eq_true rfl) ⟨Nat.le_of_ble_eq_true rfl, Nat.le_of_ble_eq_true rfl⟩ dL_sum_4 ?_
  intro r q hq
  obtain ⟨he, hc⟩ := hp r q hq
  rw [he]
  refine lm_lst 7 X hAp hao dL_sum_7 ?_
  refine zz_goto 8 14 X.1 dL_sum_8 (by decide) ?_
  refine zz_widen (k := 1) (j := 6) (Nat.le_of_ble_eq_true rfl) (Nat.le_of_ble_eq_true rfl) ?_
  refine zz_iconst 14 X.1 (v := nI 0) dL_sum_14 rfl ?_
  rw [← hQ]
  refine zz_iret 15 X.1 hr rfl hlk (q, rv) ⟨rfl, rfl, hc⟩ (fun _ h => fun _ => h) dL_sum_15

set_option maxHeartbeats 4000000 in
set_option maxRecDepth 100000 in
theorem wL_sum_x1 (l : Launch) (D : va_G) (C : Nat → ClassId) (cD : ClassId) (K adK adV : Nat → Nat) (ao : Nat) (hAp : DAp K) (hao : ¬ DAd K ao) (u : CSt) (o : Int64) (x1 : Int32) {u0 : CSt} (hX : CX l yX6_sum wsX6_sum rx_X6_sum D C K 0 [.int x1] u.1 u.2.1 u.2.2.1 u.2.2.2 "java/lang/IllegalArgumentException" u0) : LM l yL_sum wsL_sum rw_sum D C cD K adK adV ao (OLn C ao) [.int x1] u o (fun r q => r = nI 1 ∧ q.2 = o ∧ q.1 = u0) := by
  refine LM_of (lv := [(0, .ref (K 0)), (1, .int x1), (2, .ref ao)]) (cc := cL_sum) (maxL := 4) (ret := some .int) (hh := [(0, 8, 11, 19)]) rfl (by decide +kernel) (Nat.le_of_ble_eq_true rfl) rfl ?_
  intro p e s m args below meth c X hKd hAM hAS hNC ht hml hr hlk
  generalize hQ : MQ below _ args s 1 6 _ = Q
  refine zz_aload_n 0 X.1 2 dL_sum_0 rfl ?_
  refine zz_iconst 1 X.1 (v := nI 0) dL_sum_1 rfl ?_
  refine zz_aload_n 2 X.1 0 dL_sum_2 rfl ?_
  refine zz_iload_n 3 X.1 1 dL_sum_3 rfl ?_
  refine lm_callX 4 X hAM hml hao rfl (As := [.int x1]) hX gL_sum_X6_sum rfl ⟨rfl, rfl⟩ yd_X6_sum ⟨Nat.le_of_ble_eq_true rfl, Nat.le_of_ble_eq_true rfl⟩ rfl rfl (Nat.le_of_ble_eq_true rfl) ⟨Nat.le_of_ble_eq_true rfl, Nat.le_of_ble_eq_true rfl⟩ dL_sum_4 [] ⟨0, 8, 11, 19⟩ [] ht (fun z hz => absurd hz List.not_mem_nil) (by decide) (by decide) (name := "java/lang/IllegalArgumentException") (by decide +kernel) (by decide +kernel) (hpc := 11) rfl ?_
  intro q9
  refine zz_astore_n 11 X.1 (lv' := [(3, .ref q9), (0, .ref (K 0)), (1, .int x1), (2, .ref ao)]) dL_sum_11 (by decide) rfl ?_
  refine zz_iconst 12 X.1 (v := nI 1) dL_sum_12 rfl ?_
  rw [← hQ]
  refine zz_iret 13 X.1 hr rfl hlk (u0, o) ⟨rfl, rfl, rfl⟩ (fun _ h => fun _ => h) dL_sum_13

abbrev rw_runs : Room := { frames := 8, cells := 1, slots := 6, locals := 134 }
set_option maxHeartbeats 4000000 in
set_option maxRecDepth 100000 in
theorem wL_runs_ok (l : Launch) (D : va_G) (C : Nat → ClassId) (cD : ClassId) (K adK adV : Nat → Nat) (ao : Nat) (hAp : DAp K) (hao : ¬ DAd K ao) (u : CSt) (o : Int64) (x1 : Int32) {postM : Int32 → CSt → Prop} (hM : CMi l yX6_runs wsX6_runs rm_X6_runs D C K 0 [.int x1] u.1 u.2.1 u.2.2.1 u.2.2.2 postM) (rv : Int32) (CU : CSt → Prop) (hp : ∀ r q, postM r q → r = rv ∧ CU q) : LM l yL_runs wsL_runs rw_runs D C cD K adK adV ao (OLn C ao) [.int x1] u o (fun r q => r = nI 0 ∧ q.2 = rv.toInt64 ∧ CU q.1) := by
  refine LM_of (lv := [(0, .ref (K 0)), (1, .int x1), (2, .ref ao)]) (cc := cL_runs) (maxL := 4) (ret := some .int) (hh := [(0, 9, 12, 19)]) rfl (by decide +kernel) (Nat.le_of_ble_eq_true rfl) rfl ?_
  intro p e s m args below meth c X hKd hAM hAS hNC ht hml hr hlk
  generalize hQ : MQ below _ args s 1 6 _ = Q
  refine zz_aload_n 0 X.1 2 dL_runs_0 rfl ?_
  refine zz_iconst 1 X.1 (v := nI 0) dL_runs_1 rfl ?_
  refine zz_aload_n 2 X.1 0 dL_runs_2 rfl ?_
  refine zz_iload_n 3 X.1 1 dL_runs_3 rfl ?_
  refine lm_calli 4 X hml hao rfl (As := [.int x1]) hM gL_runs_X6_runs rfl ⟨rfl, rfl⟩ yd_X6_runs ⟨Nat.le_of_ble_eq_true rfl, Nat.le_of_ble_eq_true rfl⟩ rfl rfl (Nat.le_of_ble_eq_true rfl) ⟨Nat.le_of_ble_eq_true rfl, Nat.le_of_ble_eq_true rfl⟩ dL_runs_4 ?_
  intro r q hq
  obtain ⟨he, hc⟩ := hp r q hq
  rw [he]
  refine zz_i2l 7 X.1 dL_runs_7 rfl ?_
  refine lm_lst 8 X hAp hao dL_runs_8 ?_
  refine zz_goto 9 15 X.1 dL_runs_9 (by decide) ?_
  refine zz_widen (k := 1) (j := 6) (Nat.le_of_ble_eq_true rfl) (Nat.le_of_ble_eq_true rfl) ?_
  refine zz_iconst 15 X.1 (v := nI 0) dL_runs_15 rfl ?_
  rw [← hQ]
  refine zz_iret 16 X.1 hr rfl hlk (q, rv.toInt64) ⟨rfl, rfl, hc⟩ (fun _ h => fun _ => h) dL_runs_16

set_option maxHeartbeats 4000000 in
set_option maxRecDepth 100000 in
theorem wL_runs_x1 (l : Launch) (D : va_G) (C : Nat → ClassId) (cD : ClassId) (K adK adV : Nat → Nat) (ao : Nat) (hAp : DAp K) (hao : ¬ DAd K ao) (u : CSt) (o : Int64) (x1 : Int32) {u0 : CSt} (hX : CX l yX6_runs wsX6_runs rx_X6_runs D C K 0 [.int x1] u.1 u.2.1 u.2.2.1 u.2.2.2 "java/lang/IllegalArgumentException" u0) : LM l yL_runs wsL_runs rw_runs D C cD K adK adV ao (OLn C ao) [.int x1] u o (fun r q => r = nI 1 ∧ q.2 = o ∧ q.1 = u0) := by
  refine LM_of (lv := [(0, .ref (K 0)), (1, .int x1), (2, .ref ao)]) (cc := cL_runs) (maxL := 4) (ret := some .int) (hh := [(0, 9, 12, 19)]) rfl (by decide +kernel) (Nat.le_of_ble_eq_true rfl) rfl ?_
  intro p e s m args below meth c X hKd hAM hAS hNC ht hml hr hlk
  generalize hQ : MQ below _ args s 1 6 _ = Q
  refine zz_aload_n 0 X.1 2 dL_runs_0 rfl ?_
  refine zz_iconst 1 X.1 (v := nI 0) dL_runs_1 rfl ?_
  refine zz_aload_n 2 X.1 0 dL_runs_2 rfl ?_
  refine zz_iload_n 3 X.1 1 dL_runs_3 rfl ?_
  refine lm_callX 4 X hAM hml hao rfl (As := [.int x1]) hX gL_runs_X6_runs rfl ⟨rfl, rfl⟩ yd_X6_runs ⟨Nat.le_of_ble_eq_true rfl, Nat.le_of_ble_eq_true rfl⟩ rfl rfl (Nat.le_of_ble_eq_true rfl) ⟨Nat.le_of_ble_eq_true rfl, Nat.le_of_ble_eq_true rfl⟩ dL_runs_4 [] ⟨0, 9, 12, 19⟩ [] ht (fun z hz => absurd hz List.not_mem_nil) (by decide) (by decide) (name := "java/lang/IllegalArgumentException") (by decide +kernel) (by decide +kernel) (hpc := 12) rfl ?_
  intro q9
  refine zz_astore_n 12 X.1 (lv' := [(3, .ref q9), (0, .ref (K 0)), (1, .int x1), (2, .ref ao)]) dL_runs_12 (by decide) rfl ?_
  refine zz_iconst 13 X.1 (v := nI 1) dL_runs_13 rfl ?_
  rw [← hQ]
  refine zz_iret 14 X.1 hr rfl hlk (u0, o) ⟨rfl, rfl, rfl⟩ (fun _ h => fun _ => h) dL_runs_14

abbrev rw_longestRun : Room := { frames := 8, cells := 1, slots := 6, locals := 136 }
set_option maxHeartbeats 4000000 in
set_option maxRecDepth 100000 in
theorem wL_longestRun_ok (l : Launch) (D : va_G) (C : Nat → ClassId) (cD : ClassId) (K adK adV : Nat → Nat) (ao : Nat) (hAp : DAp K) (hao : ¬ DAd K ao) (u : CSt) (o : Int64) (x1 : Int32) {postM : Int32 → CSt → Prop} (hM : CMi l yX6_longestRun wsX6_longestRun rm_X6_longestRun D C K 0 [.int x1] u.1 u.2.1 u.2.2.1 u.2.2.2 postM) (rv : Int32) (CU : CSt → Prop) (hp : ∀ r q, postM r q → r = rv ∧ CU q) : LM l yL_longestRun wsL_longestRun rw_longestRun D C cD K adK adV ao (OLn C ao) [.int x1] u o (fun r q => r = nI 0 ∧ q.2 = rv.toInt64 ∧ CU q.1) := by
  refine LM_of (lv := [(0, .ref (K 0)), (1, .int x1), (2, .ref ao)]) (cc := cL_longestRun) (maxL := 4) (ret := some .int) (hh := [(0, 9, 12, 19)]) rfl (by decide +kernel) (Nat.le_of_ble_eq_true rfl) rfl ?_
  intro p e s m args below meth c X hKd hAM hAS hNC ht hml hr hlk
  generalize hQ : MQ below _ args s 1 6 _ = Q
  refine zz_aload_n 0 X.1 2 dL_longestRun_0 rfl ?_
  refine zz_iconst 1 X.1 (v := nI 0) dL_longestRun_1 rfl ?_
  refine zz_aload_n 2 X.1 0 dL_longestRun_2 rfl ?_
  refine zz_iload_n 3 X.1 1 dL_longestRun_3 rfl ?_
  refine lm_calli 4 X hml hao rfl (As := [.int x1]) hM gL_longestRun_X6_longestRun rfl ⟨rfl, rfl⟩ yd_X6_longestRun ⟨Nat.le_of_ble_eq_true rfl, Nat.le_of_ble_eq_true rfl⟩ rfl rfl (Nat.le_of_ble_eq_true rfl) ⟨Nat.le_of_ble_eq_true rfl, Nat.le_of_ble_eq_true rfl⟩ dL_longestRun_4 ?_
  intro r q hq
  obtain ⟨he, hc⟩ := hp r q hq
  rw [he]
  refine zz_i2l 7 X.1 dL_longestRun_7 rfl ?_
  refine lm_lst 8 X hAp hao dL_longestRun_8 ?_
  refine zz_goto 9 15 X.1 dL_longestRun_9 (by decide) ?_
  refine zz_widen (k := 1) (j := 6) (Nat.le_of_ble_eq_true rfl) (Nat.le_of_ble_eq_true rfl) ?_
  refine zz_iconst 15 X.1 (v := nI 0) dL_longestRun_15 rfl ?_
  rw [← hQ]
  refine zz_iret 16 X.1 hr rfl hlk (q, rv.toInt64) ⟨rfl, rfl, hc⟩ (fun _ h => fun _ => h) dL_longestRun_16

set_option maxHeartbeats 4000000 in
set_option maxRecDepth 100000 in
theorem wL_longestRun_x1 (l : Launch) (D : va_G) (C : Nat → ClassId) (cD : ClassId) (K adK adV : Nat → Nat) (ao : Nat) (hAp : DAp K) (hao : ¬ DAd K ao) (u : CSt) (o : Int64) (x1 : Int32) {u0 : CSt} (hX : CX l yX6_longestRun wsX6_longestRun rx_X6_longestRun D C K 0 [.int x1] u.1 u.2.1 u.2.2.1 u.2.2.2 "java/lang/IllegalArgumentException" u0) : LM l yL_longestRun wsL_longestRun rw_longestRun D C cD K adK adV ao (OLn C ao) [.int x1] u o (fun r q => r = nI 1 ∧ q.2 = o ∧ q.1 = u0) := by
  refine LM_of (lv := [(0, .ref (K 0)), (1, .int x1), (2, .ref ao)]) (cc := cL_longestRun) (maxL := 4) (ret := some .int) (hh := [(0, 9, 12, 19)]) rfl (by decide +kernel) (Nat.le_of_ble_eq_true rfl) rfl ?_
  intro p e s m args below meth c X hKd hAM hAS hNC ht hml hr hlk
  generalize hQ : MQ below _ args s 1 6 _ = Q
  refine zz_aload_n 0 X.1 2 dL_longestRun_0 rfl ?_
  refine zz_iconst 1 X.1 (v := nI 0) dL_longestRun_1 rfl ?_
  refine zz_aload_n 2 X.1 0 dL_longestRun_2 rfl ?_
  refine zz_iload_n 3 X.1 1 dL_longestRun_3 rfl ?_
  refine lm_callX 4 X hAM hml hao rfl (As := [.int x1]) hX gL_longestRun_X6_longestRun rfl ⟨rfl, rfl⟩ yd_X6_longestRun ⟨Nat.le_of_ble_eq_true rfl, Nat.le_of_ble_eq_true rfl⟩ rfl rfl (Nat.le_of_ble_eq_true rfl) ⟨Nat.le_of_ble_eq_true rfl, Nat.le_of_ble_eq_true rfl⟩ dL_longestRun_4 [] ⟨0, 9, 12, 19⟩ [] ht (fun z hz => absurd hz List.not_mem_nil) (by decide) (by decide) (name := "java/lang/IllegalArgumentException") (by decide +kernel) (by decide +kernel) (hpc := 12) rfl ?_
  intro q9
  refine zz_astore_n 12 X.1 (lv' := [(3, .ref q9), (0, .ref (K 0)), (1, .int x1), (2, .ref ao)]) dL_longestRun_12 (by decide) rfl ?_
  refine zz_iconst 13 X.1 (v := nI 1) dL_longestRun_13 rfl ?_
  rw [← hQ]
  refine zz_iret 14 X.1 hr rfl hlk (u0, o) ⟨rfl, rfl, rfl⟩ (fun _ h => fun _ => h) dL_longestRun_14

abbrev rw_areEqual : Room := { frames := 8, cells := 1, slots := 6, locals := 133 }
set_option maxHeartbeats 4000000 in
set_option maxRecDepth 100000 in
theorem wL_areEqual_ok (l : Launch) (D : va_G) (C : Nat → ClassId) (cD : ClassId) (K adK adV : Nat → Nat) (ao : Nat) (hAp : DAp K) (hao : ¬ DAd K ao) (u : CSt) (o : Int64) (x1 : Int32) (x2 : Int32) {postM : Int32 → CSt → Prop} (hM : CMi l yX6_areEqual wsX6_areEqual rm_X6_areEqual D C K 0 [.int x1, .int x2] u.1 u.2.1 u.2.2.1 u.2.2.2 postM) (rv : Int32) (CU : CSt → Prop) (hp : ∀ r q, postM r q → r = rv ∧ CU q) : LM l yL_areEqual wsL_areEqual rw_areEqual D C cD K adK adV ao (OLn C ao) [.int x1, .int x2] u o (fun r q => r = nI 0 ∧ q.2 = (if rv = 0 then 0 else 1 : Int64) ∧ CU q.1) := by
  refine LM_of (lv := [(0, .ref (K 0)), (1, .int x1), (2, .int x2), (3, .ref ao)]) (cc := cL_areEqual) (maxL := 5) (ret := some .int) (hh := [(0, 17, 20, 19)]) rfl (by decide +kernel) (Nat.le_of_ble_eq_true rfl) rfl ?_
  intro p e s m args below meth c X hKd hAM hAS hNC ht hml hr hlk
  generalize hQ : MQ below _ args s 1 6 _ = Q
  refine zz_aload_n 0 X.1 3 dL_areEqual_0 rfl ?_
  refine zz_iconst 1 X.1 (v := nI 0) dL_areEqual_1 rfl ?_
  refine zz_aload_n 2 X.1 0 dL_areEqual_2 rfl ?_
  refine zz_iload_n 3 X.1 1 dL_areEqual_3 rfl ?_
  refine zz_iload_n 4 X.1 2 dL_areEqual_4 rfl ?_
  refine lm_calli 5 X hml hao rfl (As := [.int x1, .int x2]) hM gL_areEqual_X6_areEqual rfl ⟨rfl, rfl⟩ yd_X6_areEqual ⟨Nat.le_of_ble_eq_true rfl, Nat.le_of_ble_eq_true rfl⟩ rfl rfl (Nat.le_of_ble_eq_true rfl) ⟨Nat.le_of_ble_eq_true rfl, Nat.le_of_ble_eq_true rfl⟩ dL_areEqual_5 ?_
  intro r q hq
  obtain ⟨he, hc⟩ := hp r q hq
  rw [he]
  refine zz_if_eq 8 15 X.1 rfl dL_areEqual_8 (by decide) (fun h => ?_) (fun h => ?_)
  · refine zz_lconst 15 X.1 (v := 0) dL_areEqual_15 (by decide) ?_
    refine lm_lst 16 X hAp hao dL_areEqual_16 ?_
    refine zz_goto 17 24 X.1 dL_areEqual_17 (by decide) ?_
    refine zz_widen (k := 1) (j := 6) (Nat.le_of_ble_eq_true rfl) (Nat.le_of_ble_eq_true rfl) ?_
    refine zz_iconst 24 X.1 (v := nI 0) dL_areEqual_24 rfl ?_
    rw [← hQ]
    refine zz_iret 25 X.1 hr rfl hlk (q, 0) ⟨rfl, (if_pos (i32_z h)).symm, hc⟩ (fun _ h => fun _ => h) dL_areEqual_25
  · refine zz_lconst 11 X.1 (v := 1) dL_areEqual_11 (by decide) ?_
    refine zz_goto 12 16 X.1 dL_areEqual_12 (by decide) ?_
    refine lm_lst 16 X hAp hao dL_areEqual_16 ?_
    refine zz_goto 17 24 X.1 dL_areEqual_17 (by decide) ?_
    refine zz_widen (k := 1) (j := 6) (Nat.le_of_ble_eq_true rfl) (Nat.le_of_ble_eq_true rfl) ?_
    refine zz_iconst 24 X.1 (v := nI 0) dL_areEqual_24 rfl ?_
    rw [← hQ]
    refine zz_iret 25 X.1 hr rfl hlk (q, 1) ⟨rfl, (if_neg (fun z => h (by rw [z]; rfl))).symm, hc⟩ (fun _ h => fun _ => h) dL_areEqual_25

set_option maxHeartbeats 4000000 in
set_option maxRecDepth 100000 in
theorem wL_areEqual_x1 (l : Launch) (D : va_G) (C : Nat → ClassId) (cD : ClassId) (K adK adV : Nat → Nat) (ao : Nat) (hAp : DAp K) (hao : ¬ DAd K ao) (u : CSt) (o : Int64) (x1 : Int32) (x2 : Int32) {u0 : CSt} (hX : CX l yX6_areEqual wsX6_areEqual rx_X6_areEqual D C K 0 [.int x1, .int x2] u.1 u.2.1 u.2.2.1 u.2.2.2 "java/lang/IllegalArgumentException" u0) : LM l yL_areEqual wsL_areEqual rw_areEqual D C cD K adK adV ao (OLn C ao) [.int x1, .int x2] u o (fun r q => r = nI 1 ∧ q.2 = o ∧ q.1 = u0) := by
  refine LM_of (lv := [(0, .ref (K 0)), (1, .int x1), (2, .int x2), (3, .ref ao)]) (cc := cL_areEqual) (maxL := 5) (ret := some .int) (hh := [(0, 17, 20, 19)]) rfl (by decide +kernel) (Nat.le_of_ble_eq_true rfl) rfl ?_
  intro p e s m args below meth c X hKd hAM hAS hNC ht hml hr hlk
  generalize hQ : MQ below _ args s 1 6 _ = Q
  refine zz_aload_n 0 X.1 3 dL_areEqual_0 rfl ?_
  refine zz_iconst 1 X.1 (v := nI 0) dL_areEqual_1 rfl ?_
  refine zz_aload_n 2 X.1 0 dL_areEqual_2 rfl ?_
  refine zz_iload_n 3 X.1 1 dL_areEqual_3 rfl ?_
  refine zz_iload_n 4 X.1 2 dL_areEqual_4 rfl ?_
  refine lm_callX 5 X hAM hml hao rfl (As := [.int x1, .int x2]) hX gL_areEqual_X6_areEqual rfl ⟨rfl, rfl⟩ yd_X6_areEqual ⟨Nat.le_of_ble_eq_true rfl, Nat.le_of_ble_eq_true rfl⟩ rfl rfl (Nat.le_of_ble_eq_true rfl) ⟨Nat.le_of_ble_eq_true rfl, Nat.le_of_ble_eq_true rfl⟩ dL_areEqual_5 [] ⟨0, 17, 20, 19⟩ [] ht (fun z hz => absurd hz List.not_mem_nil) (by decide) (by decide) (name := "java/lang/IllegalArgumentException") (by decide +kernel) (by decide +kernel) (hpc := 20) rfl ?_
  intro q9
  refine zz_astore 20 X.1 (lv' := [(4, .ref q9), (0, .ref (K 0)), (1, .int x1), (2, .int x2), (3, .ref ao)]) dL_areEqual_20 (by decide) rfl ?_
  refine zz_iconst 22 X.1 (v := nI 1) dL_areEqual_22 rfl ?_
  rw [← hQ]
  refine zz_iret 23 X.1 hr rfl hlk (u0, o) ⟨rfl, rfl, rfl⟩ (fun _ h => fun _ => h) dL_areEqual_23

abbrev rw_meet : Room := { frames := 8, cells := 1, slots := 6, locals := 133 }
set_option maxHeartbeats 4000000 in
set_option maxRecDepth 100000 in
theorem wL_meet_ok (l : Launch) (D : va_G) (C : Nat → ClassId) (cD : ClassId) (K adK adV : Nat → Nat) (ao : Nat) (hAp : DAp K) (hao : ¬ DAd K ao) (u : CSt) (o : Int64) (x1 : Int32) (x2 : Int32) {postM : Int32 → CSt → Prop} (hM : CMi l yX6_meet wsX6_meet rm_X6_meet D C K 0 [.int x1, .int x2] u.1 u.2.1 u.2.2.1 u.2.2.2 postM) (rv : Int32) (CU : CSt → Prop) (hp : ∀ r q, postM r q → r = rv ∧ CU q) : LM l yL_meet wsL_meet rw_meet D C cD K adK adV ao (OLn C ao) [.int x1, .int x2] u o (fun r q => r = nI 0 ∧ q.2 = (if rv = 0 then 0 else 1 : Int64) ∧ CU q.1) := by
  refine LM_of (lv := [(0, .ref (K 0)), (1, .int x1), (2, .int x2), (3, .ref ao)]) (cc := cL_meet) (maxL := 5) (ret := some .int) (hh := [(0, 17, 20, 19)]) rfl (by decide +kernel) (Nat.le_of_ble_eq_true rfl) rfl ?_
  intro p e s m args below meth c X hKd hAM hAS hNC ht hml hr hlk
  generalize hQ : MQ below _ args s 1 6 _ = Q
  refine zz_aload_n 0 X.1 3 dL_meet_0 rfl ?_
  refine zz_iconst 1 X.1 (v := nI 0) dL_meet_1 rfl ?_
  refine zz_aload_n 2 X.1 0 dL_meet_2 rfl ?_
  refine zz_iload_n 3 X.1 1 dL_meet_3 rfl ?_
  refine zz_iload_n 4 X.1 2 dL_meet_4 rfl ?_
  refine lm_calli 5 X hml hao rfl (As := [.int x1, .int x2]) hM gL_meet_X6_meet rfl ⟨rfl, rfl⟩ yd_X6_meet ⟨Nat.le_of_ble_eq_true rfl, Nat.le_of_ble_eq_true rfl⟩ rfl rfl (Nat.le_of_ble_eq_true rfl) ⟨Nat.le_of_ble_eq_true rfl, Nat.le_of_ble_eq_true rfl⟩ dL_meet_5 ?_
  intro r q hq
  obtain ⟨he, hc⟩ := hp r q hq
  rw [he]
  refine zz_if_eq 8 15 X.1 rfl dL_meet_8 (by decide) (fun h => ?_) (fun h => ?_)
  · refine zz_lconst 15 X.1 (v := 0) dL_meet_15 (by decide) ?_
    refine lm_lst 16 X hAp hao dL_meet_16 ?_
    refine zz_goto 17 24 X.1 dL_meet_17 (by decide) ?_
    refine zz_widen (k := 1) (j := 6) (Nat.le_of_ble_eq_true rfl) (Nat.le_of_ble_eq_true rfl) ?_
    refine zz_iconst 24 X.1 (v := nI 0) dL_meet_24 rfl ?_
    rw [← hQ]
    refine zz_iret 25 X.1 hr rfl hlk (q, 0) ⟨rfl, (if_pos (i32_z h)).symm, hc⟩ (fun _ h => fun _ => h) dL_meet_25
  · refine zz_lconst 11 X.1 (v := 1) dL_meet_11 (by decide) ?_
    refine zz_goto 12 16 X.1 dL_meet_12 (by decide) ?_
    refine lm_lst 16 X hAp hao dL_meet_16 ?_
    refine zz_goto 17 24 X.1 dL_meet_17 (by decide) ?_
    refine zz_widen (k := 1) (j := 6) (Nat.le_of_ble_eq_true rfl) (Nat.le_of_ble_eq_true rfl) ?_
    refine zz_iconst 24 X.1 (v := nI 0) dL_meet_24 rfl ?_
    rw [← hQ]
    refine zz_iret 25 X.1 hr rfl hlk (q, 1) ⟨rfl, (if_neg (fun z => h (by rw [z]; rfl))).symm, hc⟩ (fun _ h => fun _ => h) dL_meet_25

set_option maxHeartbeats 4000000 in
set_option maxRecDepth 100000 in
theorem wL_meet_x1 (l : Launch) (D : va_G) (C : Nat → ClassId) (cD : ClassId) (K adK adV : Nat → Nat) (ao : Nat) (hAp : DAp K) (hao : ¬ DAd K ao) (u : CSt) (o : Int64) (x1 : Int32) (x2 : Int32) {u0 : CSt} (hX : CX l yX6_meet wsX6_meet rx_X6_meet D C K 0 [.int x1, .int x2] u.1 u.2.1 u.2.2.1 u.2.2.2 "java/lang/IllegalArgumentException" u0) : LM l yL_meet wsL_meet rw_meet D C cD K adK adV ao (OLn C ao) [.int x1, .int x2] u o (fun r q => r = nI 1 ∧ q.2 = o ∧ q.1 = u0) := by
  refine LM_of (lv := [(0, .ref (K 0)), (1, .int x1), (2, .int x2), (3, .ref ao)]) (cc := cL_meet) (maxL := 5) (ret := some .int) (hh := [(0, 17, 20, 19)]) rfl (by decide +kernel) (Nat.le_of_ble_eq_true rfl) rfl ?_
  intro p e s m args below meth c X hKd hAM hAS hNC ht hml hr hlk
  generalize hQ : MQ below _ args s 1 6 _ = Q
  refine zz_aload_n 0 X.1 3 dL_meet_0 rfl ?_
  refine zz_iconst 1 X.1 (v := nI 0) dL_meet_1 rfl ?_
  refine zz_aload_n 2 X.1 0 dL_meet_2 rfl ?_
  refine zz_iload_n 3 X.1 1 dL_meet_3 rfl ?_
  refine zz_iload_n 4 X.1 2 dL_meet_4 rfl ?_
  refine lm_callX 5 X hAM hml hao rfl (As := [.int x1, .int x2]) hX gL_meet_X6_meet rfl ⟨rfl, rfl⟩ yd_X6_meet ⟨Nat.le_of_ble_eq_true rfl, Nat.le_of_ble_eq_true rfl⟩ rfl rfl (Nat.le_of_ble_eq_true rfl) ⟨Nat.le_of_ble_eq_true rfl, Nat.le_of_ble_eq_true rfl⟩ dL_meet_5 [] ⟨0, 17, 20, 19⟩ [] ht (fun z hz => absurd hz List.not_mem_nil) (by decide) (by decide) (name := "java/lang/IllegalArgumentException") (by decide +kernel) (by decide +kernel) (hpc := 20) rfl ?_
  intro q9
  refine zz_astore 20 X.1 (lv' := [(4, .ref q9), (0, .ref (K 0)), (1, .int x1), (2, .int x2), (3, .ref ao)]) dL_meet_20 (by decide) rfl ?_
  refine zz_iconst 22 X.1 (v := nI 1) dL_meet_22 rfl ?_
  rw [← hQ]
  refine zz_iret 23 X.1 hr rfl hlk (u0, o) ⟨rfl, rfl, rfl⟩ (fun _ h => fun _ => h) dL_meet_23

abbrev rw_isWithin : Room := { frames := 8, cells := 1, slots := 6, locals := 133 }
set_option maxHeartbeats 4000000 in
set_option maxRecDepth 100000 in
theorem wL_isWithin_ok (l : Launch) (D : va_G) (C : Nat → ClassId) (cD : ClassId) (K adK adV : Nat → Nat) (ao : Nat) (hAp : DAp K) (hao : ¬ DAd K ao) (u : CSt) (o : Int64) (x1 : Int32) (x2 : Int32) {postM : Int32 → CSt → Prop} (hM : CMi l yX6_isWithin wsX6_isWithin rm_X6_isWithin D C K 0 [.int x1, .int x2] u.1 u.2.1 u.2.2.1 u.2.2.2 postM) (rv : Int32) (CU : CSt → Prop) (hp : ∀ r q, postM r q → r = rv ∧ CU q) : LM l yL_isWithin wsL_isWithin rw_isWithin D C cD K adK adV ao (OLn C ao) [.int x1, .int x2] u o (fun r q => r = nI 0 ∧ q.2 = (if rv = 0 then 0 else 1 : Int64) ∧ CU q.1) := by
  refine LM_of (lv := [(0, .ref (K 0)), (1, .int x1), (2, .int x2), (3, .ref ao)]) (cc := cL_isWithin) (maxL := 5) (ret := some .int) (hh := [(0, 17, 20, 19)]) rfl (by decide +kernel) (Nat.le_of_ble_eq_true rfl) rfl ?_
  intro p e s m args below meth c X hKd hAM hAS hNC ht hml hr hlk
  generalize hQ : MQ below _ args s 1 6 _ = Q
  refine zz_aload_n 0 X.1 3 dL_isWithin_0 rfl ?_
  refine zz_iconst 1 X.1 (v := nI 0) dL_isWithin_1 rfl ?_
  refine zz_aload_n 2 X.1 0 dL_isWithin_2 rfl ?_
  refine zz_iload_n 3 X.1 1 dL_isWithin_3 rfl ?_
  refine zz_iload_n 4 X.1 2 dL_isWithin_4 rfl ?_
  refine lm_calli 5 X hml hao rfl (As := [.int x1, .int x2]) hM gL_isWithin_X6_isWithin rfl ⟨rfl, rfl⟩ yd_X6_isWithin ⟨Nat.le_of_ble_eq_true rfl, Nat.le_of_ble_eq_true rfl⟩ rfl rfl (Nat.le_of_ble_eq_true rfl) ⟨Nat.le_of_ble_eq_true rfl, Nat.le_of_ble_eq_true rfl⟩ dL_isWithin_5 ?_
  intro r q hq
  obtain ⟨he, hc⟩ := hp r q hq
  rw [he]
  refine zz_if_eq 8 15 X.1 rfl dL_isWithin_8 (by decide) (fun h => ?_) (fun h => ?_)
  · refine zz_lconst 15 X.1 (v := 0) dL_isWithin_15 (by decide) ?_
    refine lm_lst 16 X hAp hao dL_isWithin_16 ?_
    refine zz_goto 17 24 X.1 dL_isWithin_17 (by decide) ?_
    refine zz_widen (k := 1) (j := 6) (Nat.le_of_ble_eq_true rfl) (Nat.le_of_ble_eq_true rfl) ?_
    refine zz_iconst 24 X.1 (v := nI 0) dL_isWithin_24 rfl ?_
    rw [← hQ]
    refine zz_iret 25 X.1 hr rfl hlk (q, 0) ⟨rfl, (if_pos (i32_z h)).symm, hc⟩ (fun _ h => fun _ => h) dL_isWithin_25
  · refine zz_lconst 11 X.1 (v := 1) dL_isWithin_11 (by decide) ?_
    refine zz_goto 12 16 X.1 dL_isWithin_12 (by decide) ?_
    refine lm_lst 16 X hAp hao dL_isWithin_16 ?_
    refine zz_goto 17 24 X.1 dL_isWithin_17 (by decide) ?_
    refine zz_widen (k := 1) (j := 6) (Nat.le_of_ble_eq_true rfl) (Nat.le_of_ble_eq_true rfl) ?_
    refine zz_iconst 24 X.1 (v := nI 0) dL_isWithin_24 rfl ?_
    rw [← hQ]
    refine zz_iret 25 X.1 hr rfl hlk (q, 1) ⟨rfl, (if_neg (fun z => h (by rw [z]; rfl))).symm, hc⟩ (fun _ h => fun _ => h) dL_isWithin_25

set_option maxHeartbeats 4000000 in
set_option maxRecDepth 100000 in
theorem wL_isWithin_x1 (l : Launch) (D : va_G) (C : Nat → ClassId) (cD : ClassId) (K adK adV : Nat → Nat) (ao : Nat) (hAp : DAp K) (hao : ¬ DAd K ao) (u : CSt) (o : Int64) (x1 : Int32) (x2 : Int32) {u0 : CSt} (hX : CX l yX6_isWithin wsX6_isWithin rx_X6_isWithin D C K 0 [.int x1, .int x2] u.1 u.2.1 u.2.2.1 u.2.2.2 "java/lang/IllegalArgumentException" u0) : LM l yL_isWithin wsL_isWithin rw_isWithin D C cD K adK adV ao (OLn C ao) [.int x1, .int x2] u o (fun r q => r = nI 1 ∧ q.2 = o ∧ q.1 = u0) := by
  refine LM_of (lv := [(0, .ref (K 0)), (1, .int x1), (2, .int x2), (3, .ref ao)]) (cc := cL_isWithin) (maxL := 5) (ret := some .int) (hh := [(0, 17, 20, 19)]) rfl (by decide +kernel) (Nat.le_of_ble_eq_true rfl) rfl ?_
  intro p e s m args below meth c X hKd hAM hAS hNC ht hml hr hlk
  generalize hQ : MQ below _ args s 1 6 _ = Q
  refine zz_aload_n 0 X.1 3 dL_isWithin_0 rfl ?_
  refine zz_iconst 1 X.1 (v := nI 0) dL_isWithin_1 rfl ?_
  refine zz_aload_n 2 X.1 0 dL_isWithin_2 rfl ?_
  refine zz_iload_n 3 X.1 1 dL_isWithin_3 rfl ?_
  refine zz_iload_n 4 X.1 2 dL_isWithin_4 rfl ?_
  refine lm_callX 5 X hAM hml hao rfl (As := [.int x1, .int x2]) hX gL_isWithin_X6_isWithin rfl ⟨rfl, rfl⟩ yd_X6_isWithin ⟨Nat.le_of_ble_eq_true rfl, Nat.le_of_ble_eq_true rfl⟩ rfl rfl (Nat.le_of_ble_eq_true rfl) ⟨Nat.le_of_ble_eq_true rfl, Nat.le_of_ble_eq_true rfl⟩ dL_isWithin_5 [] ⟨0, 17, 20, 19⟩ [] ht (fun z hz => absurd hz List.not_mem_nil) (by decide) (by decide) (name := "java/lang/IllegalArgumentException") (by decide +kernel) (by decide +kernel) (hpc := 20) rfl ?_
  intro q9
  refine zz_astore 20 X.1 (lv' := [(4, .ref q9), (0, .ref (K 0)), (1, .int x1), (2, .int x2), (3, .ref ao)]) dL_isWithin_20 (by decide) rfl ?_
  refine zz_iconst 22 X.1 (v := nI 1) dL_isWithin_22 rfl ?_
  rw [← hQ]
  refine zz_iret 23 X.1 hr rfl hlk (u0, o) ⟨rfl, rfl, rfl⟩ (fun _ h => fun _ => h) dL_isWithin_23

abbrev rw_unionCount : Room := { frames := 8, cells := 1, slots := 6, locals := 133 }
set_option maxHeartbeats 4000000 in
set_option maxRecDepth 100000 in
theorem wL_unionCount_ok (l : Launch) (D : va_G) (C : Nat → ClassId) (cD : ClassId) (K adK adV : Nat → Nat) (ao : Nat) (hAp : DAp K) (hao : ¬ DAd K ao) (u : CSt) (o : Int64) (x1 : Int32) (x2 : Int32) {postM : Int32 → CSt → Prop} (hM : CMi l yX6_unionCount wsX6_unionCount rm_X6_unionCount D C K 0 [.int x1, .int x2] u.1 u.2.1 u.2.2.1 u.2.2.2 postM) (rv : Int32) (CU : CSt → Prop) (hp : ∀ r q, postM r q → r = rv ∧ CU q) : LM l yL_unionCount wsL_unionCount rw_unionCount D C cD K adK adV ao (OLn C ao) [.int x1, .int x2] u o (fun r q => r = nI 0 ∧ q.2 = rv.toInt64 ∧ CU q.1) := by
  refine LM_of (lv := [(0, .ref (K 0)), (1, .int x1), (2, .int x2), (3, .ref ao)]) (cc := cL_unionCount) (maxL := 5) (ret := some .int) (hh := [(0, 10, 13, 19)]) rfl (by decide +kernel) (Nat.le_of_ble_eq_true rfl) rfl ?_
  intro p e s m args below meth c X hKd hAM hAS hNC ht hml hr hlk
  generalize hQ : MQ below _ args s 1 6 _ = Q
  refine zz_aload_n 0 X.1 3 dL_unionCount_0 rfl ?_
  refine zz_iconst 1 X.1 (v := nI 0) dL_unionCount_1 rfl ?_
  refine zz_aload_n 2 X.1 0 dL_unionCount_2 rfl ?_
  refine zz_iload_n 3 X.1 1 dL_unionCount_3 rfl ?_
  refine zz_iload_n 4 X.1 2 dL_unionCount_4 rfl ?_
  refine lm_calli 5 X hml hao rfl (As := [.int x1, .int x2]) hM gL_unionCount_X6_unionCount rfl ⟨rfl, rfl⟩ yd_X6_unionCount ⟨Nat.le_of_ble_eq_true rfl, Nat.le_of_ble_eq_true rfl⟩ rfl rfl (Nat.le_of_ble_eq_true rfl) ⟨Nat.le_of_ble_eq_true rfl, Nat.le_of_ble_eq_true rfl⟩ dL_unionCount_5 ?_
  intro r q hq
  obtain ⟨he, hc⟩ := hp r q hq
  rw [he]
  refine zz_i2l 8 X.1 dL_unionCount_8 rfl ?_
  refine lm_lst 9 X hAp hao dL_unionCount_9 ?_
  refine zz_goto 10 17 X.1 dL_unionCount_10 (by decide) ?_
  refine zz_widen (k := 1) (j := 6) (Nat.le_of_ble_eq_true rfl) (Nat.le_of_ble_eq_true rfl) ?_
  refine zz_iconst 17 X.1 (v := nI 0) dL_unionCount_17 rfl ?_
  rw [← hQ]
  refine zz_iret 18 X.1 hr rfl hlk (q, rv.toInt64) ⟨rfl, rfl, hc⟩ (fun _ h => fun _ => h) dL_unionCount_18

set_option maxHeartbeats 4000000 in
set_option maxRecDepth 100000 in
theorem wL_unionCount_x1 (l : Launch) (D : va_G) (C : Nat → ClassId) (cD : ClassId) (K adK adV : Nat → Nat) (ao : Nat) (hAp : DAp K) (hao : ¬ DAd K ao) (u : CSt) (o : Int64) (x1 : Int32) (x2 : Int32) {u0 : CSt} (hX : CX l yX6_unionCount wsX6_unionCount rx_X6_unionCount D C K 0 [.int x1, .int x2] u.1 u.2.1 u.2.2.1 u.2.2.2 "java/lang/IllegalArgumentException" u0) : LM l yL_unionCount wsL_unionCount rw_unionCount D C cD K adK adV ao (OLn C ao) [.int x1, .int x2] u o (fun r q => r = nI 1 ∧ q.2 = o ∧ q.1 = u0) := by
  refine LM_of (lv := [(0, .ref (K 0)), (1, .int x1), (2, .int x2), (3, .ref ao)]) (cc := cL_unionCount) (maxL := 5) (ret := some .int) (hh := [(0, 10, 13, 19)]) rfl (by decide +kernel) (Nat.le_of_ble_eq_true rfl) rfl ?_
  intro p e s m args below meth c X hKd hAM hAS hNC ht hml hr hlk
  generalize hQ : MQ below _ args s 1 6 _ = Q
  refine zz_aload_n 0 X.1 3 dL_unionCount_0 rfl ?_
  refine zz_iconst 1 X.1 (v := nI 0) dL_unionCount_1 rfl ?_
  refine zz_aload_n 2 X.1 0 dL_unionCount_2 rfl ?_
  refine zz_iload_n 3 X.1 1 dL_unionCount_3 rfl ?_
  refine zz_iload_n 4 X.1 2 dL_unionCount_4 rfl ?_
  refine lm_callX 5 X hAM hml hao rfl (As := [.int x1, .int x2]) hX gL_unionCount_X6_unionCount rfl ⟨rfl, rfl⟩ yd_X6_unionCount ⟨Nat.le_of_ble_eq_true rfl, Nat.le_of_ble_eq_true rfl⟩ rfl rfl (Nat.le_of_ble_eq_true rfl) ⟨Nat.le_of_ble_eq_true rfl, Nat.le_of_ble_eq_true rfl⟩ dL_unionCount_5 [] ⟨0, 10, 13, 19⟩ [] ht (fun z hz => absurd hz List.not_mem_nil) (by decide) (by decide) (name := "java/lang/IllegalArgumentException") (by decide +kernel) (by decide +kernel) (hpc := 13) rfl ?_
  intro q9
  refine zz_astore 13 X.1 (lv' := [(4, .ref q9), (0, .ref (K 0)), (1, .int x1), (2, .int x2), (3, .ref ao)]) dL_unionCount_13 (by decide) rfl ?_
  refine zz_iconst 15 X.1 (v := nI 1) dL_unionCount_15 rfl ?_
  rw [← hQ]
  refine zz_iret 16 X.1 hr rfl hlk (u0, o) ⟨rfl, rfl, rfl⟩ (fun _ h => fun _ => h) dL_unionCount_16

abbrev rw_distance : Room := { frames := 8, cells := 1, slots := 6, locals := 133 }
set_option maxHeartbeats 4000000 in
set_option maxRecDepth 100000 in
theorem wL_distance_ok (l : Launch) (D : va_G) (C : Nat → ClassId) (cD : ClassId) (K adK adV : Nat → Nat) (ao : Nat) (hAp : DAp K) (hao : ¬ DAd K ao) (u : CSt) (o : Int64) (x1 : Int32) (x2 : Int32) {postM : Int32 → CSt → Prop} (hM : CMi l yX6_distance wsX6_distance rm_X6_distance D C K 0 [.int x1, .int x2] u.1 u.2.1 u.2.2.1 u.2.2.2 postM) (rv : Int32) (CU : CSt → Prop) (hp : ∀ r q, postM r q → r = rv ∧ CU q) : LM l yL_distance wsL_distance rw_distance D C cD K adK adV ao (OLn C ao) [.int x1, .int x2] u o (fun r q => r = nI 0 ∧ q.2 = rv.toInt64 ∧ CU q.1) := by
  refine LM_of (lv := [(0, .ref (K 0)), (1, .int x1), (2, .int x2), (3, .ref ao)]) (cc := cL_distance) (maxL := 5) (ret := some .int) (hh := [(0, 10, 13, 19)]) rfl (by decide +kernel) (Nat.le_of_ble_eq_true rfl) rfl ?_
  intro p e s m args below meth c X hKd hAM hAS hNC ht hml hr hlk
  generalize hQ : MQ below _ args s 1 6 _ = Q
  refine zz_aload_n 0 X.1 3 dL_distance_0 rfl ?_
  refine zz_iconst 1 X.1 (v := nI 0) dL_distance_1 rfl ?_
  refine zz_aload_n 2 X.1 0 dL_distance_2 rfl ?_
  refine zz_iload_n 3 X.1 1 dL_distance_3 rfl ?_
  refine zz_iload_n 4 X.1 2 dL_distance_4 rfl ?_
  refine lm_calli 5 X hml hao rfl (As := [.int x1, .int x2]) hM gL_distance_X6_distance rfl ⟨rfl, rfl⟩ yd_X6_distance ⟨Nat.le_of_ble_eq_true rfl, Nat.le_of_ble_eq_true rfl⟩ rfl rfl (Nat.le_of_ble_eq_true rfl) ⟨Nat.le_of_ble_eq_true rfl, Nat.le_of_ble_eq_true rfl⟩ dL_distance_5 ?_
  intro r q hq
  obtain ⟨he, hc⟩ := hp r q hq
  rw [he]
  refine zz_i2l 8 X.1 dL_distance_8 rfl ?_
  refine lm_lst 9 X hAp hao dL_distance_9 ?_
  refine zz_goto 10 17 X.1 dL_distance_10 (by decide) ?_
  refine zz_widen (k := 1) (j := 6) (Nat.le_of_ble_eq_true rfl) (Nat.le_of_ble_eq_true rfl) ?_
  refine zz_iconst 17 X.1 (v := nI 0) dL_distance_17 rfl ?_
  rw [← hQ]
  refine zz_iret 18 X.1 hr rfl hlk (q, rv.toInt64) ⟨rfl, rfl, hc⟩ (fun _ h => fun _ => h) dL_distance_18

set_option maxHeartbeats 4000000 in
set_option maxRecDepth 100000 in
theorem wL_distance_x1 (l : Launch) (D : va_G) (C : Nat → ClassId) (cD : ClassId) (K adK adV : Nat → Nat) (ao : Nat) (hAp : DAp K) (hao : ¬ DAd K ao) (u : CSt) (o : Int64) (x1 : Int32) (x2 : Int32) {u0 : CSt} (hX : CX l yX6_distance wsX6_distance rx_X6_distance D C K 0 [.int x1, .int x2] u.1 u.2.1 u.2.2.1 u.2.2.2 "java/lang/IllegalArgumentException" u0) : LM l yL_distance wsL_distance rw_distance D C cD K adK adV ao (OLn C ao) [.int x1, .int x2] u o (fun r q => r = nI 1 ∧ q.2 = o ∧ q.1 = u0) := by
  refine LM_of (lv := [(0, .ref (K 0)), (1, .int x1), (2, .int x2), (3, .ref ao)]) (cc := cL_distance) (maxL := 5) (ret := some .int) (hh := [(0, 10, 13, 19)]) rfl (by decide +kernel) (Nat.le_of_ble_eq_true rfl) rfl ?_
  intro p e s m args below meth c X hKd hAM hAS hNC ht hml hr hlk
  generalize hQ : MQ below _ args s 1 6 _ = Q
  refine zz_aload_n 0 X.1 3 dL_distance_0 rfl ?_
  refine zz_iconst 1 X.1 (v := nI 0) dL_distance_1 rfl ?_
  refine zz_aload_n 2 X.1 0 dL_distance_2 rfl ?_
  refine zz_iload_n 3 X.1 1 dL_distance_3 rfl ?_
  refine zz_iload_n 4 X.1 2 dL_distance_4 rfl ?_
  refine lm_callX 5 X hAM hml hao rfl (As := [.int x1, .int x2]) hX gL_distance_X6_distance rfl ⟨rfl, rfl⟩ yd_X6_distance ⟨Nat.le_of_ble_eq_true rfl, Nat.le_of_ble_eq_true rfl⟩ rfl rfl (Nat.le_of_ble_eq_true rfl) ⟨Nat.le_of_ble_eq_true rfl, Nat.le_of_ble_eq_true rfl⟩ dL_distance_5 [] ⟨0, 10, 13, 19⟩ [] ht (fun z hz => absurd hz List.not_mem_nil) (by decide) (by decide) (name := "java/lang/IllegalArgumentException") (by decide +kernel) (by decide +kernel) (hpc := 13) rfl ?_
  intro q9
  refine zz_astore 13 X.1 (lv' := [(4, .ref q9), (0, .ref (K 0)), (1, .int x1), (2, .int x2), (3, .ref ao)]) dL_distance_13 (by decide) rfl ?_
  refine zz_iconst 15 X.1 (v := nI 1) dL_distance_15 rfl ?_
  rw [← hQ]
  refine zz_iret 16 X.1 hr rfl hlk (u0, o) ⟨rfl, rfl, rfl⟩ (fun _ h => fun _ => h) dL_distance_16

abbrev rw_firstCommon : Room := { frames := 8, cells := 1, slots := 6, locals := 133 }
set_option maxHeartbeats 4000000 in
set_option maxRecDepth 100000 in
theorem wL_firstCommon_ok (l : Launch) (D : va_G) (C : Nat → ClassId) (cD : ClassId) (K adK adV : Nat → Nat) (ao : Nat) (hAp : DAp K) (hao : ¬ DAd K ao) (u : CSt) (o : Int64) (x1 : Int32) (x2 : Int32) {postM : Int32 → CSt → Prop} (hM : CMi l yX6_firstCommon wsX6_firstCommon rm_X6_firstCommon D C K 0 [.int x1, .int x2] u.1 u.2.1 u.2.2.1 u.2.2.2 postM) (rv : Int32) (CU : CSt → Prop) (hp : ∀ r q, postM r q → r = rv ∧ CU q) : LM l yL_firstCommon wsL_firstCommon rw_firstCommon D C cD K adK adV ao (OLn C ao) [.int x1, .int x2] u o (fun r q => r = nI 0 ∧ q.2 = rv.toInt64 ∧ CU q.1) := by
  refine LM_of (lv := [(0, .ref (K 0)), (1, .int x1), (2, .int x2), (3, .ref ao)]) (cc := cL_firstCommon) (maxL := 5) (ret := some .int) (hh := [(0, 10, 13, 19)]) rfl (by decide +kernel) (Nat.le_of_ble_eq_true rfl) rfl ?_
  intro p e s m args below meth c X hKd hAM hAS hNC ht hml hr hlk
  generalize hQ : MQ below _ args s 1 6 _ = Q
  refine zz_aload_n 0 X.1 3 dL_firstCommon_0 rfl ?_
  refine zz_iconst 1 X.1 (v := nI 0) dL_firstCommon_1 rfl ?_
  refine zz_aload_n 2 X.1 0 dL_firstCommon_2 rfl ?_
  refine zz_iload_n 3 X.1 1 dL_firstCommon_3 rfl ?_
  refine zz_iload_n 4 X.1 2 dL_firstCommon_4 rfl ?_
  refine lm_calli 5 X hml hao rfl (As := [.int x1, .int x2]) hM gL_firstCommon_X6_firstCommon rfl ⟨rfl, rfl⟩ yd_X6_firstCommon ⟨Nat.le_of_ble_eq_true rfl, Nat.le_of_ble_eq_true rfl⟩ rfl rfl (Nat.le_of_ble_eq_true rfl) ⟨Nat.le_of_ble_eq_true rfl, Nat.le_of_ble_eq_true rfl⟩ dL_firstCommon_5 ?_
  intro r q hq
  obtain ⟨he, hc⟩ := hp r q hq
  rw [he]
  refine zz_i2l 8 X.1 dL_firstCommon_8 rfl ?_
  refine lm_lst 9 X hAp hao dL_firstCommon_9 ?_
  refine zz_goto 10 17 X.1 dL_firstCommon_10 (by decide) ?_
  refine zz_widen (k := 1) (j := 6) (Nat.le_of_ble_eq_true rfl) (Nat.le_of_ble_eq_true rfl) ?_
  refine zz_iconst 17 X.1 (v := nI 0) dL_firstCommon_17 rfl ?_
  rw [← hQ]
  refine zz_iret 18 X.1 hr rfl hlk (q, rv.toInt64) ⟨rfl, rfl, hc⟩ (fun _ h => fun _ => h) dL_firstCommon_18

set_option maxHeartbeats 4000000 in
set_option maxRecDepth 100000 in
theorem wL_firstCommon_x1 (l : Launch) (D : va_G) (C : Nat → ClassId) (cD : ClassId) (K adK adV : Nat → Nat) (ao : Nat) (hAp : DAp K) (hao : ¬ DAd K ao) (u : CSt) (o : Int64) (x1 : Int32) (x2 : Int32) {u0 : CSt} (hX : CX l yX6_firstCommon wsX6_firstCommon rx_X6_firstCommon D C K 0 [.int x1, .int x2] u.1 u.2.1 u.2.2.1 u.2.2.2 "java/lang/IllegalArgumentException" u0) : LM l yL_firstCommon wsL_firstCommon rw_firstCommon D C cD K adK adV ao (OLn C ao) [.int x1, .int x2] u o (fun r q => r = nI 1 ∧ q.2 = o ∧ q.1 = u0) := by
  refine LM_of (lv := [(0, .ref (K 0)), (1, .int x1), (2, .int x2), (3, .ref ao)]) (cc := cL_firstCommon) (maxL := 5) (ret := some .int) (hh := [(0, 10, 13, 19)]) rfl (by decide +kernel) (Nat.le_of_ble_eq_true rfl) rfl ?_
  intro p e s m args below meth c X hKd hAM hAS hNC ht hml hr hlk
  generalize hQ : MQ below _ args s 1 6 _ = Q
  refine zz_aload_n 0 X.1 3 dL_firstCommon_0 rfl ?_
  refine zz_iconst 1 X.1 (v := nI 0) dL_firstCommon_1 rfl ?_
  refine zz_aload_n 2 X.1 0 dL_firstCommon_2 rfl ?_
  refine zz_iload_n 3 X.1 1 dL_firstCommon_3 rfl ?_
  refine zz_iload_n 4 X.1 2 dL_firstCommon_4 rfl ?_
  refine lm_callX 5 X hAM hml hao rfl (As := [.int x1, .int x2]) hX gL_firstCommon_X6_firstCommon rfl ⟨rfl, rfl⟩ yd_X6_firstCommon ⟨Nat.le_of_ble_eq_true rfl, Nat.le_of_ble_eq_true rfl⟩ rfl rfl (Nat.le_of_ble_eq_true rfl) ⟨Nat.le_of_ble_eq_true rfl, Nat.le_of_ble_eq_true rfl⟩ dL_firstCommon_5 [] ⟨0, 10, 13, 19⟩ [] ht (fun z hz => absurd hz List.not_mem_nil) (by decide) (by decide) (name := "java/lang/IllegalArgumentException") (by decide +kernel) (by decide +kernel) (hpc := 13) rfl ?_
  intro q9
  refine zz_astore 13 X.1 (lv' := [(4, .ref q9), (0, .ref (K 0)), (1, .int x1), (2, .int x2), (3, .ref ao)]) dL_firstCommon_13 (by decide) rfl ?_
  refine zz_iconst 15 X.1 (v := nI 1) dL_firstCommon_15 rfl ?_
  rw [← hQ]
  refine zz_iret 16 X.1 hr rfl hlk (u0, o) ⟨rfl, rfl, rfl⟩ (fun _ h => fun _ => h) dL_firstCommon_16

abbrev rw_write : Room := { frames := 8, cells := 1, slots := 6, locals := 134 }
set_option maxHeartbeats 4000000 in
set_option maxRecDepth 100000 in
theorem wL_write_ok (l : Launch) (D : va_G) (C : Nat → ClassId) (cD : ClassId) (K adK adV : Nat → Nat) (ao : Nat) (hAp : DAp K) (hao : ¬ DAd K ao) (u : CSt) (o : Int64) (x1 : Int32) {postM : Int32 → CSt → Prop} (hM : CMi l yX6_write wsX6_write rm_X6_write D C K 0 [.int x1] u.1 u.2.1 u.2.2.1 u.2.2.2 postM) (rv : Int32) (CU : CSt → Prop) (hp : ∀ r q, postM r q → r = rv ∧ CU q) : LM l yL_write wsL_write rw_write D C cD K adK adV ao (OLn C ao) [.int x1] u o (fun r q => r = nI 0 ∧ q.2 = rv.toInt64 ∧ CU q.1) := by
  refine LM_of (lv := [(0, .ref (K 0)), (1, .int x1), (2, .ref ao)]) (cc := cL_write) (maxL := 4) (ret := some .int) (hh := [(0, 9, 12, 19)]) rfl (by decide +kernel) (Nat.le_of_ble_eq_true rfl) rfl ?_
  intro p e s m args below meth c X hKd hAM hAS hNC ht hml hr hlk
  generalize hQ : MQ below _ args s 1 6 _ = Q
  refine zz_aload_n 0 X.1 2 dL_write_0 rfl ?_
  refine zz_iconst 1 X.1 (v := nI 0) dL_write_1 rfl ?_
  refine zz_aload_n 2 X.1 0 dL_write_2 rfl ?_
  refine zz_iload_n 3 X.1 1 dL_write_3 rfl ?_
  refine lm_calli 4 X hml hao rfl (As := [.int x1]) hM gL_write_X6_write rfl ⟨rfl, rfl⟩ yd_X6_write ⟨Nat.le_of_ble_eq_true rfl, Nat.le_of_ble_eq_true rfl⟩ rfl rfl (Nat.le_of_ble_eq_true rfl) ⟨Nat.le_of_ble_eq_true rfl, Nat.le_of_ble_eq_true rfl⟩ dL_write_4 ?_
  intro r q hq
  obtain ⟨he, hc⟩ := hp r q hq
  rw [he]
  refine zz_i2l 7 X.1 dL_write_7 rfl ?_
  refine lm_lst 8 X hAp hao dL_write_8 ?_
  refine zz_goto 9 15 X.1 dL_write_9 (by decide) ?_
  refine zz_widen (k := 1) (j := 6) (Nat.le_of_ble_eq_true rfl) (Nat.le_of_ble_eq_true rfl) ?_
  refine zz_iconst 15 X.1 (v := nI 0) dL_write_15 rfl ?_
  rw [← hQ]
  refine zz_iret 16 X.1 hr rfl hlk (q, rv.toInt64) ⟨rfl, rfl, hc⟩ (fun _ h => fun _ => h) dL_write_16

set_option maxHeartbeats 4000000 in
set_option maxRecDepth 100000 in
theorem wL_write_x1 (l : Launch) (D : va_G) (C : Nat → ClassId) (cD : ClassId) (K adK adV : Nat → Nat) (ao : Nat) (hAp : DAp K) (hao : ¬ DAd K ao) (u : CSt) (o : Int64) (x1 : Int32) {u0 : CSt} (hX : CX l yX6_write wsX6_write rx_X6_write D C K 0 [.int x1] u.1 u.2.1 u.2.2.1 u.2.2.2 "java/lang/IllegalArgumentException" u0) : LM l yL_write wsL_write rw_write D C cD K adK adV ao (OLn C ao) [.int x1] u o (fun r q => r = nI 1 ∧ q.2 = o ∧ q.1 = u0) := by
  refine LM_of (lv := [(0, .ref (K 0)), (1, .int x1), (2, .ref ao)]) (cc := cL_write) (maxL := 4) (ret := some .int) (hh := [(0, 9, 12, 19)]) rfl (by decide +kernel) (Nat.le_of_ble_eq_true rfl) rfl ?_
  intro p e s m args below meth c X hKd hAM hAS hNC ht hml hr hlk
  generalize hQ : MQ below _ args s 1 6 _ = Q
  refine zz_aload_n 0 X.1 2 dL_write_0 rfl ?_
  refine zz_iconst 1 X.1 (v := nI 0) dL_write_1 rfl ?_
  refine zz_aload_n 2 X.1 0 dL_write_2 rfl ?_
  refine zz_iload_n 3 X.1 1 dL_write_3 rfl ?_
  refine lm_callX 4 X hAM hml hao rfl (As := [.int x1]) hX gL_write_X6_write rfl ⟨rfl, rfl⟩ yd_X6_write ⟨Nat.le_of_ble_eq_true rfl, Nat.le_of_ble_eq_true rfl⟩ rfl rfl (Nat.le_of_ble_eq_true rfl) ⟨Nat.le_of_ble_eq_true rfl, Nat.le_of_ble_eq_true rfl⟩ dL_write_4 [] ⟨0, 9, 12, 19⟩ [] ht (fun z hz => absurd hz List.not_mem_nil) (by decide) (by decide) (name := "java/lang/IllegalArgumentException") (by decide +kernel) (by decide +kernel) (hpc := 12) rfl ?_
  intro q9
  refine zz_astore_n 12 X.1 (lv' := [(3, .ref q9), (0, .ref (K 0)), (1, .int x1), (2, .ref ao)]) dL_write_12 (by decide) rfl ?_
  refine zz_iconst 13 X.1 (v := nI 1) dL_write_13 rfl ?_
  rw [← hQ]
  refine zz_iret 14 X.1 hr rfl hlk (u0, o) ⟨rfl, rfl, rfl⟩ (fun _ h => fun _ => h) dL_write_14

abbrev rw_writtenAt : Room := { frames := 8, cells := 1, slots := 6, locals := 132 }
set_option maxHeartbeats 4000000 in
set_option maxRecDepth 100000 in
theorem wL_writtenAt_ok (l : Launch) (D : va_G) (C : Nat → ClassId) (cD : ClassId) (K adK adV : Nat → Nat) (ao : Nat) (hAp : DAp K) (hao : ¬ DAd K ao) (u : CSt) (o : Int64) (x1 : Int32) {postM : Int32 → CSt → Prop} (hM : CMi l yX6_writtenAt wsX6_writtenAt rm_X6_writtenAt D C K 0 [.int x1] u.1 u.2.1 u.2.2.1 u.2.2.2 postM) (rv : Int32) (CU : CSt → Prop) (hp : ∀ r q, postM r q → r = rv ∧ CU q) : LM l yL_writtenAt wsL_writtenAt rw_writtenAt D C cD K adK adV ao (OLn C ao) [.int x1] u o (fun r q => r = nI 0 ∧ q.2 = rv.toInt64 ∧ CU q.1) := by
  refine LM_of (lv := [(0, .ref (K 0)), (1, .int x1), (2, .ref ao)]) (cc := cL_writtenAt) (maxL := 4) (ret := some .int) (hh := [(0, 9, 12, 25)]) rfl (by decide +kernel) (Nat.le_of_ble_eq_true rfl) rfl ?_
  intro p e s m args below meth c X hKd hAM hAS hNC ht hml hr hlk
  generalize hQ : MQ below _ args s 1 6 _ = Q
  refine zz_aload_n 0 X.1 2 dL_writtenAt_0 rfl ?_
  refine zz_iconst 1 X.1 (v := nI 0) dL_writtenAt_1 rfl ?_
  refine zz_aload_n 2 X.1 0 dL_writtenAt_2 rfl ?_
  refine zz_iload_n 3 X.1 1 dL_writtenAt_3 rfl ?_
  refine lm_calli 4 X hml hao rfl (As := [.int x1]) hM gL_writtenAt_X6_writtenAt rfl ⟨rfl, rfl⟩ yd_X6_writtenAt ⟨Nat.le_of_ble_eq_true rfl, Nat.le_of_ble_eq_true rfl⟩ rfl rfl (Nat.le_of_ble_eq_true rfl) ⟨Nat.le_of_ble_eq_true rfl, Nat.le_of_ble_eq_true rfl⟩ dL_writtenAt_4 ?_
  intro r q hq
  obtain ⟨he, hc⟩ := hp r q hq
  rw [he]
  refine zz_i2l 7 X.1 dL_writtenAt_7 rfl ?_
  refine lm_lst 8 X hAp hao dL_writtenAt_8 ?_
  refine zz_goto 9 15 X.1 dL_writtenAt_9 (by decide) ?_
  refine zz_widen (k := 1) (j := 6) (Nat.le_of_ble_eq_true rfl) (Nat.le_of_ble_eq_true rfl) ?_
  refine zz_iconst 15 X.1 (v := nI 0) dL_writtenAt_15 rfl ?_
  rw [← hQ]
  refine zz_iret 16 X.1 hr rfl hlk (q, rv.toInt64) ⟨rfl, rfl, hc⟩ (fun _ h => fun _ => h) dL_writtenAt_16

set_option maxHeartbeats 4000000 in
set_option maxRecDepth 100000 in
theorem wL_writtenAt_x1 (l : Launch) (D : va_G) (C : Nat → ClassId) (cD : ClassId) (K adK adV : Nat → Nat) (ao : Nat) (hAp : DAp K) (hao : ¬ DAd K ao) (u : CSt) (o : Int64) (x1 : Int32) {u0 : CSt} (hX : CX l yX6_writtenAt wsX6_writtenAt rx_X6_writtenAt D C K 0 [.int x1] u.1 u.2.1 u.2.2.1 u.2.2.2 "java/lang/IndexOutOfBoundsException" u0) : LM l yL_writtenAt wsL_writtenAt rw_writtenAt D C cD K adK adV ao (OLn C ao) [.int x1] u o (fun r q => r = nI 1 ∧ q.2 = o ∧ q.1 = u0) := by
  refine LM_of (lv := [(0, .ref (K 0)), (1, .int x1), (2, .ref ao)]) (cc := cL_writtenAt) (maxL := 4) (ret := some .int) (hh := [(0, 9, 12, 25)]) rfl (by decide +kernel) (Nat.le_of_ble_eq_true rfl) rfl ?_
  intro p e s m args below meth c X hKd hAM hAS hNC ht hml hr hlk
  generalize hQ : MQ below _ args s 1 6 _ = Q
  refine zz_aload_n 0 X.1 2 dL_writtenAt_0 rfl ?_
  refine zz_iconst 1 X.1 (v := nI 0) dL_writtenAt_1 rfl ?_
  refine zz_aload_n 2 X.1 0 dL_writtenAt_2 rfl ?_
  refine zz_iload_n 3 X.1 1 dL_writtenAt_3 rfl ?_
  refine lm_callX 4 X hAM hml hao rfl (As := [.int x1]) hX gL_writtenAt_X6_writtenAt rfl ⟨rfl, rfl⟩ yd_X6_writtenAt ⟨Nat.le_of_ble_eq_true rfl, Nat.le_of_ble_eq_true rfl⟩ rfl rfl (Nat.le_of_ble_eq_true rfl) ⟨Nat.le_of_ble_eq_true rfl, Nat.le_of_ble_eq_true rfl⟩ dL_writtenAt_4 [] ⟨0, 9, 12, 25⟩ [] ht (fun z hz => absurd hz List.not_mem_nil) (by decide) (by decide) (name := "java/lang/IndexOutOfBoundsException") (by decide +kernel) (by decide +kernel) (hpc := 12) rfl ?_
  intro q9
  refine zz_astore_n 12 X.1 (lv' := [(3, .ref q9), (0, .ref (K 0)), (1, .int x1), (2, .ref ao)]) dL_writtenAt_12 (by decide) rfl ?_
  refine zz_iconst 13 X.1 (v := nI 1) dL_writtenAt_13 rfl ?_
  rw [← hQ]
  refine zz_iret 14 X.1 hr rfl hlk (u0, o) ⟨rfl, rfl, rfl⟩ (fun _ h => fun _ => h) dL_writtenAt_14

abbrev rw_share : Room := { frames := 8, cells := 1, slots := 6, locals := 135 }
set_option maxHeartbeats 4000000 in
set_option maxRecDepth 100000 in
theorem wL_share_ok (l : Launch) (D : va_G) (C : Nat → ClassId) (cD : ClassId) (K adK adV : Nat → Nat) (ao : Nat) (hAp : DAp K) (hao : ¬ DAd K ao) (u : CSt) (o : UInt64) (x1 : Int32) (x2 : Int32) {postM : UInt32 → CSt → Prop} (hM : CMf l yX6_share wsX6_share rm_X6_share D C K 0 [.int x1, .int x2] u.1 u.2.1 u.2.2.1 u.2.2.2 postM) (rv : UInt32) (CU : CSt → Prop) (hp : ∀ r q, postM r q → r = rv ∧ CU q) (hne : vf_n64 (FP.f2d rv)) : LM l yL_share wsL_share rw_share D C cD K adK adV ao (ODn cD ao) [.int x1, .int x2] u o (fun r q => r = nI 0 ∧ q.2 = FP.f2d rv ∧ CU q.1) := by
  refine LM_of (lv := [(0, .ref (K 0)), (1, .int x1), (2, .int x2), (3, .ref ao)]) (cc := cL_share) (maxL := 5) (ret := some .int) (hh := [(0, 10, 13, 19)]) rfl (by decide +kernel) (Nat.le_of_ble_eq_true rfl) rfl ?_
  intro p e s m args below meth c X hKd hAM hAS hNC ht hml hr hlk
  generalize hQ : MQ below _ args s 1 6 _ = Q
  refine zz_aload_n 0 X.1 3 dL_share_0 rfl ?_
  refine zz_iconst 1 X.1 (v := nI 0) dL_share_1 rfl ?_
  refine zz_aload_n 2 X.1 0 dL_share_2 rfl ?_
  refine zz_iload_n 3 X.1 1 dL_share_3 rfl ?_
  refine zz_iload_n 4 X.1 2 dL_share_4 rfl ?_
  refine lm_callf 5 X hml hao rfl (As := [.int x1, .int x2]) hM gL_share_X6_share rfl ⟨rfl, rfl⟩ yd_X6_share ⟨Nat.le_of_ble_eq_true rfl, Nat.le_of_ble_eq_true rfl⟩ rfl rfl (Nat.le_of_ble_eq_true rfl) ⟨Nat.le_of_ble_eq_true rfl, Nat.le_of_ble_eq_true rfl⟩ dL_share_5 ?_
  intro r q hq
  obtain ⟨he, hc⟩ := hp r q hq
  rw [he]
  refine zf_f2d 8 X.1 hne dL_share_8 ?_
  refine lm_dst 9 X hKd hAp hao dL_share_9 ?_
  refine zz_goto 10 17 X.1 dL_share_10 (by decide) ?_
  refine zz_widen (k := 1) (j := 6) (Nat.le_of_ble_eq_true rfl) (Nat.le_of_ble_eq_true rfl) ?_
  refine zz_iconst 17 X.1 (v := nI 0) dL_share_17 rfl ?_
  rw [← hQ]
  refine zz_iret 18 X.1 hr rfl hlk (q, FP.f2d rv) ⟨rfl, rfl, hc⟩ (fun _ h => fun _ => h) dL_share_18

set_option maxHeartbeats 4000000 in
set_option maxRecDepth 100000 in
theorem wL_share_x1 (l : Launch) (D : va_G) (C : Nat → ClassId) (cD : ClassId) (K adK adV : Nat → Nat) (ao : Nat) (hAp : DAp K) (hao : ¬ DAd K ao) (u : CSt) (o : UInt64) (x1 : Int32) (x2 : Int32) {u0 : CSt} (hX : CX l yX6_share wsX6_share rx_X6_share D C K 0 [.int x1, .int x2] u.1 u.2.1 u.2.2.1 u.2.2.2 "java/lang/IllegalArgumentException" u0) : LM l yL_share wsL_share rw_share D C cD K adK adV ao (ODn cD ao) [.int x1, .int x2] u o (fun r q => r = nI 1 ∧ q.2 = o ∧ q.1 = u0) := by
  refine LM_of (lv := [(0, .ref (K 0)), (1, .int x1), (2, .int x2), (3, .ref ao)]) (cc := cL_share) (maxL := 5) (ret := some .int) (hh := [(0, 10, 13, 19)]) rfl (by decide +kernel) (Nat.le_of_ble_eq_true rfl) rfl ?_
  intro p e s m args below meth c X hKd hAM hAS hNC ht hml hr hlk
  generalize hQ : MQ below _ args s 1 6 _ = Q
  refine zz_aload_n 0 X.1 3 dL_share_0 rfl ?_
  refine zz_iconst 1 X.1 (v := nI 0) dL_share_1 rfl ?_
  refine zz_aload_n 2 X.1 0 dL_share_2 rfl ?_
  refine zz_iload_n 3 X.1 1 dL_share_3 rfl ?_
  refine zz_iload_n 4 X.1 2 dL_share_4 rfl ?_
  refine lm_callX 5 X hAM hml hao rfl (As := [.int x1, .int x2]) hX gL_share_X6_share rfl ⟨rfl, rfl⟩ yd_X6_share ⟨Nat.le_of_ble_eq_true rfl, Nat.le_of_ble_eq_true rfl⟩ rfl rfl (Nat.le_of_ble_eq_true rfl) ⟨Nat.le_of_ble_eq_true rfl, Nat.le_of_ble_eq_true rfl⟩ dL_share_5 [] ⟨0, 10, 13, 19⟩ [] ht (fun z hz => absurd hz List.not_mem_nil) (by decide) (by decide) (name := "java/lang/IllegalArgumentException") (by decide +kernel) (by decide +kernel) (hpc := 13) rfl ?_
  intro q9
  refine zz_astore 13 X.1 (lv' := [(4, .ref q9), (0, .ref (K 0)), (1, .int x1), (2, .int x2), (3, .ref ao)]) dL_share_13 (by decide) rfl ?_
  refine zz_iconst 15 X.1 (v := nI 1) dL_share_15 rfl ?_
  rw [← hQ]
  refine zz_iret 16 X.1 hr rfl hlk (u0, o) ⟨rfl, rfl, rfl⟩ (fun _ h => fun _ => h) dL_share_16
