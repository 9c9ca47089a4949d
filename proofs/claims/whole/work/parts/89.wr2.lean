abbrev rw_shift : Room := { frames := 8, cells := 1, slots := 6, locals := 135 }
set_option maxHeartbeats 4000000 in
set_option maxRecDepth 100000 in
theorem wL_shift_ok (l : Launch) (D : va_G) (C : Nat → ClassId) (cD : ClassId) (K adK adV : Nat → Nat) (ao : Nat) (hAp : DAp K) (hao : ¬ DAd K ao) (u : CSt) (o : Int64) (x1 : Int32) (x2 : Int32) {postM : Int32 → CSt → Prop} (hM : CMi l yX6_shift wsX6_shift rm_X6_shift D C K 0 [.int x1, .int x2] u.1 u.2.1 u.2.2.1 u.2.2.2 postM) (rv : Int32) (CU : CSt → Prop) (hp : ∀ r q, postM r q → r = rv ∧ CU q) : LM l yL_shift wsL_shift rw_shift D C cD K adK adV ao (OLn C ao) [.int x1, .int x2] u o (fun r q => r = nI 0 ∧ q.2 = rv.toInt64 ∧ CU q.1) := by
  refine LM_of (lv := [(0, .ref (K 0)), (1, .int x1), (2, .int x2), (3, .ref ao)]) (cc := cL_shift) (maxL := 5) (ret := some .int) (hh := [(0, 10, 13, 19)]) rfl (by decide +kernel) (Nat.le_of_ble_eq_true rfl) rfl ?_
  intro p e s m args below meth c X hKd hAM hAS hNC ht hml hr hlk
  generalize hQ : MQ below _ args s 1 6 _ = Q
  refine zz_aload_n 0 X.1 3 dL_shift_0 rfl ?_
  refine zz_iconst 1 X.1 (v := nI 0) dL_shift_1 rfl ?_
  refine zz_aload_n 2 X.1 0 dL_shift_2 rfl ?_
  refine zz_iload_n 3 X.1 1 dL_shift_3 rfl ?_
  refine zz_iload_n 4 X.1 2 dL_shift_4 rfl ?_
  refine lm_calli 5 X hml hao rfl (As := [.int x1, .int x2]) hM gL_shift_X6_shift rfl ⟨rfl, rfl⟩ yd_X6_shift ⟨Nat.le_of_ble_eq_true rfl, Nat.le_of_ble_eq_true rfl⟩ rfl rfl (Nat.le_of_ble_eq_true rfl) ⟨Nat.le_of_ble_eq_true rfl, Nat.le_of_ble_eq_true rfl⟩ dL_shift_5 ?_
  intro r q hq
  obtain ⟨he, hc⟩ := hp r q hq
  rw [he]
  refine zz_i2l 8 X.1 dL_shift_8 rfl ?_
  refine lm_lst 9 X hAp hao dL_shift_9 ?_
  refine zz_goto 10 17 X.1 dL_shift_10 (by decide) ?_
  refine zz_widen (k := 1) (j := 6) (Nat.le_of_ble_eq_true rfl) (Nat.le_of_ble_eq_true rfl) ?_
  refine zz_iconst 17 X.1 (v := nI 0) dL_shift_17 rfl ?_
  rw [← hQ]
  refine zz_iret 18 X.1 hr rfl hlk (q, rv.toInt64) ⟨rfl, rfl, hc⟩ (fun _ h => fun _ => h) dL_shift_18

set_option maxHeartbeats 4000000 in
set_option maxRecDepth 100000 in
theorem wL_shift_x1 (l : Launch) (D : va_G) (C : Nat → ClassId) (cD : ClassId) (K adK adV : Nat → Nat) (ao : Nat) (hAp : DAp K) (hao : ¬ DAd K ao) (u : CSt) (o : Int64) (x1 : Int32) (x2 : Int32) {u0 : CSt} (hX : CX l yX6_shift wsX6_shift rx_X6_shift D C K 0 [.int x1, .int x2] u.1 u.2.1 u.2.2.1 u.2.2.2 "java/lang/IllegalArgumentException" u0) : LM l yL_shift wsL_shift rw_shift D C cD K adK adV ao (OLn C ao) [.int x1, .int x2] u o (fun r q => r = nI 1 ∧ q.2 = o ∧ q.1 = u0) := by
  refine LM_of (lv := [(0, .ref (K 0)), (1, .int x1), (2, .int x2), (3, .ref ao)]) (cc := cL_shift) (maxL := 5) (ret := some .int) (hh := [(0, 10, 13, 19)]) rfl (by decide +kernel) (Nat.le_of_ble_eq_true rfl) rfl ?_
  intro p e s m args below meth c X hKd hAM hAS hNC ht hml hr hlk
  generalize hQ : MQ below _ args s 1 6 _ = Q
  refine zz_aload_n 0 X.1 3 dL_shift_0 rfl ?_
  refine zz_iconst 1 X.1 (v := nI 0) dL_shift_1 rfl ?_
  refine zz_aload_n 2 X.1 0 dL_shift_2 rfl ?_
  refine zz_iload_n 3 X.1 1 dL_shift_3 rfl ?_
  refine zz_iload_n 4 X.1 2 dL_shift_4 rfl ?_
  refine lm_callX 5 X hAM hml hao rfl (As := [.int x1, .int x2]) hX gL_shift_X6_shift rfl ⟨rfl, rfl⟩ yd_X6_shift ⟨Nat.le_of_ble_eq_true rfl, Nat.le_of_ble_eq_true rfl⟩ rfl rfl (Nat.le_of_ble_eq_true rfl) ⟨Nat.le_of_ble_eq_true rfl, Nat.le_of_ble_eq_true rfl⟩ dL_shift_5 [] ⟨0, 10, 13, 19⟩ [] ht (fun z hz => absurd hz List.not_mem_nil) (by decide) (by decide) (name := "java/lang/IllegalArgumentException") (by decide +kernel) (by decide +kernel) (hpc := 13) rfl ?_
  intro q9
  refine zz_astore 13 X.1 (lv' := [(4, .ref q9), (0, .ref (K 0)), (1, .int x1), (2, .int x2), (3, .ref ao)]) dL_shift_13 (by decide) rfl ?_
  refine zz_iconst 15 X.1 (v := nI 1) dL_shift_15 rfl ?_
  rw [← hQ]
  refine zz_iret 16 X.1 hr rfl hlk (u0, o) ⟨rfl, rfl, rfl⟩ (fun _ h => fun _ => h) dL_shift_16

abbrev rw_sieve : Room := { frames := 8, cells := 1, slots := 6, locals := 135 }
set_option maxHeartbeats 4000000 in
set_option maxRecDepth 100000 in
theorem wL_sieve_ok (l : Launch) (D : va_G) (C : Nat → ClassId) (cD : ClassId) (K adK adV : Nat → Nat) (ao : Nat) (hAp : DAp K) (hao : ¬ DAd K ao) (u : CSt) (o : Int64) (x1 : Int32) (x2 : Int32) {postM : Int32 → CSt → Prop} (hM : CMi l yX6_sieve wsX6_sieve rm_X6_sieve D C K 0 [.int x1, .int x2] u.1 u.2.1 u.2.2.1 u.2.2.2 postM) (rv : Int32) (CU : CSt → Prop) (hp : ∀ r q, postM r q → r = rv ∧ CU q) : LM l yL_sieve wsL_sieve rw_sieve D C cD K adK adV ao (OLn C ao) [.int x1, .int x2] u o (fun r q => r = nI 0 ∧ q.2 = rv.toInt64 ∧ CU q.1) := by
  refine LM_of (lv := [(0, .ref (K 0)), (1, .int x1), (2, .int x2), (3, .ref ao)]) (cc := cL_sieve) (maxL := 5) (ret := some .int) (hh := [(0, 10, 13, 19)]) rfl (by decide +kernel) (Nat.le_of_ble_eq_true rfl) rfl ?_
  intro p e s m args below meth c X hKd hAM hAS hNC ht hml hr hlk
  generalize hQ : MQ below _ args s 1 6 _ = Q
  refine zz_aload_n 0 X.1 3 dL_sieve_0 rfl ?_
  refine zz_iconst 1 X.1 (v := nI 0) dL_sieve_1 rfl ?_
  refine zz_aload_n 2 X.1 0 dL_sieve_2 rfl ?_
  refine zz_iload_n 3 X.1 1 dL_sieve_3 rfl ?_
  refine zz_iload_n 4 X.1 2 dL_sieve_4 rfl ?_
  refine lm_calli 5 X hml hao rfl (As := [.int x1, .int x2]) hM gL_sieve_X6_sieve rfl ⟨rfl, rfl⟩ yd_X6_sieve ⟨Nat.le_of_ble_eq_true rfl, Nat.le_of_ble_eq_true rfl⟩ rfl rfl (Nat.le_of_ble_eq_true rfl) ⟨Nat.le_of_ble_eq_true rfl, Nat.le_of_ble_eq_true rfl⟩ dL_sieve_5 ?_
  intro r q hq
  obtain ⟨he, hc⟩ := hp r q hq
  rw [he]
  refine zz_i2l 8 X.1 dL_sieve_8 rfl ?_
  refine lm_lst 9 X hAp hao dL_sieve_9 ?_
  refine zz_goto 10 17 X.1 dL_sieve_10 (by decide) ?_
  refine zz_widen (k := 1) (j := 6) (Nat.le_of_ble_eq_true rfl) (Nat.le_of_ble_eq_true rfl) ?_
  refine zz_iconst 17 X.1 (v := nI 0) dL_sieve_17 rfl ?_
  rw [← hQ]
  refine zz_iret 18 X.1 hr rfl hlk (q, rv.toInt64) ⟨rfl, rfl, hc⟩ (fun _ h => fun _ => h) dL_sieve_18

set_option maxHeartbeats 4000000 in
set_option maxRecDepth 100000 in
theorem wL_sieve_x1 (l : Launch) (D : va_G) (C : Nat → ClassId) (cD : ClassId) (K adK adV : Nat → Nat) (ao : Nat) (hAp : DAp K) (hao : ¬ DAd K ao) (u : CSt) (o : Int64) (x1 : Int32) (x2 : Int32) {u0 : CSt} (hX : CX l yX6_sieve wsX6_sieve rx_X6_sieve D C K 0 [.int x1, .int x2] u.1 u.2.1 u.2.2.1 u.2.2.2 "java/lang/IllegalArgumentException" u0) : LM l yL_sieve wsL_sieve rw_sieve D C cD K adK adV ao (OLn C ao) [.int x1, .int x2] u o (fun r q => r = nI 1 ∧ q.2 = o ∧ q.1 = u0) := by
  refine LM_of (lv := [(0, .ref (K 0)), (1, .int x1), (2, .int x2), (3, .ref ao)]) (cc := cL_sieve) (maxL := 5) (ret := some .int) (hh := [(0, 10, 13, 19)]) rfl (by decide +kernel) (Nat.le_of_ble_eq_true rfl) rfl ?_
  intro p e s m args below meth c X hKd hAM hAS hNC ht hml hr hlk
  generalize hQ : MQ below _ args s 1 6 _ = Q
  refine zz_aload_n 0 X.1 3 dL_sieve_0 rfl ?_
  refine zz_iconst 1 X.1 (v := nI 0) dL_sieve_1 rfl ?_
  refine zz_aload_n 2 X.1 0 dL_sieve_2 rfl ?_
  refine zz_iload_n 3 X.1 1 dL_sieve_3 rfl ?_
  refine zz_iload_n 4 X.1 2 dL_sieve_4 rfl ?_
  refine lm_callX 5 X hAM hml hao rfl (As := [.int x1, .int x2]) hX gL_sieve_X6_sieve rfl ⟨rfl, rfl⟩ yd_X6_sieve ⟨Nat.le_of_ble_eq_true rfl, Nat.le_of_ble_eq_true rfl⟩ rfl rfl (Nat.le_of_ble_eq_true rfl) ⟨Nat.le_of_ble_eq_true rfl, Nat.le_of_ble_eq_true rfl⟩ dL_sieve_5 [] ⟨0, 10, 13, 19⟩ [] ht (fun z hz => absurd hz List.not_mem_nil) (by decide) (by decide) (name := "java/lang/IllegalArgumentException") (by decide +kernel) (by decide +kernel) (hpc := 13) rfl ?_
  intro q9
  refine zz_astore 13 X.1 (lv' := [(4, .ref q9), (0, .ref (K 0)), (1, .int x1), (2, .int x2), (3, .ref ao)]) dL_sieve_13 (by decide) rfl ?_
  refine zz_iconst 15 X.1 (v := nI 1) dL_sieve_15 rfl ?_
  rw [← hQ]
  refine zz_iret 16 X.1 hr rfl hlk (u0, o) ⟨rfl, rfl, rfl⟩ (fun _ h => fun _ => h) dL_sieve_16

abbrev rw_loadWords : Room := { frames := 8, cells := 1, slots := 6, locals := 142 }
set_option maxHeartbeats 4000000 in
set_option maxRecDepth 100000 in
theorem wL_loadWords_ok (l : Launch) (D : va_G) (C : Nat → ClassId) (cD : ClassId) (K adK adV : Nat → Nat) (ao : Nat) (hAp : DAp K) (hao : ¬ DAd K ao) (u : CSt) (o : Int64) (x1 : Int32) (x2 : Int64) (x4 : Int64) (x6 : Int64) {postM : Int32 → CSt → Prop} (hM : CMi l yX6_loadWords wsX6_loadWords rm_X6_loadWords D C K 0 [.int x1, .long x2, .long x4, .long x6] u.1 u.2.1 u.2.2.1 u.2.2.2 postM) (rv : Int32) (CU : CSt → Prop) (hp : ∀ r q, postM r q → r = rv ∧ CU q) : LM l yL_loadWords wsL_loadWords rw_loadWords D C cD K adK adV ao (OLn C ao) [.int x1, .long x2, .long x4, .long x6] u o (fun r q => r = nI 0 ∧ q.2 = rv.toInt64 ∧ CU q.1) := by
  refine LM_of (lv := [(0, .ref (K 0)), (1, .int x1), (2, .long x2), (4, .long x4), (6, .long x6), (8, .ref ao)]) (cc := cL_loadWords) (maxL := 10) (ret := some .int) (hh := [(0, 15, 18, 19)]) rfl (by decide +kernel) (Nat.le_of_ble_eq_true rfl) rfl ?_
  intro p e s m args below meth c X hKd hAM hAS hNC ht hml hr hlk
  generalize hQ : MQ below _ args s 1 6 _ = Q
  refine zz_aload 0 X.1 5 dL_loadWords_0 rfl ?_
  refine zz_iconst 2 X.1 (v := nI 0) dL_loadWords_2 rfl ?_
  refine zz_aload_n 3 X.1 0 dL_loadWords_3 rfl ?_
  refine zz_iload_n 4 X.1 1 dL_loadWords_4 rfl ?_
  refine zz_lload_n 5 X.1 2 dL_loadWords_5 rfl ?_
  refine zz_lload 6 X.1 3 dL_loadWords_6 rfl ?_
  refine zz_lload 8 X.1 4 dL_loadWords_8 rfl ?_
  refine lm_calli 10 X hml hao rfl (As := [.int x1, .long x2, .long x4, .long x6]) hM gL_loadWords_X6_loadWords rfl ⟨rfl, rfl⟩ yd_X6_loadWords ⟨Nat.le_of_ble_eq_true rfl, Nat.le_of_ble_eq_true rfl⟩ rfl rfl (Nat.le_of_ble_eq_true rfl) ⟨Nat.le_of_ble_eq_true rfl, Nat.le_of_ble_eq_true rfl⟩ dL_loadWords_10 ?_
  intro r q hq
  obtain ⟨he, hc⟩ := hp r q hq
  rw [he]
  refine zz_i2l 13 X.1 dL_loadWords_13 rfl ?_
  refine lm_lst 14 X hAp hao dL_loadWords_14 ?_
  refine zz_goto 15 22 X.1 dL_loadWords_15 (by decide) ?_
  refine zz_widen (k := 1) (j := 6) (Nat.le_of_ble_eq_true rfl) (Nat.le_of_ble_eq_true rfl) ?_
  refine zz_iconst 22 X.1 (v := nI 0) dL_loadWords_22 rfl ?_
  rw [← hQ]
  refine zz_iret 23 X.1 hr rfl hlk (q, rv.toInt64) ⟨rfl, rfl, hc⟩ (fun _ h => fun _ => h) dL_loadWords_23

set_option maxHeartbeats 4000000 in
set_option maxRecDepth 100000 in
theorem wL_loadWords_x1 (l : Launch) (D : va_G) (C : Nat → ClassId) (cD : ClassId) (K adK adV : Nat → Nat) (ao : Nat) (hAp : DAp K) (hao : ¬ DAd K ao) (u : CSt) (o : Int64) (x1 : Int32) (x2 : Int64) (x4 : Int64) (x6 : Int64) {u0 : CSt} (hX : CX l yX6_loadWords wsX6_loadWords rx_X6_loadWords D C K 0 [.int x1, .long x2, .long x4, .long x6] u.1 u.2.1 u.2.2.1 u.2.2.2 "java/lang/IllegalArgumentException" u0) : LM l yL_loadWords wsL_loadWords rw_loadWords D C cD K adK adV ao (OLn C ao) [.int x1, .long x2, .long x4, .long x6] u o (fun r q => r = nI 1 ∧ q.2 = o ∧ q.1 = u0) := by
  refine LM_of (lv := [(0, .ref (K 0)), (1, .int x1), (2, .long x2), (4, .long x4), (6, .long x6), (8, .ref ao)]) (cc := cL_loadWords) (maxL := 10) (ret := some .int) (hh := [(0, 15, 18, 19)]) rfl (by decide +kernel) (Nat.le_of_ble_eq_true rfl) rfl ?_
  intro p e s m args below meth c X hKd hAM hAS hNC ht hml hr hlk
  generalize hQ : MQ below _ args s 1 6 _ = Q
  refine zz_aload 0 X.1 5 dL_loadWords_0 rfl ?_
  refine zz_iconst 2 X.1 (v := nI 0) dL_loadWords_2 rfl ?_
  refine zz_aload_n 3 X.1 0 dL_loadWords_3 rfl ?_
  refine zz_iload_n 4 X.1 1 dL_loadWords_4 rfl ?_
  refine zz_lload_n 5 X.1 2 dL_loadWords_5 rfl ?_
  refine zz_lload 6 X.1 3 dL_loadWords_6 rfl ?_
  refine zz_lload 8 X.1 4 dL_loadWords_8 rfl ?_
  refine lm_callX 10 X hAM hml hao rfl (As := [.int x1, .long x2, .long x4, .long x6]) hX gL_loadWords_X6_loadWords rfl ⟨rfl, rfl⟩ yd_X6_loadWords ⟨Nat.le_of_ble_eq_true rfl, Nat.le_of_ble_eq_true rfl⟩ rfl rfl (Nat.le_of_ble_eq_true rfl) ⟨Nat.le_of_ble_eq_true rfl, Nat.le_of_ble_eq_true rfl⟩ dL_loadWords_10 [] ⟨0, 15, 18, 19⟩ [] ht (fun z hz => absurd hz List.not_mem_nil) (by decide) (by decide) (name := "java/lang/IllegalArgumentException") (by decide +kernel) (by decide +kernel) (hpc := 18) rfl ?_
  intro q9
  refine zz_astore 18 X.1 (lv' := [(9, .ref q9), (0, .ref (K 0)), (1, .int x1), (2, .long x2), (4, .long x4), (6, .long x6), (8, .ref ao)]) dL_loadWords_18 (by decide) rfl ?_
  refine zz_iconst 20 X.1 (v := nI 1) dL_loadWords_20 rfl ?_
  rw [← hQ]
  refine zz_iret 21 X.1 hr rfl hlk (u0, o) ⟨rfl, rfl, rfl⟩ (fun _ h => fun _ => h) dL_loadWords_21

abbrev rw_loadTape : Room := { frames := 8, cells := 1, slots := 6, locals := 133 }
set_option maxHeartbeats 4000000 in
set_option maxRecDepth 100000 in
theorem wL_loadTape_ok (l : Launch) (D : va_G) (C : Nat → ClassId) (cD : ClassId) (K adK adV : Nat → Nat) (ao : Nat) (hAp : DAp K) (hao : ¬ DAd K ao) (u : CSt) (o : Int64) (x1 : Int32) {postM : Int32 → CSt → Prop} (hM : CMi l yX6_loadTape wsX6_loadTape rm_X6_loadTape D C K 0 [.int x1] u.1 u.2.1 u.2.2.1 u.2.2.2 postM) (rv : Int32) (CU : CSt → Prop) (hp : ∀ r q, postM r q → r = rv ∧ CU q) : LM l yL_loadTape wsL_loadTape rw_loadTape D C cD K adK adV ao (OLn C ao) [.int x1] u o (fun r q => r = nI 0 ∧ q.2 = rv.toInt64 ∧ CU q.1) := by
  refine LM_of (lv := [(0, .ref (K 0)), (1, .int x1), (2, .ref ao)]) (cc := cL_loadTape) (maxL := 4) (ret := some .int) (hh := [(0, 9, 12, 19), (0, 9, 15, 13)]) rfl (by decide +kernel) (Nat.le_of_ble_eq_true rfl) rfl ?_
  intro p e s m args below meth c X hKd hAM hAS hNC ht hml hr hlk
  generalize hQ : MQ below _ args s 1 6 _ = Q
  refine zz_aload_n 0 X.1 2 dL_loadTape_0 rfl ?_
  refine zz_iconst 1 X.1 (v := nI 0) dL_loadTape_1 rfl ?_
  refine zz_aload_n 2 X.1 0 dL_loadTape_2 rfl ?_
  refine zz_iload_n 3 X.1 1 dL_loadTape_3 rfl ?_
  refine lm_calli 4 X hml hao rfl (As := [.int x1]) hM gL_loadTape_X6_loadTape rfl ⟨rfl, rfl⟩ yd_X6_loadTape ⟨Nat.le_of_ble_eq_true rfl, Nat.le_of_ble_eq_true rfl⟩ rfl rfl (Nat.le_of_ble_eq_true rfl) ⟨Nat.le_of_ble_eq_true rfl, Nat.le_of_ble_eq_true rfl⟩ dL_loadTape_4 ?_
  intro r q hq
  obtain ⟨he, hc⟩ := hp r q hq
  rw [he]
  refine zz_i2l 7 X.1 dL_loadTape_7 rfl ?_
  refine lm_lst 8 X hAp hao dL_loadTape_8 ?_
  refine zz_goto 9 18 X.1 dL_loadTape_9 (by decide) ?_
  refine zz_widen (k := 1) (j := 6) (Nat.le_of_ble_eq_true rfl) (Nat.le_of_ble_eq_true rfl) ?_
  refine zz_iconst 18 X.1 (v := nI 0) dL_loadTape_18 rfl ?_
  rw [← hQ]
  refine zz_iret 19 X.1 hr rfl hlk (q, rv.toInt64) ⟨rfl, rfl, hc⟩ (fun _ h => fun _ => h) dL_loadTape_19

set_option maxHeartbeats 4000000 in
set_option maxRecDepth 100000 in
theorem wL_loadTape_x1 (l : Launch) (D : va_G) (C : Nat → ClassId) (cD : ClassId) (K adK adV : Nat → Nat) (ao : Nat) (hAp : DAp K) (hao : ¬ DAd K ao) (u : CSt) (o : Int64) (x1 : Int32) {u0 : CSt} (hX : CX l yX6_loadTape wsX6_loadTape rx_X6_loadTape D C K 0 [.int x1] u.1 u.2.1 u.2.2.1 u.2.2.2 "java/lang/IllegalArgumentException" u0) : LM l yL_loadTape wsL_loadTape rw_loadTape D C cD K adK adV ao (OLn C ao) [.int x1] u o (fun r q => r = nI 1 ∧ q.2 = o ∧ q.1 = u0) := by
  refine LM_of (lv := [(0, .ref (K 0)), (1, .int x1), (2, .ref ao)]) (cc := cL_loadTape) (maxL := 4) (ret := some .int) (hh := [(0, 9, 12, 19), (0, 9, 15, 13)]) rfl (by decide +kernel) (Nat.le_of_ble_eq_true rfl) rfl ?_
  intro p e s m args below meth c X hKd hAM hAS hNC ht hml hr hlk
  generalize hQ : MQ below _ args s 1 6 _ = Q
  refine zz_aload_n 0 X.1 2 dL_loadTape_0 rfl ?_
  refine zz_iconst 1 X.1 (v := nI 0) dL_loadTape_1 rfl ?_
  refine zz_aload_n 2 X.1 0 dL_loadTape_2 rfl ?_
  refine zz_iload_n 3 X.1 1 dL_loadTape_3 rfl ?_
  refine lm_callX 4 X hAM hml hao rfl (As := [.int x1]) hX gL_loadTape_X6_loadTape rfl ⟨rfl, rfl⟩ yd_X6_loadTape ⟨Nat.le_of_ble_eq_true rfl, Nat.le_of_ble_eq_true rfl⟩ rfl rfl (Nat.le_of_ble_eq_true rfl) ⟨Nat.le_of_ble_eq_true rfl, Nat.le_of_ble_eq_true rfl⟩ dL_loadTape_4 [] ⟨0, 9, 12, 19⟩ [⟨0, 9, 15, 13⟩] ht (fun z hz => absurd hz List.not_mem_nil) (by decide) (by decide) (name := "java/lang/IllegalArgumentException") (by decide +kernel) (by decide +kernel) (hpc := 12) rfl ?_
  intro q9
  refine zz_astore_n 12 X.1 (lv' := [(3, .ref q9), (0, .ref (K 0)), (1, .int x1), (2, .ref ao)]) dL_loadTape_12 (by decide) rfl ?_
  refine zz_iconst 13 X.1 (v := nI 1) dL_loadTape_13 rfl ?_
  rw [← hQ]
  refine zz_iret 14 X.1 hr rfl hlk (u0, o) ⟨rfl, rfl, rfl⟩ (fun _ h => fun _ => h) dL_loadTape_14

set_option maxHeartbeats 4000000 in
set_option maxRecDepth 100000 in
theorem wL_loadTape_x2 (l : Launch) (D : va_G) (C : Nat → ClassId) (cD : ClassId) (K adK adV : Nat → Nat) (ao : Nat) (hAp : DAp K) (hao : ¬ DAd K ao) (u : CSt) (o : Int64) (x1 : Int32) {u0 : CSt} (hX : CX l yX6_loadTape wsX6_loadTape rx_X6_loadTape D C K 0 [.int x1] u.1 u.2.1 u.2.2.1 u.2.2.2 "java/lang/IllegalStateException" u0) : LM l yL_loadTape wsL_loadTape rw_loadTape D C cD K adK adV ao (OLn C ao) [.int x1] u o (fun r q => r = nI 2 ∧ q.2 = o ∧ q.1 = u0) := by
  refine LM_of (lv := [(0, .ref (K 0)), (1, .int x1), (2, .ref ao)]) (cc := cL_loadTape) (maxL := 4) (ret := some .int) (hh := [(0, 9, 12, 19), (0, 9, 15, 13)]) rfl (by decide +kernel) (Nat.le_of_ble_eq_true rfl) rfl ?_
  intro p e s m args below meth c X hKd hAM hAS hNC ht hml hr hlk
  generalize hQ : MQ below _ args s 1 6 _ = Q
  refine zz_aload_n 0 X.1 2 dL_loadTape_0 rfl ?_
  refine zz_iconst 1 X.1 (v := nI 0) dL_loadTape_1 rfl ?_
  refine zz_aload_n 2 X.1 0 dL_loadTape_2 rfl ?_
  refine zz_iload_n 3 X.1 1 dL_loadTape_3 rfl ?_
  refine lm_callX 4 X hAM hml hao rfl (As := [.int x1]) hX gL_loadTape_X6_loadTape rfl ⟨rfl, rfl⟩ yd_X6_loadTape ⟨Nat.le_of_ble_eq_true rfl, Nat.le_of_ble_eq_true rfl⟩ rfl rfl (Nat.le_of_ble_eq_true rfl) ⟨Nat.le_of_ble_eq_true rfl, Nat.le_of_ble_eq_true rfl⟩ dL_loadTape_4 [⟨0, 9, 12, 19⟩] ⟨0, 9, 15, 13⟩ [] ht (fun z hz => by cases List.mem_singleton.mp hz; exact Or.inr ⟨by decide, "java/lang/IllegalArgumentException", X.2.1 _ (by decide +kernel), hNC.2⟩) (by decide) (by decide) (name := "java/lang/IllegalStateException") (by decide +kernel) (by decide +kernel) (hpc := 15) rfl ?_
  intro q9
  refine zz_astore_n 15 X.1 (lv' := [(3, .ref q9), (0, .ref (K 0)), (1, .int x1), (2, .ref ao)]) dL_loadTape_15 (by decide) rfl ?_
  refine zz_iconst 16 X.1 (v := nI 2) dL_loadTape_16 rfl ?_
  rw [← hQ]
  refine zz_iret 17 X.1 hr rfl hlk (u0, o) ⟨rfl, rfl, rfl⟩ (fun _ h => fun _ => h) dL_loadTape_17

abbrev rw_wordCount : Room := { frames := 8, cells := 1, slots := 6, locals := 132 }
set_option maxHeartbeats 4000000 in
set_option maxRecDepth 100000 in
theorem wL_wordCount_ok (l : Launch) (D : va_G) (C : Nat → ClassId) (cD : ClassId) (K adK adV : Nat → Nat) (ao : Nat) (hAp : DAp K) (hao : ¬ DAd K ao) (u : CSt) (o : Int64) (x1 : Int32) {postM : Int32 → CSt → Prop} (hM : CMi l yX6_wordCount wsX6_wordCount rm_X6_wordCount D C K 0 [.int x1] u.1 u.2.1 u.2.2.1 u.2.2.2 postM) (rv : Int32) (CU : CSt → Prop) (hp : ∀ r q, postM r q → r = rv ∧ CU q) : LM l yL_wordCount wsL_wordCount rw_wordCount D C cD K adK adV ao (OLn C ao) [.int x1] u o (fun r q => r = nI 0 ∧ q.2 = rv.toInt64 ∧ CU q.1) := by
  refine LM_of (lv := [(0, .ref (K 0)), (1, .int x1), (2, .ref ao)]) (cc := cL_wordCount) (maxL := 4) (ret := some .int) (hh := [(0, 9, 12, 19)]) rfl (by decide +kernel) (Nat.le_of_ble_eq_true rfl) rfl ?_
  intro p e s m args below meth c X hKd hAM hAS hNC ht hml hr hlk
  generalize hQ : MQ below _ args s 1 6 _ = Q
  refine zz_aload_n 0 X.1 2 dL_wordCount_0 rfl ?_
  refine zz_iconst 1 X.1 (v := nI 0) dL_wordCount_1 rfl ?_
  refine zz_aload_n 2 X.1 0 dL_wordCount_2 rfl ?_
  refine zz_iload_n 3 X.1 1 dL_wordCount_3 rfl ?_
  refine lm_calli 4 X hml hao rfl (As := [.int x1]) hM gL_wordCount_X6_wordCount rfl ⟨rfl, rfl⟩ yd_X6_wordCount ⟨Nat.le_of_ble_eq_true rfl, Nat.le_of_ble_eq_true rfl⟩ rfl rfl (Nat.le_of_ble_eq_true rfl) ⟨Nat.le_of_ble_eq_true rfl, Nat.le_of_ble_eq_true rfl⟩ dL_wordCount_4 ?_
  intro r q hq
  obtain ⟨he, hc⟩ := hp r q hq
  rw [he]
  refine zz_i2l 7 X.1 dL_wordCount_7 rfl ?_
  refine lm_lst 8 X hAp hao dL_wordCount_8 ?_
  refine zz_goto 9 15 X.1 dL_wordCount_9 (by decide) ?_
  refine zz_widen (k := 1) (j := 6) (Nat.le_of_ble_eq_true rfl) (Nat.le_of_ble_eq_true rfl) ?_
  refine zz_iconst 15 X.1 (v := nI 0) dL_wordCount_15 rfl ?_
  rw [← hQ]
  refine zz_iret 16 X.1 hr rfl hlk (q, rv.toInt64) ⟨rfl, rfl, hc⟩ (fun _ h => fun _ => h) dL_wordCount_16

set_option maxHeartbeats 4000000 in
set_option maxRecDepth 100000 in
theorem wL_wordCount_x1 (l : Launch) (D : va_G) (C : Nat → ClassId) (cD : ClassId) (K adK adV : Nat → Nat) (ao : Nat) (hAp : DAp K) (hao : ¬ DAd K ao) (u : CSt) (o : Int64) (x1 : Int32) {u0 : CSt} (hX : CX l yX6_wordCount wsX6_wordCount rx_X6_wordCount D C K 0 [.int x1] u.1 u.2.1 u.2.2.1 u.2.2.2 "java/lang/IllegalArgumentException" u0) : LM l yL_wordCount wsL_wordCount rw_wordCount D C cD K adK adV ao (OLn C ao) [.int x1] u o (fun r q => r = nI 1 ∧ q.2 = o ∧ q.1 = u0) := by
  refine LM_of (lv := [(0, .ref (K 0)), (1, .int x1), (2, .ref ao)]) (cc := cL_wordCount) (maxL := 4) (ret := some .int) (hh := [(0, 9, 12, 19)]) rfl (by decide +kernel) (Nat.le_of_ble_eq_true rfl) rfl ?_
  intro p e s m args below meth c X hKd hAM hAS hNC ht hml hr hlk
  generalize hQ : MQ below _ args s 1 6 _ = Q
  refine zz_aload_n 0 X.1 2 dL_wordCount_0 rfl ?_
  refine zz_iconst 1 X.1 (v := nI 0) dL_wordCount_1 rfl ?_
  refine zz_aload_n 2 X.1 0 dL_wordCount_2 rfl ?_
  refine zz_iload_n 3 X.1 1 dL_wordCount_3 rfl ?_
  refine lm_callX 4 X hAM hml hao rfl (As := [.int x1]) hX gL_wordCount_X6_wordCount rfl ⟨rfl, rfl⟩ yd_X6_wordCount ⟨Nat.le_of_ble_eq_true rfl, Nat.le_of_ble_eq_true rfl⟩ rfl rfl (Nat.le_of_ble_eq_true rfl) ⟨Nat.le_of_ble_eq_true rfl, Nat.le_of_ble_eq_true rfl⟩ dL_wordCount_4 [] ⟨0, 9, 12, 19⟩ [] ht (fun z hz => absurd hz List.not_mem_nil) (by decide) (by decide) (name := "java/lang/IllegalArgumentException") (by decide +kernel) (by decide +kernel) (hpc := 12) rfl ?_
  intro q9
  refine zz_astore_n 12 X.1 (lv' := [(3, .ref q9), (0, .ref (K 0)), (1, .int x1), (2, .ref ao)]) dL_wordCount_12 (by decide) rfl ?_
  refine zz_iconst 13 X.1 (v := nI 1) dL_wordCount_13 rfl ?_
  rw [← hQ]
  refine zz_iret 14 X.1 hr rfl hlk (u0, o) ⟨rfl, rfl, rfl⟩ (fun _ h => fun _ => h) dL_wordCount_14

abbrev rw_wordAt : Room := { frames := 8, cells := 1, slots := 6, locals := 134 }
set_option maxHeartbeats 4000000 in
set_option maxRecDepth 100000 in
theorem wL_wordAt_ok (l : Launch) (D : va_G) (C : Nat → ClassId) (cD : ClassId) (K adK adV : Nat → Nat) (ao : Nat) (hAp : DAp K) (hao : ¬ DAd K ao) (u : CSt) (o : Int64) (x1 : Int32) (x2 : Int32) {postM : Int64 → CSt → Prop} (hM : CMl l yX6_wordAt wsX6_wordAt rm_X6_wordAt D C K 0 [.int x1, .int x2] u.1 u.2.1 u.2.2.1 u.2.2.2 postM) (rv : Int64) (CU : CSt → Prop) (hp : ∀ r q, postM r q → r = rv ∧ CU q) : LM l yL_wordAt wsL_wordAt rw_wordAt D C cD K adK adV ao (OLn C ao) [.int x1, .int x2] u o (fun r q => r = nI 0 ∧ q.2 = rv ∧ CU q.1) := by
  refine LM_of (lv := [(0, .ref (K 0)), (1, .int x1), (2, .int x2), (3, .ref ao)]) (cc := cL_wordAt) (maxL := 5) (ret := some .int) (hh := [(0, 9, 12, 19), (0, 9, 16, 25)]) rfl (by decide +kernel) (Nat.le_of_ble_eq_true rfl) rfl ?_
  intro p e s m args below meth c X hKd hAM hAS hNC ht hml hr hlk
  generalize hQ : MQ below _ args s 1 6 _ = Q
  refine zz_aload_n 0 X.1 3 dL_wordAt_0 rfl ?_
  refine zz_iconst 1 X.1 (v := nI 0) dL_wordAt_1 rfl ?_
  refine zz_aload_n 2 X.1 0 dL_wordAt_2 rfl ?_
  refine zz_iload_n 3 X.1 1 dL_wordAt_3 rfl ?_
  refine zz_iload_n 4 X.1 2 dL_wordAt_4 rfl ?_
  refine lm_calll 5 X hml hao rfl (As := [.int x1, .int x2]) hM gL_wordAt_X6_wordAt rfl ⟨rfl, rfl⟩ yd_X6_wordAt ⟨Nat.le_of_ble_eq_true rfl, Nat.le_of_ble_eq_true rfl⟩ rfl rfl (Nat.le_of_ble_eq_true rfl) ⟨Nat.le_of_ble_eq_true rfl, Nat.le_of_ble_eq_true rfl⟩ dL_wordAt_5 ?_
  intro r q hq
  obtain ⟨he, hc⟩ := hp r q hq
  rw [he]
  refine lm_lst 8 X hAp hao dL_wordAt_8 ?_
  refine zz_goto 9 20 X.1 dL_wordAt_9 (by decide) ?_
  refine zz_widen (k := 1) (j := 6) (Nat.le_of_ble_eq_true rfl) (Nat.le_of_ble_eq_true rfl) ?_
  refine zz_iconst 20 X.1 (v := nI 0) dL_wordAt_20 rfl ?_
  rw [← hQ]
  refine zz_iret 21 X.1 hr rfl hlk (q, rv) ⟨rfl, rfl, hc⟩ (fun _ h => fun _ => h) dL_wordAt_21

set_option maxHeartbeats 4000000 in
set_option maxRecDepth 100000 in
theorem wL_wordAt_x1 (l : Launch) (D : va_G) (C : Nat → ClassId) (cD : ClassId) (K adK adV : Nat → Nat) (ao : Nat) (hAp : DAp K) (hao : ¬ DAd K ao) (u : CSt) (o : Int64) (x1 : Int32) (x2 : Int32) {u0 : CSt} (hX : CX l yX6_wordAt wsX6_wordAt rx_X6_wordAt D C K 0 [.int x1, .int x2] u.1 u.2.1 u.2.2.1 u.2.2.2 "java/lang/IllegalArgumentException" u0) : LM l yL_wordAt wsL_wordAt rw_wordAt D C cD K adK adV ao (OLn C ao) [.int x1, .int x2] u o (fun r q => r = nI 1 ∧ q.2 = o ∧ q.1 = u0) := by
  refine LM_of (lv := [(0, .ref (K 0)), (1, .int x1), (2, .int x2), (3, .ref ao)]) (cc := cL_wordAt) (maxL := 5) (ret := some .int) (hh := [(0, 9, 12, 19), (0, 9, 16, 25)]) rfl (by decide +kernel) (Nat.le_of_ble_eq_true rfl) rfl ?_
  intro p e s m args below meth c X hKd hAM hAS hNC ht hml hr hlk
  generalize hQ : MQ below _ args s 1 6 _ = Q
  refine zz_aload_n 0 X.1 3 dL_wordAt_0 rfl ?_
  refine zz_iconst 1 X.1 (v := nI 0) dL_wordAt_1 rfl ?_
  refine zz_aload_n 2 X.1 0 dL_wordAt_2 rfl ?_
  refine zz_iload_n 3 X.1 1 dL_wordAt_3 rfl ?_
  refine zz_iload_n 4 X.1 2 dL_wordAt_4 rfl ?_
  refine lm_callX 5 X hAM hml hao rfl (As := [.int x1, .int x2]) hX gL_wordAt_X6_wordAt rfl ⟨rfl, rfl⟩ yd_X6_wordAt ⟨Nat.le_of_ble_eq_true rfl, Nat.le_of_ble_eq_true rfl⟩ rfl rfl (Nat.le_of_ble_eq_true rfl) ⟨Nat.le_of_ble_eq_true rfl, Nat.le_of_ble_eq_true rfl⟩ dL_wordAt_5 [] ⟨0, 9, 12, 19⟩ [⟨0, 9, 16, 25⟩] ht (fun z hz => absurd hz List.not_mem_nil) (by decide) (by decide) (name := "java/lang/IllegalArgumentException") (by decide +kernel) (by decide +kernel) (hpc := 12) rfl ?_
  intro q9
  refine zz_astore 12 X.1 (lv' := [(4, .ref q9), (0, .ref (K 0)), (1, .int x1), (2, .int x2), (3, .ref ao)]) dL_wordAt_12 (by decide) rfl ?_
  refine zz_iconst 14 X.1 (v := nI 1) dL_wordAt_14 rfl ?_
  rw [← hQ]
  refine zz_iret 15 X.1 hr rfl hlk (u0, o) ⟨rfl, rfl, rfl⟩ (fun _ h => fun _ => h) dL_wordAt_15

set_option maxHeartbeats 4000000 in
set_option maxRecDepth 100000 in
theorem wL_wordAt_x2 (l : Launch) (D : va_G) (C : Nat → ClassId) (cD : ClassId) (K adK adV : Nat → Nat) (ao : Nat) (hAp : DAp K) (hao : ¬ DAd K ao) (u : CSt) (o : Int64) (x1 : Int32) (x2 : Int32) {u0 : CSt} (hX : CX l yX6_wordAt wsX6_wordAt rx_X6_wordAt D C K 0 [.int x1, .int x2] u.1 u.2.1 u.2.2.1 u.2.2.2 "java/lang/IndexOutOfBoundsException" u0) : LM l yL_wordAt wsL_wordAt rw_wordAt D C cD K adK adV ao (OLn C ao) [.int x1, .int x2] u o (fun r q => r = nI 2 ∧ q.2 = o ∧ q.1 = u0) := by
  refine LM_of (lv := [(0, .ref (K 0)), (1, .int x1), (2, .int x2), (3, .ref ao)]) (cc := cL_wordAt) (maxL := 5) (ret := some .int) (hh := [(0, 9, 12, 19), (0, 9, 16, 25)]) rfl (by decide +kernel) (Nat.le_of_ble_eq_true rfl) rfl ?_
  intro p e s m args below meth c X hKd hAM hAS hNC ht hml hr hlk
  generalize hQ : MQ below _ args s 1 6 _ = Q
  refine zz_aload_n 0 X.1 3 dL_wordAt_0 rfl ?_
  refine zz_iconst 1 X.1 (v := nI 0) dL_wordAt_1 rfl ?_
  refine zz_aload_n 2 X.1 0 dL_wordAt_2 rfl ?_
  refine zz_iload_n 3 X.1 1 dL_wordAt_3 rfl ?_
  refine zz_iload_n 4 X.1 2 dL_wordAt_4 rfl ?_
  refine lm_callX 5 X hAM hml hao rfl (As := [.int x1, .int x2]) hX gL_wordAt_X6_wordAt rfl ⟨rfl, rfl⟩ yd_X6_wordAt ⟨Nat.le_of_ble_eq_true rfl, Nat.le_of_ble_eq_true rfl⟩ rfl rfl (Nat.le_of_ble_eq_true rfl) ⟨Nat.le_of_ble_eq_true rfl, Nat.le_of_ble_eq_true rfl⟩ dL_wordAt_5 [⟨0, 9, 12, 19⟩] ⟨0, 9, 16, 25⟩ [] ht (fun z hz => by cases List.mem_singleton.mp hz; exact Or.inr ⟨by decide, "java/lang/IllegalArgumentException", X.2.1 _ (by decide +kernel), hNC.1⟩) (by decide) (by decide) (name := "java/lang/IndexOutOfBoundsException") (by decide +kernel) (by decide +kernel) (hpc := 16) rfl ?_
  intro q9
  refine zz_astore 16 X.1 (lv' := [(4, .ref q9), (0, .ref (K 0)), (1, .int x1), (2, .int x2), (3, .ref ao)]) dL_wordAt_16 (by decide) rfl ?_
  refine zz_iconst 18 X.1 (v := nI 2) dL_wordAt_18 rfl ?_
  rw [← hQ]
  refine zz_iret 19 X.1 hr rfl hlk (u0, o) ⟨rfl, rfl, rfl⟩ (fun _ h => fun _ => h) dL_wordAt_19

abbrev rw_byteCount : Room := { frames := 8, cells := 1, slots := 6, locals := 132 }
set_option maxHeartbeats 4000000 in
set_option maxRecDepth 100000 in
theorem wL_byteCount_ok (l : Launch) (D : va_G) (C : Nat → ClassId) (cD : ClassId) (K adK adV : Nat → Nat) (ao : Nat) (hAp : DAp K) (hao : ¬ DAd K ao) (u : CSt) (o : Int64) (x1 : Int32) {postM : Int32 → CSt → Prop} (hM : CMi l yX6_byteCount wsX6_byteCount rm_X6_byteCount D C K 0 [.int x1] u.1 u.2.1 u.2.2.1 u.2.2.2 postM) (rv : Int32) (CU : CSt → Prop) (hp : ∀ r q, postM r q → r = rv ∧ CU q) : LM l yL_byteCount wsL_byteCount rw_byteCount D C cD K adK adV ao (OLn C ao) [.int x1] u o (fun r q => r = nI 0 ∧ q.2 = rv.toInt64 ∧ CU q.1) := by
  refine LM_of (lv := [(0, .ref (K 0)), (1, .int x1), (2, .ref ao)]) (cc := cL_byteCount) (maxL := 4) (ret := some .int) (hh := [(0, 9, 12, 19)]) rfl (by decide +kernel) (Nat.le_of_ble_eq_true rfl) rfl ?_
  intro p e s m args below meth c X hKd hAM hAS hNC ht hml hr hlk
  generalize hQ : MQ below _ args s 1 6 _ = Q
  refine zz_aload_n 0 X.1 2 dL_byteCount_0 rfl ?_
  refine zz_iconst 1 X.1 (v := nI 0) dL_byteCount_1 rfl ?_
  refine zz_aload_n 2 X.1 0 dL_byteCount_2 rfl ?_
  refine zz_iload_n 3 X.1 1 dL_byteCount_3 rfl ?_
  refine lm_calli 4 X hml hao rfl (As := [.int x1]) hM gL_byteCount_X6_byteCount rfl ⟨rfl, rfl⟩ yd_X6_byteCount ⟨Nat.le_of_ble_eq_true rfl, Nat.le_of_ble_eq_true rfl⟩ rfl rfl (Nat.le_of_ble_eq_true rfl) ⟨Nat.le_of_ble_eq_true rfl, Nat.le_of_ble_eq_true rfl⟩ dL_byteCount_4 ?_
  intro r q hq
  obtain ⟨he, hc⟩ := hp r q hq
  rw [he]
  refine zz_i2l 7 X.1 dL_byteCount_7 rfl ?_
  refine lm_lst 8 X hAp hao dL_byteCount_8 ?_
  refine zz_goto 9 15 X.1 dL_byteCount_9 (by decide) ?_
  refine zz_widen (k := 1) (j := 6) (Nat.le_of_ble_eq_true rfl) (Nat.le_of_ble_eq_true rfl) ?_
  refine zz_iconst 15 X.1 (v := nI 0) dL_byteCount_15 rfl ?_
  rw [← hQ]
  refine zz_iret 16 X.1 hr rfl hlk (q, rv.toInt64) ⟨rfl, rfl, hc⟩ (fun _ h => fun _ => h) dL_byteCount_16

set_option maxHeartbeats 4000000 in
set_option maxRecDepth 100000 in
theorem wL_byteCount_x1 (l : Launch) (D : va_G) (C : Nat → ClassId) (cD : ClassId) (K adK adV : Nat → Nat) (ao : Nat) (hAp : DAp K) (hao : ¬ DAd K ao) (u : CSt) (o : Int64) (x1 : Int32) {u0 : CSt} (hX : CX l yX6_byteCount wsX6_byteCount rx_X6_byteCount D C K 0 [.int x1] u.1 u.2.1 u.2.2.1 u.2.2.2 "java/lang/IllegalArgumentException" u0) : LM l yL_byteCount wsL_byteCount rw_byteCount D C cD K adK adV ao (OLn C ao) [.int x1] u o (fun r q => r = nI 1 ∧ q.2 = o ∧ q.1 = u0) := by
  refine LM_of (lv := [(0, .ref (K 0)), (1, .int x1), (2, .ref ao)]) (cc := cL_byteCount) (maxL := 4) (ret := some .int) (hh := [(0, 9, 12, 19)]) rfl (by decide +kernel) (Nat.le_of_ble_eq_true rfl) rfl ?_
  intro p e s m args below meth c X hKd hAM hAS hNC ht hml hr hlk
  generalize hQ : MQ below _ args s 1 6 _ = Q
  refine zz_aload_n 0 X.1 2 dL_byteCount_0 rfl ?_
  refine zz_iconst 1 X.1 (v := nI 0) dL_byteCount_1 rfl ?_
  refine zz_aload_n 2 X.1 0 dL_byteCount_2 rfl ?_
  refine zz_iload_n 3 X.1 1 dL_byteCount_3 rfl ?_
  refine lm_callX 4 X hAM hml hao rfl (As := [.int x1]) hX gL_byteCount_X6_byteCount rfl ⟨rfl, rfl⟩ yd_X6_byteCount ⟨Nat.le_of_ble_eq_true rfl, Nat.le_of_ble_eq_true rfl⟩ rfl rfl (Nat.le_of_ble_eq_true rfl) ⟨Nat.le_of_ble_eq_true rfl, Nat.le_of_ble_eq_true rfl⟩ dL_byteCount_4 [] ⟨0, 9, 12, 19⟩ [] ht (fun z hz => absurd hz List.not_mem_nil) (by decide) (by decide) (name := "java/lang/IllegalArgumentException") (by decide +kernel) (by decide +kernel) (hpc := 12) rfl ?_
  intro q9
  refine zz_astore_n 12 X.1 (lv' := [(3, .ref q9), (0, .ref (K 0)), (1, .int x1), (2, .ref ao)]) dL_byteCount_12 (by decide) rfl ?_
  refine zz_iconst 13 X.1 (v := nI 1) dL_byteCount_13 rfl ?_
  rw [← hQ]
  refine zz_iret 14 X.1 hr rfl hlk (u0, o) ⟨rfl, rfl, rfl⟩ (fun _ h => fun _ => h) dL_byteCount_14

abbrev rw_byteAt : Room := { frames := 8, cells := 1, slots := 6, locals := 134 }
set_option maxHeartbeats 4000000 in
set_option maxRecDepth 100000 in
theorem wL_byteAt_ok (l : Launch) (D : va_G) (C : Nat → ClassId) (cD : ClassId) (K adK adV : Nat → Nat) (ao : Nat) (hAp : DAp K) (hao : ¬ DAd K ao) (u : CSt) (o : Int64) (x1 : Int32) (x2 : Int32) {postM : Int32 → CSt → Prop} (hM : CMi l yX6_byteAt wsX6_byteAt rm_X6_byteAt D C K 0 [.int x1, .int x2] u.1 u.2.1 u.2.2.1 u.2.2.2 postM) (rv : Int32) (CU : CSt → Prop) (hp : ∀ r q, postM r q → r = rv ∧ CU q) : LM l yL_byteAt wsL_byteAt rw_byteAt D C cD K adK adV ao (OLn C ao) [.int x1, .int x2] u o (fun r q => r = nI 0 ∧ q.2 = rv.toInt64 ∧ CU q.1) := by
  refine LM_of (lv := [(0, .ref (K 0)), (1, .int x1), (2, .int x2), (3, .ref ao)]) (cc := cL_byteAt) (maxL := 5) (ret := some .int) (hh := [(0, 10, 13, 19), (0, 10, 17, 25)]) rfl (by decide +kernel) (Nat.le_of_ble_eq_true rfl) rfl ?_
  intro p e s m args below meth c X hKd hAM hAS hNC ht hml hr hlk
  generalize hQ : MQ below _ args s 1 6 _ = Q
  refine zz_aload_n 0 X.1 3 dL_byteAt_0 rfl ?_
  refine zz_iconst 1 X.1 (v := nI 0) dL_byteAt_1 rfl ?_
  refine zz_aload_n 2 X.1 0 dL_byteAt_2 rfl ?_
  refine zz_iload_n 3 X.1 1 dL_byteAt_3 rfl ?_
  refine zz_iload_n 4 X.1 2 dL_byteAt_4 rfl ?_
  refine lm_calli 5 X hml hao rfl (As := [.int x1, .int x2]) hM gL_byteAt_X6_byteAt rfl ⟨rfl, rfl⟩ yd_X6_byteAt ⟨Nat.le_of_ble_eq_true rfl, Nat.le_of_ble_eq_true rfl⟩ rfl rfl (Nat.le_of_ble_eq_true rfl) ⟨Nat.le_of_ble_eq_true rfl, Nat.le_of_ble_eq_true rfl⟩ dL_byteAt_5 ?_
  intro r q hq
  obtain ⟨he, hc⟩ := hp r q hq
  rw [he]
  refine zz_i2l 8 X.1 dL_byteAt_8 rfl ?_
  refine lm_lst 9 X hAp hao dL_byteAt_9 ?_
  refine zz_goto 10 21 X.1 dL_byteAt_10 (by decide) ?_
  refine zz_widen (k := 1) (j := 6) (Nat.le_of_ble_eq_true rfl) (Nat.le_of_ble_eq_true rfl) ?_
  refine zz_iconst 21 X.1 (v := nI 0) dL_byteAt_21 rfl ?_
  rw [← hQ]
  refine zz_iret 22 X.1 hr rfl hlk (q, rv.toInt64) ⟨rfl, rfl, hc⟩ (fun _ h => fun _ => h) dL_byteAt_22

set_option maxHeartbeats 4000000 in
set_option maxRecDepth 100000 in
theorem wL_byteAt_x1 (l : Launch) (D : va_G) (C : Nat → ClassId) (cD : ClassId) (K adK adV : Nat → Nat) (ao : Nat) (hAp : DAp K) (hao : ¬ DAd K ao) (u : CSt) (o : Int64) (x1 : Int32) (x2 : Int32) {u0 : CSt} (hX : CX l yX6_byteAt wsX6_byteAt rx_X6_byteAt D C K 0 [.int x1, .int x2] u.1 u.2.1 u.2.2.1 u.2.2.2 "java/lang/IllegalArgumentException" u0) : LM l yL_byteAt wsL_byteAt rw_byteAt D C cD K adK adV ao (OLn C ao) [.int x1, .int x2] u o (fun r q => r = nI 1 ∧ q.2 = o ∧ q.1 = u0) := by
  refine LM_of (lv := [(0, .ref (K 0)), (1, .int x1), (2, .int x2), (3, .ref ao)]) (cc := cL_byteAt) (maxL := 5) (ret := some .int) (hh := [(0, 10, 13, 19), (0, 10, 17, 25)]) rfl (by decide +kernel) (Nat.le_of_ble_eq_true rfl) rfl ?_
  intro p e s m args below meth c X hKd hAM hAS hNC ht hml hr hlk
  generalize hQ : MQ below _ args s 1 6 _ = Q
  refine zz_aload_n 0 X.1 3 dL_byteAt_0 rfl ?_
  refine zz_iconst 1 X.1 (v := nI 0) dL_byteAt_1 rfl ?_
  refine zz_aload_n 2 X.1 0 dL_byteAt_2 rfl ?_
  refine zz_iload_n 3 X.1 1 dL_byteAt_3 rfl ?_
  refine zz_iload_n 4 X.1 2 dL_byteAt_4 rfl ?_
  refine lm_callX 5 X hAM hml hao rfl (As := [.int x1, .int x2]) hX gL_byteAt_X6_byteAt rfl ⟨rfl, rfl⟩ yd_X6_byteAt ⟨Nat.le_of_ble_eq_true rfl, Nat.le_of_ble_eq_true rfl⟩ rfl rfl (Nat.le_of_ble_eq_true rfl) ⟨Nat.le_of_ble_eq_true rfl, Nat.le_of_ble_eq_true rfl⟩ dL_byteAt_5 [] ⟨0, 10, 13, 19⟩ [⟨0, 10, 17, 25⟩] ht (fun z hz => absurd hz List.not_mem_nil) (by decide) (by decide) (name := "java/lang/IllegalArgumentException") (by decide +kernel) (by decide +kernel) (hpc := 13) rfl ?_
  intro q9
  refine zz_astore 13 X.1 (lv' := [(4, .ref q9), (0, .ref (K 0)), (1, .int x1), (2, .int x2), (3, .ref ao)]) dL_byteAt_13 (by decide) rfl ?_
  refine zz_iconst 15 X.1 (v := nI 1) dL_byteAt_15 rfl ?_
  rw [← hQ]
  refine zz_iret 16 X.1 hr rfl hlk (u0, o) ⟨rfl, rfl, rfl⟩ (fun _ h => fun _ => h) dL_byteAt_16

set_option maxHeartbeats 4000000 in
set_option maxRecDepth 100000 in
theorem wL_byteAt_x2 (l : Launch) (D : va_G) (C : Nat → ClassId) (cD : ClassId) (K adK adV : Nat → Nat) (ao : Nat) (hAp : DAp K) (hao : ¬ DAd K ao) (u : CSt) (o : Int64) (x1 : Int32) (x2 : Int32) {u0 : CSt} (hX : CX l yX6_byteAt wsX6_byteAt rx_X6_byteAt D C K 0 [.int x1, .int x2] u.1 u.2.1 u.2.2.1 u.2.2.2 "java/lang/IndexOutOfBoundsException" u0) : LM l yL_byteAt wsL_byteAt rw_byteAt D C cD K adK adV ao (OLn C ao) [.int x1, .int x2] u o (fun r q => r = nI 2 ∧ q.2 = o ∧ q.1 = u0) := by
  refine LM_of (lv := [(0, .ref (K 0)), (1, .int x1), (2, .int x2), (3, .ref ao)]) (cc := cL_byteAt) (maxL := 5) (ret := some .int) (hh := [(0, 10, 13, 19), (0, 10, 17, 25)]) rfl (by decide +kernel) (Nat.le_of_ble_eq_true rfl) rfl ?_
  intro p e s m args below meth c X hKd hAM hAS hNC ht hml hr hlk
  generalize hQ : MQ below _ args s 1 6 _ = Q
  refine zz_aload_n 0 X.1 3 dL_byteAt_0 rfl ?_
  refine zz_iconst 1 X.1 (v := nI 0) dL_byteAt_1 rfl ?_
  refine zz_aload_n 2 X.1 0 dL_byteAt_2 rfl ?_
  refine zz_iload_n 3 X.1 1 dL_byteAt_3 rfl ?_
  refine zz_iload_n 4 X.1 2 dL_byteAt_4 rfl ?_
  refine lm_callX 5 X hAM hml hao rfl (As := [.int x1, .int x2]) hX gL_byteAt_X6_byteAt rfl ⟨rfl, rfl⟩ yd_X6_byteAt ⟨Nat.le_of_ble_eq_true rfl, Nat.le_of_ble_eq_true rfl⟩ rfl rfl (Nat.le_of_ble_eq_true rfl) ⟨Nat.le_of_ble_eq_true rfl, Nat.le_of_ble_eq_true rfl⟩ dL_byteAt_5 [⟨0, 10, 13, 19⟩] ⟨0, 10, 17, 25⟩ [] ht (fun z hz => by cases List.mem_singleton.mp hz; exact Or.inr ⟨by decide, "java/lang/IllegalArgumentException", X.2.1 _ (by decide +kernel), hNC.1⟩) (by decide) (by decide) (name := "java/lang/IndexOutOfBoundsException") (by decide +kernel) (by decide +kernel) (hpc := 17) rfl ?_
  intro q9
  refine zz_astore 17 X.1 (lv' := [(4, .ref q9), (0, .ref (K 0)), (1, .int x1), (2, .int x2), (3, .ref ao)]) dL_byteAt_17 (by decide) rfl ?_
  refine zz_iconst 19 X.1 (v := nI 2) dL_byteAt_19 rfl ?_
  rw [← hQ]
  refine zz_iret 20 X.1 hr rfl hlk (u0, o) ⟨rfl, rfl, rfl⟩ (fun _ h => fun _ => h) dL_byteAt_20

abbrev rw_fingerprint : Room := { frames := 8, cells := 1, slots := 6, locals := 132 }
set_option maxHeartbeats 4000000 in
set_option maxRecDepth 100000 in
theorem wL_fingerprint_ok (l : Launch) (D : va_G) (C : Nat → ClassId) (cD : ClassId) (K adK adV : Nat → Nat) (ao : Nat) (hAp : DAp K) (hao : ¬ DAd K ao) (u : CSt) (o : Int64) (x1 : Int32) {postM : Int32 → CSt → Prop} (hM : CMi l yX6_fingerprint wsX6_fingerprint rm_X6_fingerprint D C K 0 [.int x1] u.1 u.2.1 u.2.2.1 u.2.2.2 postM) (rv : Int32) (CU : CSt → Prop) (hp : ∀ r q, postM r q → r = rv ∧ CU q) : LM l yL_fingerprint wsL_fingerprint rw_fingerprint D C cD K adK adV ao (OLn C ao) [.int x1] u o (fun r q => r = nI 0 ∧ q.2 = rv.toInt64 ∧ CU q.1) := by
  refine LM_of (lv := [(0, .ref (K 0)), (1, .int x1), (2, .ref ao)]) (cc := cL_fingerprint) (maxL := 4) (ret := some .int) (hh := [(0, 9, 12, 19)]) rfl (by decide +kernel) (Nat.le_of_ble_eq_true rfl) rfl ?_
  intro p e s m args below meth c X hKd hAM hAS hNC ht hml hr hlk
  generalize hQ : MQ below _ args s 1 6 _ = Q
  refine zz_aload_n 0 X.1 2 dL_fingerprint_0 rfl ?_
  refine zz_iconst 1 X.1 (v := nI 0) dL_fingerprint_1 rfl ?_
  refine zz_aload_n 2 X.1 0 dL_fingerprint_2 rfl ?_
  refine zz_iload_n 3 X.1 1 dL_fingerprint_3 rfl ?_
  refine lm_calli 4 X hml hao rfl (As := [.int x1]) hM gL_fingerprint_X6_fingerprint rfl ⟨rfl, rfl⟩ yd_X6_fingerprint ⟨Nat.le_of_ble_eq_true rfl, Nat.le_of_ble_eq_true rfl⟩ rfl rfl (Nat.le_of_ble_eq_true rfl) ⟨Nat.le_of_ble_eq_true rfl, Nat.le_of_ble_eq_true rfl⟩ dL_fingerprint_4 ?_
  intro r q hq
  obtain ⟨he, hc⟩ := hp r q hq
  rw [he]
  refine zz_i2l 7 X.1 dL_fingerprint_7 rfl ?_
  refine lm_lst 8 X hAp hao dL_fingerprint_8 ?_
  refine zz_goto 9 15 X.1 dL_fingerprint_9 (by decide) ?_
  refine zz_widen (k := 1) (j := 6) (Nat.le_of_ble_eq_true rfl) (Nat.le_of_ble_eq_true rfl) ?_
  refine zz_iconst 15 X.1 (v := nI 0) dL_fingerprint_15 rfl ?_
  rw [← hQ]
  refine zz_iret 16 X.1 hr rfl hlk (q, rv.toInt64) ⟨rfl, rfl, hc⟩ (fun _ h => fun _ => h) dL_fingerprint_16

set_option maxHeartbeats 4000000 in
set_option maxRecDepth 100000 in
theorem wL_fingerprint_x1 (l : Launch) (D : va_G) (C : Nat → ClassId) (cD : ClassId) (K adK adV : Nat → Nat) (ao : Nat) (hAp : DAp K) (hao : ¬ DAd K ao) (u : CSt) (o : Int64) (x1 : Int32) {u0 : CSt} (hX : CX l yX6_fingerprint wsX6_fingerprint rx_X6_fingerprint D C K 0 [.int x1] u.1 u.2.1 u.2.2.1 u.2.2.2 "java/lang/IllegalArgumentException" u0) : LM l yL_fingerprint wsL_fingerprint rw_fingerprint D C cD K adK adV ao (OLn C ao) [.int x1] u o (fun r q => r = nI 1 ∧ q.2 = o ∧ q.1 = u0) := by
  refine LM_of (lv := [(0, .ref (K 0)), (1, .int x1), (2, .ref ao)]) (cc := cL_fingerprint) (maxL := 4) (ret := some .int) (hh := [(0, 9, 12, 19)]) rfl (by decide +kernel) (Nat.le_of_ble_eq_true rfl) rfl ?_
  intro p e s m args below meth c X hKd hAM hAS hNC ht hml hr hlk
  generalize hQ : MQ below _ args s 1 6 _ = Q
  refine zz_aload_n 0 X.1 2 dL_fingerprint_0 rfl ?_
  refine zz_iconst 1 X.1 (v := nI 0) dL_fingerprint_1 rfl ?_
  refine zz_aload_n 2 X.1 0 dL_fingerprint_2 rfl ?_
  refine zz_iload_n 3 X.1 1 dL_fingerprint_3 rfl ?_
  refine lm_callX 4 X hAM hml hao rfl (As := [.int x1]) hX gL_fingerprint_X6_fingerprint rfl ⟨rfl, rfl⟩ yd_X6_fingerprint ⟨Nat.le_of_ble_eq_true rfl, Nat.le_of_ble_eq_true rfl⟩ rfl rfl (Nat.le_of_ble_eq_true rfl) ⟨Nat.le_of_ble_eq_true rfl, Nat.le_of_ble_eq_true rfl⟩ dL_fingerprint_4 [] ⟨0, 9, 12, 19⟩ [] ht (fun z hz => absurd hz List.not_mem_nil) (by decide) (by decide) (name := "java/lang/IllegalArgumentException") (by decide +kernel) (by decide +kernel) (hpc := 12) rfl ?_
  intro q9
  refine zz_astore_n 12 X.1 (lv' := [(3, .ref q9), (0, .ref (K 0)), (1, .int x1), (2, .ref ao)]) dL_fingerprint_12 (by decide) rfl ?_
  refine zz_iconst 13 X.1 (v := nI 1) dL_fingerprint_13 rfl ?_
  rw [← hQ]
  refine zz_iret 14 X.1 hr rfl hlk (u0, o) ⟨rfl, rfl, rfl⟩ (fun _ h => fun _ => h) dL_fingerprint_14

abbrev rw_has : Room := { frames := 9, cells := 1, slots := 6, locals := 157 }
set_option maxHeartbeats 4000000 in
set_option maxRecDepth 100000 in
theorem wL_has_ok (l : Launch) (D : va_G) (C : Nat → ClassId) (cD : ClassId) (K adK adV : Nat → Nat) (ao : Nat) (hAp : DAp K) (hao : ¬ DAd K ao) (u : CSt) (o : Int64) (x1 : Int32) (x2 : Int32) {postM : Int32 → CSt → Prop} (hM : CMi l yX6_has wsX6_has rm_X6_has D C K 0 [.int x1, .int x2] u.1 u.2.1 u.2.2.1 u.2.2.2 postM) (rv : Int32) (CU : CSt → Prop) (hp : ∀ r q, postM r q → r = rv ∧ CU q) : LM l yL_has wsL_has rw_has D C cD K adK adV ao (OLn C ao) [.int x1, .int x2] u o (fun r q => r = nI 0 ∧ q.2 = (if rv = 0 then 0 else 1 : Int64) ∧ CU q.1) := by
  refine LM_of (lv := [(0, .ref (K 0)), (1, .int x1), (2, .int x2), (3, .ref ao)]) (cc := cL_has) (maxL := 5) (ret := some .int) (hh := [(0, 17, 20, 19), (0, 17, 24, 25)]) rfl (by decide +kernel) (Nat.le_of_ble_eq_true rfl) rfl ?_
  intro p e s m args below meth c X hKd hAM hAS hNC ht hml hr hlk
  generalize hQ : MQ below _ args s 1 6 _ = Q
  refine zz_aload_n 0 X.1 3 dL_has_0 rfl ?_
  refine zz_iconst 1 X.1 (v := nI 0) dL_has_1 rfl ?_
  refine zz_aload_n 2 X.1 0 dL_has_2 rfl ?_
  refine zz_iload_n 3 X.1 1 dL_has_3 rfl ?_
  refine zz_iload_n 4 X.1 2 dL_has_4 rfl ?_
  refine lm_calli 5 X hml hao rfl (As := [.int x1, .int x2]) hM gL_has_X6_has rfl ⟨rfl, rfl⟩ yd_X6_has ⟨Nat.le_of_ble_eq_true rfl, Nat.le_of_ble_eq_true rfl⟩ rfl rfl (Nat.le_of_ble_eq_true rfl) ⟨Nat.le_of_ble_eq_true rfl, Nat.le_of_ble_eq_true rfl⟩ dL_has_5 ?_
  intro r q hq
  obtain ⟨he, hc⟩ := hp r q hq
  rw [he]
  refine zz_if_eq 8 15 X.1 rfl dL_has_8 (by decide) (fun h => ?_) (fun h => ?_)
  · refine zz_lconst 15 X.1 (v := 0) dL_has_15 (by decide) ?_
    refine lm_lst 16 X hAp hao dL_has_16 ?_
    refine zz_goto 17 28 X.1 dL_has_17 (by decide) ?_
    refine zz_widen (k := 1) (j := 6) (Nat.le_of_ble_eq_true rfl) (Nat.le_of_ble_eq_true rfl) ?_
    refine zz_iconst 28 X.1 (v := nI 0) dL_has_28 rfl ?_
    rw [← hQ]
    refine zz_iret 29 X.1 hr rfl hlk (q, 0) ⟨rfl, (if_pos (i32_z h)).symm, hc⟩ (fun _ h => fun _ => h) dL_has_29
  · refine zz_lconst 11 X.1 (v := 1) dL_has_11 (by decide) ?_
    refine zz_goto 12 16 X.1 dL_has_12 (by decide) ?_
    refine lm_lst 16 X hAp hao dL_has_16 ?_
    refine zz_goto 17 28 X.1 dL_has_17 (by decide) ?_
    refine zz_widen (k := 1) (j := 6) (Nat.le_of_ble_eq_true rfl) (Nat.le_of_ble_eq_true rfl) ?_
    refine zz_iconst 28 X.1 (v := nI 0) dL_has_28 rfl ?_
    rw [← hQ]
    refine zz_iret 29 X.1 hr rfl hlk (q, 1) ⟨rfl, (if_neg (fun z => h (by rw [z]; rfl))).symm, hc⟩ (fun _ h => fun _ => h) dL_has_29

set_option maxHeartbeats 4000000 in
set_option maxRecDepth 100000 in
theorem wL_has_x1 (l : Launch) (D : va_G) (C : Nat → ClassId) (cD : ClassId) (K adK adV : Nat → Nat) (ao : Nat) (hAp : DAp K) (hao : ¬ DAd K ao) (u : CSt) (o : Int64) (x1 : Int32) (x2 : Int32) {u0 : CSt} (hX : CX l yX6_has wsX6_has rx_X6_has D C K 0 [.int x1, .int x2] u.1 u.2.1 u.2.2.1 u.2.2.2 "java/lang/IllegalArgumentException" u0) : LM l yL_has wsL_has rw_has D C cD K adK adV ao (OLn C ao) [.int x1, .int x2] u o (fun r q => r = nI 1 ∧ q.2 = o ∧ q.1 = u0) := by
  refine LM_of (lv := [(0, .ref (K 0)), (1, .int x1), (2, .int x2), (3, .ref ao)]) (cc := cL_has) (maxL := 5) (ret := some .int) (hh := [(0, 17, 20, 19), (0, 17, 24, 25)]) rfl (by decide +kernel) (Nat.le_of_ble_eq_true rfl) rfl ?_
  intro p e s m args below meth c X hKd hAM hAS hNC ht hml hr hlk
  generalize hQ : MQ below _ args s 1 6 _ = Q
  refine zz_aload_n 0 X.1 3 dL_has_0 rfl ?_
  refine zz_iconst 1 X.1 (v := nI 0) dL_has_1 rfl ?_
  refine zz_aload_n 2 X.1 0 dL_has_2 rfl ?_
  refine zz_iload_n 3 X.1 1 dL_has_3 rfl ?_
  refine zz_iload_n 4 X.1 2 dL_has_4 rfl ?_
  refine lm_callX 5 X hAM hml hao rfl (As := [.int x1, .int x2]) hX gL_has_X6_has rfl ⟨rfl, rfl⟩ yd_X6_has ⟨Nat.le_of_ble_eq_true rfl, Nat.le_of_ble_eq_true rfl⟩ rfl rfl (Nat.le_of_ble_eq_true rfl) ⟨Nat.le_of_ble_eq_true rfl, Nat.le_of_ble_eq_true rfl⟩ dL_has_5 [] ⟨0, 17, 20, 19⟩ [⟨0, 17, 24, 25⟩] ht (fun z hz => absurd hz List.not_mem_nil) (by decide) (by decide) (name := "java/lang/IllegalArgumentException") (by decide +kernel) (by decide +kernel) (hpc := 20) rfl ?_
  intro q9
  refine zz_astore 20 X.1 (lv' := [(4, .ref q9), (0, .ref (K 0)), (1, .int x1), (2, .int x2), (3, .ref ao)]) dL_has_20 (by decide) rfl ?_
  refine zz_iconst 22 X.1 (v := nI 1) dL_has_22 rfl ?_
  rw [← hQ]
  refine zz_iret 23 X.1 hr rfl hlk (u0, o) ⟨rfl, rfl, rfl⟩ (fun _ h => fun _ => h) dL_has_23

set_option maxHeartbeats 4000000 in
set_option maxRecDepth 100000 in
theorem wL_has_x2 (l : Launch) (D : va_G) (C : Nat → ClassId) (cD : ClassId) (K adK adV : Nat → Nat) (ao : Nat) (hAp : DAp K) (hao : ¬ DAd K ao) (u : CSt) (o : Int64) (x1 : Int32) (x2 : Int32) {u0 : CSt} (hX : CX l yX6_has wsX6_has rx_X6_has D C K 0 [.int x1, .int x2] u.1 u.2.1 u.2.2.1 u.2.2.2 "java/lang/IndexOutOfBoundsException" u0) : LM l yL_has wsL_has rw_has D C cD K adK adV ao (OLn C ao) [.int x1, .int x2] u o (fun r q => r = nI 2 ∧ q.2 = o ∧ q.1 = u0) := by
  refine LM_of (lv := [(0, .ref (K 0)), (1, .int x1), (2, .int x2), (3, .ref ao)]) (cc := cL_has) (maxL := 5) (ret := some .int) (hh := [(0, 17, 20, 19), (0, 17, 24, 25)]) rfl (by decide +kernel) (Nat.le_of_ble_eq_true rfl) rfl ?_
  intro p e s m args below meth c X hKd hAM hAS hNC ht hml hr hlk
  generalize hQ : MQ below _ args s 1 6 _ = Q
  refine zz_aload_n 0 X.1 3 dL_has_0 rfl ?_
  refine zz_iconst 1 X.1 (v := nI 0) dL_has_1 rfl ?_
  refine zz_aload_n 2 X.1 0 dL_has_2 rfl ?_
  refine zz_iload_n 3 X.1 1 dL_has_3 rfl ?_
  refine zz_iload_n 4 X.1 2 dL_has_4 rfl ?_
  refine lm_callX 5 X hAM hml hao rfl (As := [.int x1, .int x2]) hX gL_has_X6_has rfl ⟨rfl, rfl⟩ yd_X6_has ⟨Nat.le_of_ble_eq_true rfl, Nat.le_of_ble_eq_true rfl⟩ rfl rfl (Nat.le_of_ble_eq_true rfl) ⟨Nat.le_of_ble_eq_true rfl, Nat.le_of_ble_eq_true rfl⟩ dL_has_5 [⟨0, 17, 20, 19⟩] ⟨0, 17, 24, 25⟩ [] ht (fun z hz => by cases List.mem_singleton.mp hz; exact Or.inr ⟨by decide, "java/lang/IllegalArgumentException", X.2.1 _ (by decide +kernel), hNC.1⟩) (by decide) (by decide) (name := "java/lang/IndexOutOfBoundsException") (by decide +kernel) (by decide +kernel) (hpc := 24) rfl ?_
  intro q9
  refine zz_astore 24 X.1 (lv' := [(4, .ref q9), (0, .ref (K 0)), (1, .int x1), (2, .int x2), (3, .ref ao)]) dL_has_24 (by decide) rfl ?_
  refine zz_iconst 26 X.1 (v := nI 2) dL_has_26 rfl ?_
  rw [← hQ]
  refine zz_iret 27 X.1 hr rfl hlk (u0, o) ⟨rfl, rfl, rfl⟩ (fun _ h => fun _ => h) dL_has_27

abbrev rw_count : Room := { frames := 8, cells := 1, slots := 6, locals := 132 }
set_option maxHeartbeats 4000000 in
set_option maxRecDepth 100000 in
theorem wL_count_ok (l : Launch) (D : va_G) (C : Nat → ClassId) (cD : ClassId) (K adK adV : Nat → Nat) (ao : Nat) (hAp : DAp K) (hao : ¬ DAd K ao) (u : CSt) (o : Int64) (x1 : Int32) {postM : Int32 → CSt → Prop} (hM : CMi l yX6_count wsX6_count rm_X6_count D C K 0 [.int x1] u.1 u.2.1 u.2.2.1 u.2.2.2 postM) (rv : Int32) (CU : CSt → Prop) (hp : ∀ r q, postM r q → r = rv ∧ CU q) : LM l yL_count wsL_count rw_count D C cD K adK adV ao (OLn C ao) [.int x1] u o (fun r q => r = nI 0 ∧ q.2 = rv.toInt64 ∧ CU q.1) := by
  refine LM_of (lv := [(0, .ref (K 0)), (1, .int x1), (2, .ref ao)]) (cc := cL_count) (maxL := 4) (ret := some .int) (hh := [(0, 9, 12, 19)]) rfl (by decide +kernel) (Nat.le_of_ble_eq_true rfl) rfl ?_
  intro p e s m args below meth c X hKd hAM hAS hNC ht hml hr hlk
  generalize hQ : MQ below _ args s 1 6 _ = Q
  refine zz_aload_n 0 X.1 2 dL_count_0 rfl ?_
  refine zz_iconst 1 X.1 (v := nI 0) dL_count_1 rfl ?_
  refine zz_aload_n 2 X.1 0 dL_count_2 rfl ?_
  refine zz_iload_n 3 X.1 1 dL_count_3 rfl ?_
  refine lm_calli 4 X hml hao rfl (As := [.int x1]) hM gL_count_X6_count rfl ⟨rfl, rfl⟩ yd_X6_count ⟨Nat.le_of_ble_eq_true rfl, Nat.le_of_ble_eq_true rfl⟩ rfl rfl (Nat.le_of_ble_eq_true rfl) ⟨Nat.le_of_ble_eq_true rfl, Nat.le_of_ble_eq_true rfl⟩ dL_count_4 ?_
  intro r q hq
  obtain ⟨he, hc⟩ := hp r q hq
  rw [he]
  refine zz_i2l 7 X.1 dL_count_7 rfl ?_
  refine lm_lst 8 X hAp hao dL_count_8 ?_
  refine zz_goto 9 15 X.1 dL_count_9 (by decide) ?_
  refine zz_widen (k := 1) (j := 6) (Nat.le_of_ble_eq_true rfl) (Nat.le_of_ble_eq_true rfl) ?_
  refine zz_iconst 15 X.1 (v := nI 0) dL_count_15 rfl ?_
  rw [← hQ]
  refine zz_iret 16 X.1 hr rfl hlk (q, rv.toInt64) ⟨rfl, rfl, hc⟩ (fun _ h => fun _ => h) dL_count_16

set_option maxHeartbeats 4000000 in
set_option maxRecDepth 100000 in
theorem wL_count_x1 (l : Launch) (D : va_G) (C : Nat → ClassId) (cD : ClassId) (K adK adV : Nat → Nat) (ao : Nat) (hAp : DAp K) (hao : ¬ DAd K ao) (u : CSt) (o : Int64) (x1 : Int32) {u0 : CSt} (hX : CX l yX6_count wsX6_count rx_X6_count D C K 0 [.int x1] u.1 u.2.1 u.2.2.1 u.2.2.2 "java/lang/IllegalArgumentException" u0) : LM l yL_count wsL_count rw_count D C cD K adK adV ao (OLn C ao) [.int x1] u o (fun r q => r = nI 1 ∧ q.2 = o ∧ q.1 = u0) := by
  refine LM_of (lv := [(0, .ref (K 0)), (1, .int x1), (2, .ref ao)]) (cc := cL_count) (maxL := 4) (ret := some .int) (hh := [(0, 9, 12, 19)]) rfl (by decide +kernel) (Nat.le_of_ble_eq_true rfl) rfl ?_
  intro p e s m args below meth c X hKd hAM hAS hNC ht hml hr hlk
  generalize hQ : MQ below _ args s 1 6 _ = Q
  refine zz_aload_n 0 X.1 2 dL_count_0 rfl ?_
  refine zz_iconst 1 X.1 (v := nI 0) dL_count_1 rfl ?_
  refine zz_aload_n 2 X.1 0 dL_count_2 rfl ?_
  refine zz_iload_n 3 X.1 1 dL_count_3 rfl ?_
  refine lm_callX 4 X hAM hml hao rfl (As := [.int x1]) hX gL_count_X6_count rfl ⟨rfl, rfl⟩ yd_X6_count ⟨Nat.le_of_ble_eq_true rfl, Nat.le_of_ble_eq_true rfl⟩ rfl rfl (Nat.le_of_ble_eq_true rfl) ⟨Nat.le_of_ble_eq_true rfl, Nat.le_of_ble_eq_true rfl⟩ dL_count_4 [] ⟨0, 9, 12, 19⟩ [] ht (fun z hz => absurd hz List.not_mem_nil) (by decide) (by decide) (name := "java/lang/IllegalArgumentException") (by decide +kernel) (by decide +kernel) (hpc := 12) rfl ?_
  intro q9
  refine zz_astore_n 12 X.1 (lv' := [(3, .ref q9), (0, .ref (K 0)), (1, .int x1), (2, .ref ao)]) dL_count_12 (by decide) rfl ?_
  refine zz_iconst 13 X.1 (v := nI 1) dL_count_13 rfl ?_
  rw [← hQ]
  refine zz_iret 14 X.1 hr rfl hlk (u0, o) ⟨rfl, rfl, rfl⟩ (fun _ h => fun _ => h) dL_count_14

abbrev rw_countIn : Room := { frames := 9, cells := 1, slots := 6, locals := 158 }
set_option maxHeartbeats 4000000 in
set_option maxRecDepth 100000 in
theorem wL_countIn_ok (l : Launch) (D : va_G) (C : Nat → ClassId) (cD : ClassId) (K adK adV : Nat → Nat) (ao : Nat) (hAp : DAp K) (hao : ¬ DAd K ao) (u : CSt) (o : Int64) (x1 : Int32) (x2 : Int32) (x3 : Int32) {postM : Int32 → CSt → Prop} (hM : CMi l yX6_countIn wsX6_countIn rm_X6_countIn D C K 0 [.int x1, .int x2, .int x3] u.1 u.2.1 u.2.2.1 u.2.2.2 postM) (rv : Int32) (CU : CSt → Prop) (hp : ∀ r q, postM r q → r = rv ∧ CU q) : LM l yL_countIn wsL_countIn rw_countIn D C cD K adK adV ao (OLn C ao) [.int x1, .int x2, .int x3] u o (fun r q => r = nI 0 ∧ q.2 = rv.toInt64 ∧ CU q.1) := by
  refine LM_of (lv := [(0, .ref (K 0)), (1, .int x1), (2, .int x2), (3, .int x3), (4, .ref ao)]) (cc := cL_countIn) (maxL := 6) (ret := some .int) (hh := [(0, 12, 15, 19), (0, 12, 19, 25)]) rfl (by decide +kernel) (Nat.le_of_ble_eq_true rfl) rfl ?_
  intro p e s m args below meth c X hKd hAM hAS hNC ht hml hr hlk
  generalize hQ : MQ below _ args s 1 6 _ = Q
  refine zz_aload 0 X.1 4 dL_countIn_0 rfl ?_
  refine zz_iconst 2 X.1 (v := nI 0) dL_countIn_2 rfl ?_
  refine zz_aload_n 3 X.1 0 dL_countIn_3 rfl ?_
  refine zz_iload_n 4 X.1 1 dL_countIn_4 rfl ?_
  refine zz_iload_n 5 X.1 2 dL_countIn_5 rfl ?_
  refine zz_iload_n 6 X.1 3 dL_countIn_6 rfl ?_
  refine lm_calli 7 X hml hao rfl (As := [.int x1, .int x2, .int x3]) hM gL_countIn_X6_countIn rfl ⟨rfl, rfl⟩ yd_X6_countIn ⟨Nat.le_of_ble_eq_true rfl, Nat.le_of_ble_eq_true rfl⟩ rfl rfl (Nat.le_of_ble_eq_true rfl) ⟨Nat.le_of_ble_eq_true rfl, Nat.le_of_ble_eq_true rfl⟩ dL_countIn_7 ?_
  intro r q hq
  obtain ⟨he, hc⟩ := hp r q hq
  rw [he]
  refine zz_i2l 10 X.1 dL_countIn_10 rfl ?_
  refine lm_lst 11 X hAp hao dL_countIn_11 ?_
  refine zz_goto 12 23 X.1 dL_countIn_12 (by decide) ?_
  refine zz_widen (k := 1) (j := 6) (Nat.le_of_ble_eq_true rfl) (Nat.le_of_ble_eq_true rfl) ?_
  refine zz_iconst 23 X.1 (v := nI 0) dL_countIn_23 rfl ?_
  rw [← hQ]
  refine zz_iret 24 X.1 hr rfl hlk (q, rv.toInt64) ⟨rfl, rfl, hc⟩ (fun _ h => fun _ => h) dL_countIn_24

set_option maxHeartbeats 4000000 in
set_option maxRecDepth 100000 in
theorem wL_countIn_x1 (l : Launch) (D : va_G) (C : Nat → ClassId) (cD : ClassId) (K adK adV : Nat → Nat) (ao : Nat) (hAp : DAp K) (hao : ¬ DAd K ao) (u : CSt) (o : Int64) (x1 : Int32) (x2 : Int32) (x3 : Int32) {u0 : CSt} (hX : CX l yX6_countIn wsX6_countIn rx_X6_countIn D C K 0 [.int x1, .int x2, .int x3] u.1 u.2.1 u.2.2.1 u.2.2.2 "java/lang/IllegalArgumentException" u0) : LM l yL_countIn wsL_countIn rw_countIn D C cD K adK adV ao (OLn C ao) [.int x1, .int x2, .int x3] u o (fun r q => r = nI 1 ∧ q.2 = o ∧ q.1 = u0) := by
  refine LM_of (lv := [(0, .ref (K 0)), (1, .int x1), (2, .int x2), (3, .int x3), (4, .ref ao)]) (cc := cL_countIn) (maxL := 6) (ret := some .int) (hh := [(0, 12, 15, 19), (0, 12, 19, 25)]) rfl (by decide +kernel) (Nat.le_of_ble_eq_true rfl) rfl ?_
  intro p e s m args below meth c X hKd hAM hAS hNC ht hml hr hlk
  generalize hQ : MQ below _ args s 1 6 _ = Q
  refine zz_aload 0 X.1 4 dL_countIn_0 rfl ?_
  refine zz_iconst 2 X.1 (v := nI 0) dL_countIn_2 rfl ?_
  refine zz_aload_n 3 X.1 0 dL_countIn_3 rfl ?_
  refine zz_iload_n 4 X.1 1 dL_countIn_4 rfl ?_
  refine zz_iload_n 5 X.1 2 dL_countIn_5 rfl ?_
  refine zz_iload_n 6 X.1 3 dL_countIn_6 rfl ?_
  refine lm_callX 7 X hAM hml hao rfl (As := [.int x1, .int x2, .int x3]) hX gL_countIn_X6_countIn rfl ⟨rfl, rfl⟩ yd_X6_countIn ⟨Nat.le_of_ble_eq_true rfl, Nat.le_of_ble_eq_true rfl⟩ rfl rfl (Nat.le_of_ble_eq_true rfl) ⟨Nat.le_of_ble_eq_true rfl, Nat.le_of_ble_eq_true rfl⟩ dL_countIn_7 [] ⟨0, 12, 15, 19⟩ [⟨0, 12, 19, 25⟩] ht (fun z hz => absurd hz List.not_mem_nil) (by decide) (by decide) (name := "java/lang/IllegalArgumentException") (by decide +kernel) (by decide +kernel) (hpc := 15) rfl ?_
  intro q9
  refine zz_astore 15 X.1 (lv' := [(5, .ref q9), (0, .ref (K 0)), (1, .int x1), (2, .int x2), (3, .int x3), (4, .ref ao)]) dL_countIn_15 (by decide) rfl ?_
  refine zz_iconst 17 X.1 (v := nI 1) dL_countIn_17 rfl ?_
  rw [← hQ]
  refine zz_iret 18 X.1 hr rfl hlk (u0, o) ⟨rfl, rfl, rfl⟩ (fun _ h => fun _ => h) dL_countIn_18

set_option maxHeartbeats 4000000 in
set_option maxRecDepth 100000 in
theorem wL_countIn_x2 (l : Launch) (D : va_G) (C : Nat → ClassId) (cD : ClassId) (K adK adV : Nat → Nat) (ao : Nat) (hAp : DAp K) (hao : ¬ DAd K ao) (u : CSt) (o : Int64) (x1 : Int32) (x2 : Int32) (x3 : Int32) {u0 : CSt} (hX : CX l yX6_countIn wsX6_countIn rx_X6_countIn D C K 0 [.int x1, .int x2, .int x3] u.1 u.2.1 u.2.2.1 u.2.2.2 "java/lang/IndexOutOfBoundsException" u0) : LM l yL_countIn wsL_countIn rw_countIn D C cD K adK adV ao (OLn C ao) [.int x1, .int x2, .int x3] u o (fun r q => r = nI 2 ∧ q.2 = o ∧ q.1 = u0) := by
  refine LM_of (lv := [(0, .ref (K 0)), (1, .int x1), (2, .int x2), (3, .int x3), (4, .ref ao)]) (cc := cL_countIn) (maxL := 6) (ret := some .int) (hh := [(0, 12, 15, 19), (0, 12, 19, 25)]) rfl (by decide +kernel) (Nat.le_of_ble_eq_true rfl) rfl ?_
  intro p e s m args below meth c X hKd hAM hAS hNC ht hml hr hlk
  generalize hQ : MQ below _ args s 1 6 _ = Q
  refine zz_aload 0 X.1 4 dL_countIn_0 rfl ?_
  refine zz_iconst 2 X.1 (v := nI 0) dL_countIn_2 rfl ?_
  refine zz_aload_n 3 X.1 0 dL_countIn_3 rfl ?_
  refine zz_iload_n 4 X.1 1 dL_countIn_4 rfl ?_
  refine zz_iload_n 5 X.1 2 dL_countIn_5 rfl ?_
  refine zz_iload_n 6 X.1 3 dL_countIn_6 rfl ?_
  refine lm_callX 7 X hAM hml hao rfl (As := [.int x1, .int x2, .int x3]) hX gL_countIn_X6_countIn rfl ⟨rfl, rfl⟩ yd_X6_countIn ⟨Nat.le_of_ble_eq_true rfl, Nat.le_of_ble_eq_true rfl⟩ rfl rfl (Nat.le_of_ble_eq_true rfl) ⟨Nat.le_of_ble_eq_true rfl, Nat.le_of_ble_eq_true rfl⟩ dL_countIn_7 [⟨0, 12, 15, 19⟩] ⟨0, 12, 19, 25⟩ [] ht (fun z hz => by cases List.mem_singleton.mp hz; exact Or.inr ⟨by decide, "java/lang/IllegalArgumentException", X.2.1 _ (by decide +kernel), hNC.1⟩) (by decide) (by decide) (name := "java/lang/IndexOutOfBoundsException") (by decide +kernel) (by decide +kernel) (hpc := 19) rfl ?_
  intro q9
  refine zz_astore 19 X.1 (lv' := [(5, .ref q9), (0, .ref (K 0)), (1, .int x1), (2, .int x2), (3, .int x3), (4, .ref ao)]) dL_countIn_19 (by decide) rfl ?_
  refine zz_iconst 21 X.1 (v := nI 2) dL_countIn_21 rfl ?_
  rw [← hQ]
  refine zz_iret 22 X.1 hr rfl hlk (u0, o) ⟨rfl, rfl, rfl⟩ (fun _ h => fun _ => h) dL_countIn_22

abbrev rw_length : Room := { frames := 8, cells := 1, slots := 6, locals := 132 }
set_option maxHeartbeats 4000000 in
set_option maxRecDepth 100000 in
theorem wL_length_ok (l : Launch) (D : va_G) (C : Nat → ClassId) (cD : ClassId) (K adK adV : Nat → Nat) (ao : Nat) (hAp : DAp K) (hao : ¬ DAd K ao) (u : CSt) (o : Int64) (x1 : Int32) {postM : Int32 → CSt → Prop} (hM : CMi l yX6_length wsX6_length rm_X6_length D C K 0 [.int x1] u.1 u.2.1 u.2.2.1 u.2.2.2 postM) (rv : Int32) (CU : CSt → Prop) (hp : ∀ r q, postM r q → r = rv ∧ CU q) : LM l yL_length wsL_length rw_length D C cD K adK adV ao (OLn C ao) [.int x1] u o (fun r q => r = nI 0 ∧ q.2 = rv.toInt64 ∧ CU q.1) := by
  refine LM_of (lv := [(0, .ref (K 0)), (1, .int x1), (2, .ref ao)]) (cc := cL_length) (maxL := 4) (ret := some .int) (hh := [(0, 9, 12, 19)]) rfl (by decide +kernel) (Nat.le_of_ble_eq_true rfl) rfl ?_
  intro p e s m args below meth c X hKd hAM hAS hNC ht hml hr hlk
  generalize hQ : MQ below _ args s 1 6 _ = Q
  refine zz_aload_n 0 X.1 2 dL_length_0 rfl ?_
  refine zz_iconst 1 X.1 (v := nI 0) dL_length_1 rfl ?_
  refine zz_aload_n 2 X.1 0 dL_length_2 rfl ?_
  refine zz_iload_n 3 X.1 1 dL_length_3 rfl ?_
  refine lm_calli 4 X hml hao rfl (As := [.int x1]) hM gL_length_X6_length rfl ⟨rfl, rfl⟩ yd_X6_length ⟨Nat.le_of_ble_eq_true rfl, Nat.le_of_ble_eq_true rfl⟩ rfl rfl (Nat.le_of_ble_eq_true rfl) ⟨Nat.le_of_ble_eq_true rfl, Nat.le_of_ble_eq_true rfl⟩ dL_length_4 ?_
  intro r q hq
  obtain ⟨he, hc⟩ := hp r q hq
  rw [he]
  refine zz_i2l 7 X.1 dL_length_7 rfl ?_
  refine lm_lst 8 X hAp hao dL_length_8 ?_
  refine zz_goto 9 15 X.1 dL_length_9 (by decide) ?_
  refine zz_widen (k := 1) (j := 6) (Nat.le_of_ble_eq_true rfl) (Nat.le_of_ble_eq_true rfl) ?_
  refine zz_iconst 15 X.1 (v := nI 0) dL_length_15 rfl ?_
  rw [← hQ]
  refine zz_iret 16 X.1 hr rfl hlk (q, rv.toInt64) ⟨rfl, rfl, hc⟩ (fun _ h => fun _ => h) dL_length_16

set_option maxHeartbeats 4000000 in
set_option maxRecDepth 100000 in
theorem wL_length_x1 (l : Launch) (D : va_G) (C : Nat → ClassId) (cD : ClassId) (K adK adV : Nat → Nat) (ao : Nat) (hAp : DAp K) (hao : ¬ DAd K ao) (u : CSt) (o : Int64) (x1 : Int32) {u0 : CSt} (hX : CX l yX6_length wsX6_length rx_X6_length D C K 0 [.int x1] u.1 u.2.1 u.2.2.1 u.2.2.2 "java/lang/IllegalArgumentException" u0) : LM l yL_length wsL_length rw_length D C cD K adK adV ao (OLn C ao) [.int x1] u o (fun r q => r = nI 1 ∧ q.2 = o ∧ q.1 = u0) := by
  refine LM_of (lv := [(0, .ref (K 0)), (1, .int x1), (2, .ref ao)]) (cc := cL_length) (maxL := 4) (ret := some .int) (hh := [(0, 9, 12, 19)]) rfl (by decide +kernel) (Nat.le_of_ble_eq_true rfl) rfl ?_
  intro p e s m args below meth c X hKd hAM hAS hNC ht hml hr hlk
  generalize hQ : MQ below _ args s 1 6 _ = Q
  refine zz_aload_n 0 X.1 2 dL_length_0 rfl ?_
  refine zz_iconst 1 X.1 (v := nI 0) dL_length_1 rfl ?_
  refine zz_aload_n 2 X.1 0 dL_length_2 rfl ?_
  refine zz_iload_n 3 X.1 1 dL_length_3 rfl ?_
  refine lm_callX 4 X hAM hml hao rfl (As := [.int x1]) hX gL_length_X6_length rfl ⟨rfl, rfl⟩ yd_X6_length ⟨Nat.le_of_ble_eq_true rfl, Nat.le_of_ble_eq_true rfl⟩ rfl rfl (Nat.le_of_ble_eq_true rfl) ⟨Nat.le_of_ble_eq_true rfl, Nat.le_of_ble_eq_true rfl⟩ dL_length_4 [] ⟨0, 9, 12, 19⟩ [] ht (fun z hz => absurd hz List.not_mem_nil) (by decide) (by decide) (name := "java/lang/IllegalArgumentException") (by decide +kernel) (by decide +kernel) (hpc := 12) rfl ?_
  intro q9
  refine zz_astore_n 12 X.1 (lv' := [(3, .ref q9), (0, .ref (K 0)), (1, .int x1), (2, .ref ao)]) dL_length_12 (by decide) rfl ?_
  refine zz_iconst 13 X.1 (v := nI 1) dL_length_13 rfl ?_
  rw [← hQ]
  refine zz_iret 14 X.1 hr rfl hlk (u0, o) ⟨rfl, rfl, rfl⟩ (fun _ h => fun _ => h) dL_length_14

abbrev rw_isEmpty : Room := { frames := 8, cells := 1, slots := 6, locals := 132 }
set_option maxHeartbeats 4000000 in
set_option maxRecDepth 100000 in
theorem wL_isEmpty_ok (l : Launch) (D : va_G) (C : Nat → ClassId) (cD : ClassId) (K adK adV : Nat → Nat) (ao : Nat) (hAp : DAp K) (hao : ¬ DAd K ao) (u : CSt) (o : Int64) (x1 : Int32) {postM : Int32 → CSt → Prop} (hM : CMi l yX6_isEmpty wsX6_isEmpty rm_X6_isEmpty D C K 0 [.int x1] u.1 u.2.1 u.2.2.1 u.2.2.2 postM) (rv : Int32) (CU : CSt → Prop) (hp : ∀ r q, postM r q → r = rv ∧ CU q) : LM l yL_isEmpty wsL_isEmpty rw_isEmpty D C cD K adK adV ao (OLn C ao) [.int x1] u o (fun r q => r = nI 0 ∧ q.2 = (if rv = 0 then 0 else 1 : Int64) ∧ CU q.1) := by
  refine LM_of (lv := [(0, .ref (K 0)), (1, .int x1), (2, .ref ao)]) (cc := cL_isEmpty) (maxL := 4) (ret := some .int) (hh := [(0, 16, 19, 19)]) rfl (by decide +kernel) (Nat.le_of_ble_eq_true rfl) rfl ?_
  intro p e s m args below meth c X hKd hAM hAS hNC ht hml hr hlk
  generalize hQ : MQ below _ args s 1 6 _ = Q
  refine zz_aload_n 0 X.1 2 dL_isEmpty_0 rfl ?_
  refine zz_iconst 1 X.1 (v := nI 0) dL_isEmpty_1 rfl ?_
  refine zz_aload_n 2 X.1 0 dL_isEmpty_2 rfl ?_
  refine zz_iload_n 3 X.1 1 dL_isEmpty_3 rfl ?_
  refine lm_calli 4 X hml hao rfl (As := [.int x1]) hM gL_isEmpty_X6_isEmpty rfl ⟨rfl, rfl⟩ yd_X6_isEmpty ⟨Nat.le_of_ble_eq_true rfl, Nat.le_of_ble_eq_true rfl⟩ rfl rfl (Nat.le_of_ble_eq_true rfl) ⟨Nat.le_of_ble_eq_true rfl, Nat.le_of_ble_eq_true rfl⟩ dL_isEmpty_4 ?_
  intro r q hq
  obtain ⟨he, hc⟩ := hp r q hq
  rw [he]
  refine zz_if_eq 7 14 X.1 rfl dL_isEmpty_7 (by decide) (fun h => ?_) (fun h => ?_)
  · refine zz_lconst 14 X.1 (v := 0) dL_isEmpty_14 (by decide) ?_
    refine lm_lst 15 X hAp hao dL_isEmpty_15 ?_
    refine zz_goto 16 22 X.1 dL_isEmpty_16 (by decide) ?_
    refine zz_widen (k := 1) (j := 6) (Nat.le_of_ble_eq_true rfl) (Nat.le_of_ble_eq_true rfl) ?_
    refine zz_iconst 22 X.1 (v := nI 0) dL_isEmpty_22 rfl ?_
    rw [← hQ]
    refine zz_iret 23 X.1 hr rfl hlk (q, 0) ⟨rfl, (if_pos (i32_z h)).symm, hc⟩ (fun _ h => fun _ => h) dL_isEmpty_23
  · refine zz_lconst 10 X.1 (v := 1) dL_isEmpty_10 (by decide) ?_
    refine zz_goto 11 15 X.1 dL_isEmpty_11 (by decide) ?_
    refine lm_lst 15 X hAp hao dL_isEmpty_15 ?_
    refine zz_goto 16 22 X.1 dL_isEmpty_16 (by decide) ?_
    refine zz_widen (k := 1) (j := 6) (Nat.le_of_ble_eq_true rfl) (Nat.le_of_ble_eq_true rfl) ?_
    refine zz_iconst 22 X.1 (v := nI 0) dL_isEmpty_22 rfl ?_
    rw [← hQ]
    refine zz_iret 23 X.1 hr rfl hlk (q, 1) ⟨rfl, (if_neg (fun z => h (by rw [z]; rfl))).symm, hc⟩ (fun _ h => fun _ => h) dL_isEmpty_23

set_option maxHeartbeats 4000000 in
set_option maxRecDepth 100000 in
theorem wL_isEmpty_x1 (l : Launch) (D : va_G) (C : Nat → ClassId) (cD : ClassId) (K adK adV : Nat → Nat) (ao : Nat) (hAp : DAp K) (hao : ¬ DAd K ao) (u : CSt) (o : Int64) (x1 : Int32) {u0 : CSt} (hX : CX l yX6_isEmpty wsX6_isEmpty rx_X6_isEmpty D C K 0 [.int x1] u.1 u.2.1 u.2.2.1 u.2.2.2 "java/lang/IllegalArgumentException" u0) : LM l yL_isEmpty wsL_isEmpty rw_isEmpty D C cD K adK adV ao (OLn C ao) [.int x1] u o (fun r q => r = nI 1 ∧ q.2 = o ∧ q.1 = u0) := by
  refine LM_of (lv := [(0, .ref (K 0)), (1, .int x1), (2, .ref ao)]) (cc := cL_isEmpty) (maxL := 4) (ret := some .int) (hh := [(0, 16, 19, 19)]) rfl (by decide +kernel) (Nat.le_of_ble_eq_true rfl) rfl ?_
  intro p e s m args below meth c X hKd hAM hAS hNC ht hml hr hlk
  generalize hQ : MQ below _ args s 1 6 _ = Q
  refine zz_aload_n 0 X.1 2 dL_isEmpty_0 rfl ?_
  refine zz_iconst 1 X.1 (v := nI 0) dL_isEmpty_1 rfl ?_
  refine zz_aload_n 2 X.1 0 dL_isEmpty_2 rfl ?_
  refine zz_iload_n 3 X.1 1 dL_isEmpty_3 rfl ?_
  refine lm_callX 4 X hAM hml hao rfl (As := [.int x1]) hX gL_isEmpty_X6_isEmpty rfl ⟨rfl, rfl⟩ yd_X6_isEmpty ⟨Nat.le_of_ble_eq_true rfl, Nat.le_of_ble_eq_true rfl⟩ rfl rfl (Nat.le_of_ble_eq_true rfl) ⟨Nat.le_of_ble_eq_true rfl, Nat.le_of_ble_eq_true rfl⟩ dL_isEmpty_4 [] ⟨0, 16, 19, 19⟩ [] ht (fun z hz => absurd hz List.not_mem_nil) (by decide) (by decide) (name := "java/lang/IllegalArgumentException") (by decide +kernel) (by decide +kernel) (hpc := 19) rfl ?_
  intro q9
  refine zz_astore_n 19 X.1 (lv' := [(3, .ref q9), (0, .ref (K 0)), (1, .int x1), (2, .ref ao)]) dL_isEmpty_19 (by decide) rfl ?_
  refine zz_iconst 20 X.1 (v := nI 1) dL_isEmpty_20 rfl ?_
  rw [← hQ]
  refine zz_iret 21 X.1 hr rfl hlk (u0, o) ⟨rfl, rfl, rfl⟩ (fun _ h => fun _ => h) dL_isEmpty_21

abbrev rw_isRoomy : Room := { frames := 8, cells := 1, slots := 6, locals := 132 }
set_option maxHeartbeats 4000000 in
set_option maxRecDepth 100000 in
theorem wL_isRoomy_ok (l : Launch) (D : va_G) (C : Nat → ClassId) (cD : ClassId) (K adK adV : Nat → Nat) (ao : Nat) (hAp : DAp K) (hao : ¬ DAd K ao) (u : CSt) (o : Int64) (x1 : Int32) {postM : Int32 → CSt → Prop} (hM : CMi l yX6_isRoomy wsX6_isRoomy rm_X6_isRoomy D C K 0 [.int x1] u.1 u.2.1 u.2.2.1 u.2.2.2 postM) (rv : Int32) (CU : CSt → Prop) (hp : ∀ r q, postM r q → r = rv ∧ CU q) : LM l yL_isRoomy wsL_isRoomy rw_isRoomy D C cD K adK adV ao (OLn C ao) [.int x1] u o (fun r q => r = nI 0 ∧ q.2 = (if rv = 0 then 0 else 1 : Int64) ∧ CU q.1) := by
  refine LM_of (lv := [(0, .ref (K 0)), (1, .int x1), (2, .ref ao)]) (cc := cL_isRoomy) (maxL := 4) (ret := some .int) (hh := [(0, 16, 19, 19)]) rfl (by decide +kernel) (Nat.le_of_ble_eq_true rfl) rfl ?_
  intro p e s m args below meth c X hKd hAM hAS hNC ht hml hr hlk
  generalize hQ : MQ below _ args s 1 6 _ = Q
  refine zz_aload_n 0 X.1 2 dL_isRoomy_0 rfl ?_
  refine zz_iconst 1 X.1 (v := nI 0) dL_isRoomy_1 rfl ?_
  refine zz_aload_n 2 X.1 0 dL_isRoomy_2 rfl ?_
  refine zz_iload_n 3 X.1 1 dL_isRoomy_3 rfl ?_
  refine lm_calli 4 X hml hao rfl (As := [.int x1]) hM gL_isRoomy_X6_isRoomy rfl ⟨rfl, rfl⟩ yd_X6_isRoomy ⟨Nat.le_of_ble_eq_true rfl, Nat.le_of_ble_eq_true rfl⟩ rfl rfl (Nat.le_of_ble_eq_true rfl) ⟨Nat.le_of_ble_eq_true rfl, Nat.le_of_ble_eq_true rfl⟩ dL_isRoomy_4 ?_
  intro r q hq
  obtain ⟨he, hc⟩ := hp r q hq
  rw [he]
  refine zz_if_eq 7 14 X.1 rfl dL_isRoomy_7 (by decide) (fun h => ?_) (fun h => ?_)
  · refine zz_lconst 14 X.1 (v := 0) dL_isRoomy_14 (by decide) ?_
    refine lm_lst 15 X hAp hao dL_isRoomy_15 ?_
    refine zz_goto 16 22 X.1 dL_isRoomy_16 (by decide) ?_
    refine zz_widen (k := 1) (j := 6) (Nat.le_of_ble_eq_true rfl) (Nat.le_of_ble_eq_true rfl) ?_
    refine zz_iconst 22 X.1 (v := nI 0) dL_isRoomy_22 rfl ?_
    rw [← hQ]
    refine zz_iret 23 X.1 hr rfl hlk (q, 0) ⟨rfl, (if_pos (i32_z h)).symm, hc⟩ (fun _ h => fun _ => h) dL_isRoomy_23
  · refine zz_lconst 10 X.1 (v := 1) dL_isRoomy_10 (by decide) ?_
    refine zz_goto 11 15 X.1 dL_isRoomy_11 (by decide) ?_
    refine lm_lst 15 X hAp hao dL_isRoomy_15 ?_
    refine zz_goto 16 22 X.1 dL_isRoomy_16 (by decide) ?_
    refine zz_widen (k := 1) (j := 6) (Nat.le_of_ble_eq_true rfl) (Nat.le_of_ble_eq_true rfl) ?_
    refine zz_iconst 22 X.1 (v := nI 0) dL_isRoomy_22 rfl ?_
    rw [← hQ]
    refine zz_iret 23 X.1 hr rfl hlk (q, 1) ⟨rfl, (if_neg (fun z => h (by rw [z]; rfl))).symm, hc⟩ (fun _ h => fun _ => h) dL_isRoomy_23

set_option maxHeartbeats 4000000 in
set_option maxRecDepth 100000 in
theorem wL_isRoomy_x1 (l : Launch) (D : va_G) (C : Nat → ClassId) (cD : ClassId) (K adK adV : Nat → Nat) (ao : Nat) (hAp : DAp K) (hao : ¬ DAd K ao) (u : CSt) (o : Int64) (x1 : Int32) {u0 : CSt} (hX : CX l yX6_isRoomy wsX6_isRoomy rx_X6_isRoomy D C K 0 [.int x1] u.1 u.2.1 u.2.2.1 u.2.2.2 "java/lang/IllegalArgumentException" u0) : LM l yL_isRoomy wsL_isRoomy rw_isRoomy D C cD K adK adV ao (OLn C ao) [.int x1] u o (fun r q => r = nI 1 ∧ q.2 = o ∧ q.1 = u0) := by
  refine LM_of (lv := [(0, .ref (K 0)), (1, .int x1), (2, .ref ao)]) (cc := cL_isRoomy) (maxL := 4) (ret := some .int) (hh := [(0, 16, 19, 19)]) rfl (by decide +kernel) (Nat.le_of_ble_eq_true rfl) rfl ?_
  intro p e s m args below meth c X hKd hAM hAS hNC ht hml hr hlk
  generalize hQ : MQ below _ args s 1 6 _ = Q
  refine zz_aload_n 0 X.1 2 dL_isRoomy_0 rfl ?_
  refine zz_iconst 1 X.1 (v := nI 0) dL_isRoomy_1 rfl ?_
  refine zz_aload_n 2 X.1 0 dL_isRoomy_2 rfl ?_
  refine zz_iload_n 3 X.1 1 dL_isRoomy_3 rfl ?_
  refine lm_callX 4 X hAM hml hao rfl (As := [.int x1]) hX gL_isRoomy_X6_isRoomy rfl ⟨rfl, rfl⟩ yd_X6_isRoomy ⟨Nat.le_of_ble_eq_true rfl, Nat.le_of_ble_eq_true rfl⟩ rfl rfl (Nat.le_of_ble_eq_true rfl) ⟨Nat.le_of_ble_eq_true rfl, Nat.le_of_ble_eq_true rfl⟩ dL_isRoomy_4 [] ⟨0, 16, 19, 19⟩ [] ht (fun z hz => absurd hz List.not_mem_nil) (by decide) (by decide) (name := "java/lang/IllegalArgumentException") (by decide +kernel) (by decide +kernel) (hpc := 19) rfl ?_
  intro q9
  refine zz_astore_n 19 X.1 (lv' := [(3, .ref q9), (0, .ref (K 0)), (1, .int x1), (2, .ref ao)]) dL_isRoomy_19 (by decide) rfl ?_
  refine zz_iconst 20 X.1 (v := nI 1) dL_isRoomy_20 rfl ?_
  rw [← hQ]
  refine zz_iret 21 X.1 hr rfl hlk (u0, o) ⟨rfl, rfl, rfl⟩ (fun _ h => fun _ => h) dL_isRoomy_21

abbrev rw_next : Room := { frames := 9, cells := 1, slots := 6, locals := 157 }
set_option maxHeartbeats 4000000 in
set_option maxRecDepth 100000 in
theorem wL_next_ok (l : Launch) (D : va_G) (C : Nat → ClassId) (cD : ClassId) (K adK adV : Nat → Nat) (ao : Nat) (hAp : DAp K) (hao : ¬ DAd K ao) (u : CSt) (o : Int64) (x1 : Int32) (x2 : Int32) {postM : Int32 → CSt → Prop} (hM : CMi l yX6_next wsX6_next rm_X6_next D C K 0 [.int x1, .int x2] u.1 u.2.1 u.2.2.1 u.2.2.2 postM) (rv : Int32) (CU : CSt → Prop) (hp : ∀ r q, postM r q → r = rv ∧ CU q) : LM l yL_next wsL_next rw_next D C cD K adK adV ao (OLn C ao) [.int x1, .int x2] u o (fun r q => r = nI 0 ∧ q.2 = rv.toInt64 ∧ CU q.1) := by
  refine LM_of (lv := [(0, .ref (K 0)), (1, .int x1), (2, .int x2), (3, .ref ao)]) (cc := cL_next) (maxL := 5) (ret := some .int) (hh := [(0, 10, 13, 19), (0, 10, 17, 25)]) rfl (by decide +kernel) (Nat.le_of_ble_eq_true rfl) rfl ?_
  intro p e s m args below meth c X hKd hAM hAS hNC ht hml hr hlk
  generalize hQ : MQ below _ args s 1 6 _ = Q
  refine zz_aload_n 0 X.1 3 dL_next_0 rfl ?_
  refine zz_iconst 1 X.1 (v := nI 0) dL_next_1 rfl ?_
  refine zz_aload_n 2 X.1 0 dL_next_2 rfl ?_
  refine zz_iload_n 3 X.1 1 dL_next_3 rfl ?_
  refine zz_iload_n 4 X.1 2 dL_next_4 rfl ?_
  refine lm_calli 5 X hml hao rfl (As := [.int x1, .int x2]) hM gL_next_X6_next rfl ⟨rfl, rfl⟩ yd_X6_next ⟨Nat.le_of_ble_eq_true rfl, Nat.le_of_ble_eq_true rfl⟩ rfl rfl (Nat.le_of_ble_eq_true rfl) ⟨Nat.le_of_ble_eq_true rfl, Nat.le_of_ble_eq_true rfl⟩ dL_next_5 ?_
  intro r q hq
  obtain ⟨he, hc⟩ := hp r q hq
  rw [he]
  refine zz_i2l 8 X.1 dL_next_8 rfl ?_
  refine lm_lst 9 X hAp hao dL_next_9 ?_
  refine zz_goto 10 21 X.1 dL_next_10 (by decide) ?_
  refine zz_widen (k := 1) (j := 6) (Nat.le_of_ble_eq_true rfl) (Nat.le_of_ble_eq_true rfl) ?_
  refine zz_iconst 21 X.1 (v := nI 0) dL_next_21 rfl ?_
  rw [← hQ]
  refine zz_iret 22 X.1 hr rfl hlk (q, rv.toInt64) ⟨rfl, rfl, hc⟩ (fun _ h => fun _ => h) dL_next_22

set_option maxHeartbeats 4000000 in
set_option maxRecDepth 100000 in
theorem wL_next_x1 (l : Launch) (D : va_G) (C : Nat → ClassId) (cD : ClassId) (K adK adV : Nat → Nat) (ao : Nat) (hAp : DAp K) (hao : ¬ DAd K ao) (u : CSt) (o : Int64) (x1 : Int32) (x2 : Int32) {u0 : CSt} (hX : CX l yX6_next wsX6_next rx_X6_next D C K 0 [.int x1, .int x2] u.1 u.2.1 u.2.2.1 u.2.2.2 "java/lang/IllegalArgumentException" u0) : LM l yL_next wsL_next rw_next D C cD K adK adV ao (OLn C ao) [.int x1, .int x2] u o (fun r q => r = nI 1 ∧ q.2 = o ∧ q.1 = u0) := by
  refine LM_of (lv := [(0, .ref (K 0)), (1, .int x1), (2, .int x2), (3, .ref ao)]) (cc := cL_next) (maxL := 5) (ret := some .int) (hh := [(0, 10, 13, 19), (0, 10, 17, 25)]) rfl (by decide +kernel) (Nat.le_of_ble_eq_true rfl) rfl ?_
  intro p e s m args below meth c X hKd hAM hAS hNC ht hml hr hlk
  generalize hQ : MQ below _ args s 1 6 _ = Q
  refine zz_aload_n 0 X.1 3 dL_next_0 rfl ?_
  refine zz_iconst 1 X.1 (v := nI 0) dL_next_1 rfl ?_
  refine zz_aload_n 2 X.1 0 dL_next_2 rfl ?_
  refine zz_iload_n 3 X.1 1 dL_next_3 rfl ?_
  refine zz_iload_n 4 X.1 2 dL_next_4 rfl ?_
  refine lm_callX 5 X hAM hml hao rfl (As := [.int x1, .int x2]) hX gL_next_X6_next rfl ⟨rfl, rfl⟩ yd_X6_next ⟨Nat.le_of_ble_eq_true rfl, Nat.le_of_ble_eq_true rfl⟩ rfl rfl (Nat.le_of_ble_eq_true rfl) ⟨Nat.le_of_ble_eq_true rfl, Nat.le_of_ble_eq_true rfl⟩ dL_next_5 [] ⟨0, 10, 13, 19⟩ [⟨0, 10, 17, 25⟩] ht (fun z hz => absurd hz List.not_mem_nil) (by decide) (by decide) (name := "java/lang/IllegalArgumentException") (by decide +kernel) (by decide +kernel) (hpc := 13) rfl ?_
  intro q9
  refine zz_astore 13 X.1 (lv' := [(4, .ref q9), (0, .ref (K 0)), (1, .int x1), (2, .int x2), (3, .ref ao)]) dL_next_13 (by decide) rfl ?_
  refine zz_iconst 15 X.1 (v := nI 1) dL_next_15 rfl ?_
  rw [← hQ]
  refine zz_iret 16 X.1 hr rfl hlk (u0, o) ⟨rfl, rfl, rfl⟩ (fun _ h => fun _ => h) dL_next_16

set_option maxHeartbeats 4000000 in
set_option maxRecDepth 100000 in
theorem wL_next_x2 (l : Launch) (D : va_G) (C : Nat → ClassId) (cD : ClassId) (K adK adV : Nat → Nat) (ao : Nat) (hAp : DAp K) (hao : ¬ DAd K ao) (u : CSt) (o : Int64) (x1 : Int32) (x2 : Int32) {u0 : CSt} (hX : CX l yX6_next wsX6_next rx_X6_next D C K 0 [.int x1, .int x2] u.1 u.2.1 u.2.2.1 u.2.2.2 "java/lang/IndexOutOfBoundsException" u0) : LM l yL_next wsL_next rw_next D C cD K adK adV ao (OLn C ao) [.int x1, .int x2] u o (fun r q => r = nI 2 ∧ q.2 = o ∧ q.1 = u0) := by
  refine LM_of (lv := [(0, .ref (K 0)), (1, .int x1), (2, .int x2), (3, .ref ao)]) (cc := cL_next) (maxL := 5) (ret := some .int) (hh := [(0, 10, 13, 19), (0, 10, 17, 25)]) rfl (by decide +kernel) (Nat.le_of_ble_eq_true rfl) rfl ?_
  intro p e s m args below meth c X hKd hAM hAS hNC ht hml hr hlk
  generalize hQ : MQ below _ args s 1 6 _ = Q
  refine zz_aload_n 0 X.1 3 dL_next_0 rfl ?_
  refine zz_iconst 1 X.1 (v := nI 0) dL_next_1 rfl ?_
  refine zz_aload_n 2 X.1 0 dL_next_2 rfl ?_
  refine zz_iload_n 3 X.1 1 dL_next_3 rfl ?_
  refine zz_iload_n 4 X.1 2 dL_next_4 rfl ?_
  refine lm_callX 5 X hAM hml hao rfl (As := [.int x1, .int x2]) hX gL_next_X6_next rfl ⟨rfl, rfl⟩ yd_X6_next ⟨Nat.le_of_ble_eq_true rfl, Nat.le_of_ble_eq_true rfl⟩ rfl rfl (Nat.le_of_ble_eq_true rfl) ⟨Nat.le_of_ble_eq_true rfl, Nat.le_of_ble_eq_true rfl⟩ dL_next_5 [⟨0, 10, 13, 19⟩] ⟨0, 10, 17, 25⟩ [] ht (fun z hz => by cases List.mem_singleton.mp hz; exact Or.inr ⟨by decide, "java/lang/IllegalArgumentException", X.2.1 _ (by decide +kernel), hNC.1⟩) (by decide) (by decide) (name := "java/lang/IndexOutOfBoundsException") (by decide +kernel) (by decide +kernel) (hpc := 17) rfl ?_
  intro q9
  refine zz_astore 17 X.1 (lv' := [(4, .ref q9), (0, .ref (K 0)), (1, .int x1), (2, .int x2), (3, .ref ao)]) dL_next_17 (by decide) rfl ?_
  refine zz_iconst 19 X.1 (v := nI 2) dL_next_19 rfl ?_
  rw [← hQ]
  refine zz_iret 20 X.1 hr rfl hlk (u0, o) ⟨rfl, rfl, rfl⟩ (fun _ h => fun _ => h) dL_next_20

abbrev rw_nextMissing : Room := { frames := 9, cells := 1, slots := 6, locals := 157 }
set_option maxHeartbeats 4000000 in
set_option maxRecDepth 100000 in
theorem wL_nextMissing_ok (l : Launch) (D : va_G) (C : Nat → ClassId) (cD : ClassId) (K adK adV : Nat → Nat) (ao : Nat) (hAp : DAp K) (hao : ¬ DAd K ao) (u : CSt) (o : Int64) (x1 : Int32) (x2 : Int32) {postM : Int32 → CSt → Prop} (hM : CMi l yX6_nextMissing wsX6_nextMissing rm_X6_nextMissing D C K 0 [.int x1, .int x2] u.1 u.2.1 u.2.2.1 u.2.2.2 postM) (rv : Int32) (CU : CSt → Prop) (hp : ∀ r q, postM r q → r = rv ∧ CU q) : LM l yL_nextMissing wsL_nextMissing rw_nextMissing D C cD K adK adV ao (OLn C ao) [.int x1, .int x2] u o (fun r q => r = nI 0 ∧ q.2 = rv.toInt64 ∧ CU q.1) := by
  refine LM_of (lv := [(0, .ref (K 0)), (1, .int x1), (2, .int x2), (3, .ref ao)]) (cc := cL_nextMissing) (maxL := 5) (ret := some .int) (hh := [(0, 10, 13, 19), (0, 10, 17, 25)]) rfl (by decide +kernel) (Nat.le_of_ble_eq_true rfl) rfl ?_
  intro p e s m args below meth c X hKd hAM hAS hNC ht hml hr hlk
  generalize hQ : MQ below _ args s 1 6 _ = Q
  refine zz_aload_n 0 X.1 3 dL_nextMissing_0 rfl ?_
  refine zz_iconst 1 X.1 (v := nI 0) dL_nextMissing_1 rfl ?_
  refine zz_aload_n 2 X.1 0 dL_nextMissing_2 rfl ?_
  refine zz_iload_n 3 X.1 1 dL_nextMissing_3 rfl ?_
  refine zz_iload_n 4 X.1 2 dL_nextMissing_4 rfl ?_
  refine lm_calli 5 X hml hao rfl (As := [.int x1, .int x2]) hM gL_nextMissing_X6_nextMissing rfl ⟨rfl, rfl⟩ yd_X6_nextMissing ⟨Nat.le_of_ble_eq_true rfl, Nat.le_of_ble_eq_true rfl⟩ rfl rfl (Nat.le_of_ble_eq_true rfl) ⟨Nat.le_of_ble_eq_true rfl, Nat.le_of_ble_eq_true rfl⟩ dL_nextMissing_5 ?_
  intro r q hq
  obtain ⟨he, hc⟩ := hp r q hq
  rw [he]
  refine zz_i2l 8 X.1 dL_nextMissing_8 rfl ?_
  refine lm_lst 9 X hAp hao dL_nextMissing_9 ?_
  refine zz_goto 10 21 X.1 dL_nextMissing_10 (by decide) ?_
  refine zz_widen (k := 1) (j := 6) (Nat.le_of_ble_eq_true rfl) (Nat.le_of_ble_eq_true rfl) ?_
  refine zz_iconst 21 X.1 (v := nI 0) dL_nextMissing_21 rfl ?_
  rw [← hQ]
  refine zz_iret 22 X.1 hr rfl hlk (q, rv.toInt64) ⟨rfl, rfl, hc⟩ (fun _ h => fun _ => h) dL_nextMissing_22

set_option maxHeartbeats 4000000 in
set_option maxRecDepth 100000 in
theorem wL_nextMissing_x1 (l : Launch) (D : va_G) (C : Nat → ClassId) (cD : ClassId) (K adK adV : Nat → Nat) (ao : Nat) (hAp : DAp K) (hao : ¬ DAd K ao) (u : CSt) (o : Int64) (x1 : Int32) (x2 : Int32) {u0 : CSt} (hX : CX l yX6_nextMissing wsX6_nextMissing rx_X6_nextMissing D C K 0 [.int x1, .int x2] u.1 u.2.1 u.2.2.1 u.2.2.2 "java/lang/IllegalArgumentException" u0) : LM l yL_nextMissing wsL_nextMissing rw_nextMissing D C cD K adK adV ao (OLn C ao) [.int x1, .int x2] u o (fun r q => r = nI 1 ∧ q.2 = o ∧ q.1 = u0) := by
  refine LM_of (lv := [(0, .ref (K 0)), (1, .int x1), (2, .int x2), (3, .ref ao)]) (cc := cL_nextMissing) (maxL := 5) (ret := some .int) (hh := [(0, 10, 13, 19), (0, 10, 17, 25)]) rfl (by decide +kernel) (Nat.le_of_ble_eq_true rfl) rfl ?_
  intro p e s m args below meth c X hKd hAM hAS hNC ht hml hr hlk
  generalize hQ : MQ below _ args s 1 6 _ = Q
  refine zz_aload_n 0 X.1 3 dL_nextMissing_0 rfl ?_
  refine zz_iconst 1 X.1 (v := nI 0) dL_nextMissing_1 rfl ?_
  refine zz_aload_n 2 X.1 0 dL_nextMissing_2 rfl ?_
  refine zz_iload_n 3 X.1 1 dL_nextMissing_3 rfl ?_
  refine zz_iload_n 4 X.1 2 dL_nextMissing_4 rfl ?_
  refine lm_callX 5 X hAM hml hao rfl (As := [.int x1, .int x2]) hX gL_nextMissing_X6_nextMissing rfl ⟨rfl, rfl⟩ yd_X6_nextMissing ⟨Nat.le_of_ble_eq_true rfl, Nat.le_of_ble_eq_true rfl⟩ rfl rfl (Nat.le_of_ble_eq_true rfl) ⟨Nat.le_of_ble_eq_true rfl, Nat.le_of_ble_eq_true rfl⟩ dL_nextMissing_5 [] ⟨0, 10, 13, 19⟩ [⟨0, 10, 17, 25⟩] ht (fun z hz => absurd hz List.not_mem_nil) (by decide) (by decide) (name := "java/lang/IllegalArgumentException") (by decide +kernel) (by decide +kernel) (hpc := 13) rfl ?_
  intro q9
  refine zz_astore 13 X.1 (lv' := [(4, .ref q9), (0, .ref (K 0)), (1, .int x1), (2, .int x2), (3, .ref ao)]) dL_nextMissing_13 (by decide) rfl ?_
  refine zz_iconst 15 X.1 (v := nI 1) dL_nextMissing_15 rfl ?_
  rw [← hQ]
  refine zz_iret 16 X.1 hr rfl hlk (u0, o) ⟨rfl, rfl, rfl⟩ (fun _ h => fun _ => h) dL_nextMissing_16

set_option maxHeartbeats 4000000 in
set_option maxRecDepth 100000 in
theorem wL_nextMissing_x2 (l : Launch) (D : va_G) (C : Nat → ClassId) (cD : ClassId) (K adK adV : Nat → Nat) (ao : Nat) (hAp : DAp K) (hao : ¬ DAd K ao) (u : CSt) (o : Int64) (x1 : Int32) (x2 : Int32) {u0 : CSt} (hX : CX l yX6_nextMissing wsX6_nextMissing rx_X6_nextMissing D C K 0 [.int x1, .int x2] u.1 u.2.1 u.2.2.1 u.2.2.2 "java/lang/IndexOutOfBoundsException" u0) : LM l yL_nextMissing wsL_nextMissing rw_nextMissing D C cD K adK adV ao (OLn C ao) [.int x1, .int x2] u o (fun r q => r = nI 2 ∧ q.2 = o ∧ q.1 = u0) := by
  refine LM_of (lv := [(0, .ref (K 0)), (1, .int x1), (2, .int x2), (3, .ref ao)]) (cc := cL_nextMissing) (maxL := 5) (ret := some .int) (hh := [(0, 10, 13, 19), (0, 10, 17, 25)]) rfl (by decide +kernel) (Nat.le_of_ble_eq_true rfl) rfl ?_
  intro p e s m args below meth c X hKd hAM hAS hNC ht hml hr hlk
  generalize hQ : MQ below _ args s 1 6 _ = Q
  refine zz_aload_n 0 X.1 3 dL_nextMissing_0 rfl ?_
  refine zz_iconst 1 X.1 (v := nI 0) dL_nextMissing_1 rfl ?_
  refine zz_aload_n 2 X.1 0 dL_nextMissing_2 rfl ?_
  refine zz_iload_n 3 X.1 1 dL_nextMissing_3 rfl ?_
  refine zz_iload_n 4 X.1 2 dL_nextMissing_4 rfl ?_
  refine lm_callX 5 X hAM hml hao rfl (As := [.int x1, .int x2]) hX gL_nextMissing_X6_nextMissing rfl ⟨rfl, rfl⟩ yd_X6_nextMissing ⟨Nat.le_of_ble_eq_true rfl, Nat.le_of_ble_eq_true rfl⟩ rfl rfl (Nat.le_of_ble_eq_true rfl) ⟨Nat.le_of_ble_eq_true rfl, Nat.le_of_ble_eq_true rfl⟩ dL_nextMissing_5 [⟨0, 10, 13, 19⟩] ⟨0, 10, 17, 25⟩ [] ht (fun z hz => by cases List.mem_singleton.mp hz; exact Or.inr ⟨by decide, "java/lang/IllegalArgumentException", X.2.1 _ (by decide +kernel), hNC.1⟩) (by decide) (by decide) (name := "java/lang/IndexOutOfBoundsException") (by decide +kernel) (by decide +kernel) (hpc := 17) rfl ?_
  intro q9
  refine zz_astore 17 X.1 (lv' := [(4, .ref q9), (0, .ref (K 0)), (1, .int x1), (2, .int x2), (3, .ref ao)]) dL_nextMissing_17 (by decide) rfl ?_
  refine zz_iconst 19 X.1 (v := nI 2) dL_nextMissing_19 rfl ?_
  rw [← hQ]
  refine zz_iret 20 X.1 hr rfl hlk (u0, o) ⟨rfl, rfl, rfl⟩ (fun _ h => fun _ => h) dL_nextMissing_20

abbrev rw_previous : Room := { frames := 9, cells := 1, slots := 6, locals := 157 }
set_option maxHeartbeats 4000000 in
set_option maxRecDepth 100000 in
theorem wL_previous_ok (l : Launch) (D : va_G) (C : Nat → ClassId) (cD : ClassId) (K adK adV : Nat → Nat) (ao : Nat) (hAp : DAp K) (hao : ¬ DAd K ao) (u : CSt) (o : Int64) (x1 : Int32) (x2 : Int32) {postM : Int32 → CSt → Prop} (hM : CMi l yX6_previous wsX6_previous rm_X6_previous D C K 0 [.int x1, .int x2] u.1 u.2.1 u.2.2.1 u.2.2.2 postM) (rv : Int32) (CU : CSt → Prop) (hp : ∀ r q, postM r q → r = rv ∧ CU q) : LM l yL_previous wsL_previous rw_previous D C cD K adK adV ao (OLn C ao) [.int x1, .int x2] u o (fun r q => r = nI 0 ∧ q.2 = rv.toInt64 ∧ CU q.1) := by
  refine LM_of (lv := [(0, .ref (K 0)), (1, .int x1), (2, .int x2), (3, .ref ao)]) (cc := cL_previous) (maxL := 5) (ret := some .int) (hh := [(0, 10, 13, 19), (0, 10, 17, 25)]) rfl (by decide +kernel) (Nat.le_of_ble_eq_true rfl) rfl ?_
  intro p e s m args below meth c X hKd hAM hAS hNC ht hml hr hlk
  generalize hQ : MQ below _ args s 1 6 _ = Q
  refine zz_aload_n 0 X.1 3 dL_previous_0 rfl ?_
  refine zz_iconst 1 X.1 (v := nI 0) dL_previous_1 rfl ?_
  refine zz_aload_n 2 X.1 0 dL_previous_2 rfl ?_
  refine zz_iload_n 3 X.1 1 dL_previous_3 rfl ?_
  refine zz_iload_n 4 X.1 2 dL_previous_4 rfl ?_
  refine lm_calli 5 X hml hao rfl (As := [.int x1, .int x2]) hM gL_previous_X6_previous rfl ⟨rfl, rfl⟩ yd_X6_previous ⟨Nat.le_of_ble_eq_true rfl, Nat.le_of_ble_eq_true rfl⟩ rfl rfl (Nat.le_of_ble_eq_true rfl) ⟨Nat.le_of_ble_eq_true rfl, Nat.le_of_ble_eq_true rfl⟩ dL_previous_5 ?_
  intro r q hq
  obtain ⟨he, hc⟩ := hp r q hq
  rw [he]
  refine zz_i2l 8 X.1 dL_previous_8 rfl ?_
  refine lm_lst 9 X hAp hao dL_previous_9 ?_
  refine zz_goto 10 21 X.1 dL_previous_10 (by decide) ?_
  refine zz_widen (k := 1) (j := 6) (Nat.le_of_ble_eq_true rfl) (Nat.le_of_ble_eq_true rfl) ?_
  refine zz_iconst 21 X.1 (v := nI 0) dL_previous_21 rfl ?_
  rw [← hQ]
  refine zz_iret 22 X.1 hr rfl hlk (q, rv.toInt64) ⟨rfl, rfl, hc⟩ (fun _ h => fun _ => h) dL_previous_22

set_option maxHeartbeats 4000000 in
set_option maxRecDepth 100000 in
theorem wL_previous_x1 (l : Launch) (D : va_G) (C : Nat → ClassId) (cD : ClassId) (K adK adV : Nat → Nat) (ao : Nat) (hAp : DAp K) (hao : ¬ DAd K ao) (u : CSt) (o : Int64) (x1 : Int32) (x2 : Int32) {u0 : CSt} (hX : CX l yX6_previous wsX6_previous rx_X6_previous D C K 0 [.int x1, .int x2] u.1 u.2.1 u.2.2.1 u.2.2.2 "java/lang/IllegalArgumentException" u0) : LM l yL_previous wsL_previous rw_previous D C cD K adK adV ao (OLn C ao) [.int x1, .int x2] u o (fun r q => r = nI 1 ∧ q.2 = o ∧ q.1 = u0) := by
  refine LM_of (lv := [(0, .ref (K 0)), (1, .int x1), (2, .int x2), (3, .ref ao)]) (cc := cL_previous) (maxL := 5) (ret := some .int) (hh := [(0, 10, 13, 19), (0, 10, 17, 25)]) rfl (by decide +kernel) (Nat.le_of_ble_eq_true rfl) rfl ?_
  intro p e s m args below meth c X hKd hAM hAS hNC ht hml hr hlk
  generalize hQ : MQ below _ args s 1 6 _ = Q
  refine zz_aload_n 0 X.1 3 dL_previous_0 rfl ?_
  refine zz_iconst 1 X.1 (v := nI 0) dL_previous_1 rfl ?_
  refine zz_aload_n 2 X.1 0 dL_previous_2 rfl ?_
  refine zz_iload_n 3 X.1 1 dL_previous_3 rfl ?_
  refine zz_iload_n 4 X.1 2 dL_previous_4 rfl ?_
  refine lm_callX 5 X hAM hml hao rfl (As := [.int x1, .int x2]) hX gL_previous_X6_previous rfl ⟨rfl, rfl⟩ yd_X6_previous ⟨Nat.le_of_ble_eq_true rfl, Nat.le_of_ble_eq_true rfl⟩ rfl rfl (Nat.le_of_ble_eq_true rfl) ⟨Nat.le_of_ble_eq_true rfl, Nat.le_of_ble_eq_true rfl⟩ dL_previous_5 [] ⟨0, 10, 13, 19⟩ [⟨0, 10, 17, 25⟩] ht (fun z hz => absurd hz List.not_mem_nil) (by decide) (by decide) (name := "java/lang/IllegalArgumentException") (by decide +kernel) (by decide +kernel) (hpc := 13) rfl ?_
  intro q9
  refine zz_astore 13 X.1 (lv' := [(4, .ref q9), (0, .ref (K 0)), (1, .int x1), (2, .int x2), (3, .ref ao)]) dL_previous_13 (by decide) rfl ?_
  refine zz_iconst 15 X.1 (v := nI 1) dL_previous_15 rfl ?_
  rw [← hQ]
  refine zz_iret 16 X.1 hr rfl hlk (u0, o) ⟨rfl, rfl, rfl⟩ (fun _ h => fun _ => h) dL_previous_16

set_option maxHeartbeats 4000000 in
set_option maxRecDepth 100000 in
theorem wL_previous_x2 (l : Launch) (D : va_G) (C : Nat → ClassId) (cD : ClassId) (K adK adV : Nat → Nat) (ao : Nat) (hAp : DAp K) (hao : ¬ DAd K ao) (u : CSt) (o : Int64) (x1 : Int32) (x2 : Int32) {u0 : CSt} (hX : CX l yX6_previous wsX6_previous rx_X6_previous D C K 0 [.int x1, .int x2] u.1 u.2.1 u.2.2.1 u.2.2.2 "java/lang/IndexOutOfBoundsException" u0) : LM l yL_previous wsL_previous rw_previous D C cD K adK adV ao (OLn C ao) [.int x1, .int x2] u o (fun r q => r = nI 2 ∧ q.2 = o ∧ q.1 = u0) := by
  refine LM_of (lv := [(0, .ref (K 0)), (1, .int x1), (2, .int x2), (3, .ref ao)]) (cc := cL_previous) (maxL := 5) (ret := some .int) (hh := [(0, 10, 13, 19), (0, 10, 17, 25)]) rfl (by decide +kernel) (Nat.le_of_ble_eq_true rfl) rfl ?_
  intro p e s m args below meth c X hKd hAM hAS hNC ht hml hr hlk
  generalize hQ : MQ below _ args s 1 6 _ = Q
  refine zz_aload_n 0 X.1 3 dL_previous_0 rfl ?_
  refine zz_iconst 1 X.1 (v := nI 0) dL_previous_1 rfl ?_
  refine zz_aload_n 2 X.1 0 dL_previous_2 rfl ?_
  refine zz_iload_n 3 X.1 1 dL_previous_3 rfl ?_
  refine zz_iload_n 4 X.1 2 dL_previous_4 rfl ?_
  refine lm_callX 5 X hAM hml hao rfl (As := [.int x1, .int x2]) hX gL_previous_X6_previous rfl ⟨rfl, rfl⟩ yd_X6_previous ⟨Nat.le_of_ble_eq_true rfl, Nat.le_of_ble_eq_true rfl⟩ rfl rfl (Nat.le_of_ble_eq_true rfl) ⟨Nat.le_of_ble_eq_true rfl, Nat.le_of_ble_eq_true rfl⟩ dL_previous_5 [⟨0, 10, 13, 19⟩] ⟨0, 10, 17, 25⟩ [] ht (fun z hz => by cases List.mem_singleton.mp hz; exact Or.inr ⟨by decide, "java/lang/IllegalArgumentException", X.2.1 _ (by decide +kernel), hNC.1⟩) (by decide) (by decide) (name := "java/lang/IndexOutOfBoundsException") (by decide +kernel) (by decide +kernel) (hpc := 17) rfl ?_
  intro q9
  refine zz_astore 17 X.1 (lv' := [(4, .ref q9), (0, .ref (K 0)), (1, .int x1), (2, .int x2), (3, .ref ao)]) dL_previous_17 (by decide) rfl ?_
  refine zz_iconst 19 X.1 (v := nI 2) dL_previous_19 rfl ?_
  rw [← hQ]
  refine zz_iret 20 X.1 hr rfl hlk (u0, o) ⟨rfl, rfl, rfl⟩ (fun _ h => fun _ => h) dL_previous_20
