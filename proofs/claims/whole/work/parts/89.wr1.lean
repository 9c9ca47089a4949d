/-! The law's wrappers. -/
section WRS
variable {p : Program} {l : Launch} {e : Env} {R : Room} {s : State} {m : MethodId} {args : Array Value} {below : List Frame} {meth : Method} {c : Code} {cells slots : Nat} {Q : State → Prop} {n : Nat} {lv : List (Nat × Value)} {st : List Value} {cc : ByteArray} {A : Nat → Prop} {P : Heap → Prop}
theorem i32_z {x : Int32} (h : x.toInt = 0) : x = 0 := Int32.toInt_inj.mp (h.trans rfl)
theorem zf_f2d (pc : Nat) (hc : p.tables.exec = Jvm.exec ∧ c.code = cc) {x : UInt32} (hne : vf_n64 (FP.f2d x)) (hd : decode cc pc = .ok (.f2d, 1)) (kk : ZZ p l e R s m args below meth c cells slots Q A P n lv (.double (FP.f2d x) :: st) (pc + 1)) : ZZ p l e R s m args below meth c cells slots Q A P n lv (.float x :: st) (pc) := fun H locs ls hP hS hl => lv_f2d hc.1 hc.2 hd hne (kk H locs ls hP hS hl)
end WRS
abbrev rw_append : Room := { frames := 7, cells := 1, slots := 6, locals := 116 }
set_option maxHeartbeats 4000000 in
set_option maxRecDepth 100000 in
theorem wL_append_ok (l : Launch) (D : va_G) (C : Nat → ClassId) (cD : ClassId) (K adK adV : Nat → Nat) (ao : Nat) (hAp : DAp K) (hao : ¬ DAd K ao) (u : CSt) (o : Int64) (x1 : Int32) (x2 : Int32) (x3 : Int32) (x4 : Int32) (x5 : Int32) {postM : Int32 → CSt → Prop} (hM : CMi l yX6_append wsX6_append rm_X6_append D C K 0 [.int x1, .int x2, .int x3, .int x4, .int x5] u.1 u.2.1 u.2.2.1 u.2.2.2 postM) (rv : Int32) (CU : CSt → Prop) (hp : ∀ r q, postM r q → r = rv ∧ CU q) : LM l yL_append wsL_append rw_append D C cD K adK adV ao (OLn C ao) [.int x1, .int x2, .int x3, .int x4, .int x5] u o (fun r q => r = nI 0 ∧ q.2 = rv.toInt64 ∧ CU q.1) := by
  refine LM_of (lv := [(0, .ref (K 0)), (1, .int x1), (2, .int x2), (3, .int x3), (4, .int x4), (5, .int x5), (6, .ref ao)]) (cc := cL_append) (maxL := 8) (ret := some .int) (hh := [(0, 16, 19, 13)]) rfl (by decide +kernel) (Nat.le_of_ble_eq_true rfl) rfl ?_
  intro p e s m args below meth c X hKd hAM hAS hNC ht hml hr hlk
  generalize hQ : MQ below _ args s 1 6 _ = Q
  refine zz_aload 0 X.1 6 dL_append_0 rfl ?_
  refine zz_iconst 2 X.1 (v := nI 0) dL_append_2 rfl ?_
  refine zz_aload_n 3 X.1 0 dL_append_3 rfl ?_
  refine zz_iload_n 4 X.1 1 dL_append_4 rfl ?_
  refine zz_iload_n 5 X.1 2 dL_append_5 rfl ?_
  refine zz_iload_n 6 X.1 3 dL_append_6 rfl ?_
  refine zz_iload 7 X.1 4 dL_append_7 rfl ?_
  refine zz_iload 9 X.1 5 dL_append_9 rfl ?_
  refine lm_calli 11 X hml hao rfl (As := [.int x1, .int x2, .int x3, .int x4, .int x5]) hM gL_append_X6_append rfl ⟨rfl, rfl⟩ yd_X6_append ⟨Nat.le_of_ble_eq_true rfl, Nat.le_of_ble_eq_true rfl⟩ rfl rfl (Nat.le_of_ble_eq_true rfl) ⟨Nat.le_of_ble_eq_true rfl, Nat.le_of_ble_eq_true rfl⟩ dL_append_11 ?_
  intro r q hq
  obtain ⟨he, hc⟩ := hp r q hq
  rw [he]
  refine zz_i2l 14 X.1 dL_append_14 rfl ?_
  refine lm_lst 15 X hAp hao dL_append_15 ?_
  refine zz_goto 16 23 X.1 dL_append_16 (by decide) ?_
  refine zz_widen (k := 1) (j := 6) (Nat.le_of_ble_eq_true rfl) (Nat.le_of_ble_eq_true rfl) ?_
  refine zz_iconst 23 X.1 (v := nI 0) dL_append_23 rfl ?_
  rw [← hQ]
  refine zz_iret 24 X.1 hr rfl hlk (q, rv.toInt64) ⟨rfl, rfl, hc⟩ (fun _ h => fun _ => h) dL_append_24

set_option maxHeartbeats 4000000 in
set_option maxRecDepth 100000 in
theorem wL_append_x1 (l : Launch) (D : va_G) (C : Nat → ClassId) (cD : ClassId) (K adK adV : Nat → Nat) (ao : Nat) (hAp : DAp K) (hao : ¬ DAd K ao) (u : CSt) (o : Int64) (x1 : Int32) (x2 : Int32) (x3 : Int32) (x4 : Int32) (x5 : Int32) {u0 : CSt} (hX : CX l yX6_append wsX6_append rx_X6_append D C K 0 [.int x1, .int x2, .int x3, .int x4, .int x5] u.1 u.2.1 u.2.2.1 u.2.2.2 "java/lang/IllegalStateException" u0) : LM l yL_append wsL_append rw_append D C cD K adK adV ao (OLn C ao) [.int x1, .int x2, .int x3, .int x4, .int x5] u o (fun r q => r = nI 1 ∧ q.2 = o ∧ q.1 = u0) := by
  refine LM_of (lv := [(0, .ref (K 0)), (1, .int x1), (2, .int x2), (3, .int x3), (4, .int x4), (5, .int x5), (6, .ref ao)]) (cc := cL_append) (maxL := 8) (ret := some .int) (hh := [(0, 16, 19, 13)]) rfl (by decide +kernel) (Nat.le_of_ble_eq_true rfl) rfl ?_
  intro p e s m args below meth c X hKd hAM hAS hNC ht hml hr hlk
  generalize hQ : MQ below _ args s 1 6 _ = Q
  refine zz_aload 0 X.1 6 dL_append_0 rfl ?_
  refine zz_iconst 2 X.1 (v := nI 0) dL_append_2 rfl ?_
  refine zz_aload_n 3 X.1 0 dL_append_3 rfl ?_
  refine zz_iload_n 4 X.1 1 dL_append_4 rfl ?_
  refine zz_iload_n 5 X.1 2 dL_append_5 rfl ?_
  refine zz_iload_n 6 X.1 3 dL_append_6 rfl ?_
  refine zz_iload 7 X.1 4 dL_append_7 rfl ?_
  refine zz_iload 9 X.1 5 dL_append_9 rfl ?_
  refine lm_callX 11 X hAM hml hao rfl (As := [.int x1, .int x2, .int x3, .int x4, .int x5]) hX gL_append_X6_append rfl ⟨rfl, rfl⟩ yd_X6_append ⟨Nat.le_of_ble_eq_true rfl, Nat.le_of_ble_eq_true rfl⟩ rfl rfl (Nat.le_of_ble_eq_true rfl) ⟨Nat.le_of_ble_eq_true rfl, Nat.le_of_ble_eq_true rfl⟩ dL_append_11 [] ⟨0, 16, 19, 13⟩ [] ht (fun z hz => absurd hz List.not_mem_nil) (by decide) (by decide) (name := "java/lang/IllegalStateException") (by decide +kernel) (by decide +kernel) (hpc := 19) rfl ?_
  intro q9
  refine zz_astore 19 X.1 (lv' := [(7, .ref q9), (0, .ref (K 0)), (1, .int x1), (2, .int x2), (3, .int x3), (4, .int x4), (5, .int x5), (6, .ref ao)]) dL_append_19 (by decide) rfl ?_
  refine zz_iconst 21 X.1 (v := nI 1) dL_append_21 rfl ?_
  rw [← hQ]
  refine zz_iret 22 X.1 hr rfl hlk (u0, o) ⟨rfl, rfl, rfl⟩ (fun _ h => fun _ => h) dL_append_22

abbrev rw_run : Room := { frames := 12, cells := 1, slots := 6, locals := 267 }
set_option maxHeartbeats 4000000 in
set_option maxRecDepth 100000 in
theorem wL_run_ok (l : Launch) (D : va_G) (C : Nat → ClassId) (cD : ClassId) (K adK adV : Nat → Nat) (ao : Nat) (hAp : DAp K) (hao : ¬ DAd K ao) (u : CSt) (o : Int64)  {postM : Int32 → CSt → Prop} (hM : CAi l yX6_run wsX6_run rm_X6_run D C K adK adV 0 [] u.1 u.2.1 u.2.2.1 u.2.2.2 postM) (rv : Int32) (CU : CSt → Prop) (hp : ∀ r q, postM r q → r = rv ∧ CU q) : LM l yL_run wsL_run rw_run D C cD K adK adV ao (OLn C ao) [] u o (fun r q => r = nI 0 ∧ q.2 = rv.toInt64 ∧ CU q.1) := by
  refine LM_of (lv := [(0, .ref (K 0)), (1, .ref ao)]) (cc := cL_run) (maxL := 3) (ret := some .int) (hh := [(0, 8, 11, 19)]) rfl (by decide +kernel) (Nat.le_of_ble_eq_true rfl) rfl ?_
  intro p e s m args below meth c X hKd hAM hAS hNC ht hml hr hlk
  generalize hQ : MQ below _ args s 1 6 _ = Q
  refine zz_aload_n 0 X.1 1 dL_run_0 rfl ?_
  refine zz_iconst 1 X.1 (v := nI 0) dL_run_1 rfl ?_
  refine zz_aload_n 2 X.1 0 dL_run_2 rfl ?_
  refine lm_callA 3 X hAS hml hao rfl (As := []) hM gL_run_X6_run rfl ⟨rfl, rfl⟩ yd_X6_run ⟨Nat.le_of_ble_eq_true rfl, Nat.le_of_ble_eq_true rfl⟩ rfl rfl (Nat.le_of_ble_eq_true rfl) ⟨Nat.le_of_ble_eq_true rfl, Nat.le_of_ble_eq_true rfl⟩ dL_run_3 ?_
  intro r q hq
  obtain ⟨he, hc⟩ := hp r q hq
  rw [he]
  refine zz_i2l 6 X.1 dL_run_6 rfl ?_
  refine lm_lst 7 X hAp hao dL_run_7 ?_
  refine zz_goto 8 14 X.1 dL_run_8 (by decide) ?_
  refine zz_widen (k := 1) (j := 6) (Nat.le_of_ble_eq_true rfl) (Nat.le_of_ble_eq_true rfl) ?_
  refine zz_iconst 14 X.1 (v := nI 0) dL_run_14 rfl ?_
  rw [← hQ]
  refine zz_iret 15 X.1 hr rfl hlk (q, rv.toInt64) ⟨rfl, rfl, hc⟩ (fun _ h => fun _ => h) dL_run_15

set_option maxHeartbeats 4000000 in
set_option maxRecDepth 100000 in
theorem wL_run_x1 (l : Launch) (D : va_G) (C : Nat → ClassId) (cD : ClassId) (K adK adV : Nat → Nat) (ao : Nat) (hAp : DAp K) (hao : ¬ DAd K ao) (u : CSt) (o : Int64)  {post : CSt → Prop} (hX : CXR l yX6_run wsX6_run rx_X6_run D C K adK adV 0 [] u.1 u.2.1 u.2.2.1 u.2.2.2 "java/lang/IllegalArgumentException" post) : LM l yL_run wsL_run rw_run D C cD K adK adV ao (OLn C ao) [] u o (fun r q => r = nI 1 ∧ q.2 = o ∧ post q.1) := by
  refine LM_of (lv := [(0, .ref (K 0)), (1, .ref ao)]) (cc := cL_run) (maxL := 3) (ret := some .int) (hh := [(0, 8, 11, 19)]) rfl (by decide +kernel) (Nat.le_of_ble_eq_true rfl) rfl ?_
  intro p e s m args below meth c X hKd hAM hAS hNC ht hml hr hlk
  generalize hQ : MQ below _ args s 1 6 _ = Q
  refine zz_aload_n 0 X.1 1 dL_run_0 rfl ?_
  refine zz_iconst 1 X.1 (v := nI 0) dL_run_1 rfl ?_
  refine zz_aload_n 2 X.1 0 dL_run_2 rfl ?_
  refine lm_callXR 3 X hAM hAS hml hao rfl (As := []) hX gL_run_X6_run rfl ⟨rfl, rfl⟩ yd_X6_run ⟨Nat.le_of_ble_eq_true rfl, Nat.le_of_ble_eq_true rfl⟩ rfl rfl (Nat.le_of_ble_eq_true rfl) ⟨Nat.le_of_ble_eq_true rfl, Nat.le_of_ble_eq_true rfl⟩ dL_run_3 [] ⟨0, 8, 11, 19⟩ [] ht (fun z hz => absurd hz List.not_mem_nil) (by decide) (by decide) (name := "java/lang/IllegalArgumentException") (by decide +kernel) (by decide +kernel) (hpc := 11) rfl ?_
  intro q9 q hq
  refine zz_astore_n 11 X.1 (lv' := [(2, .ref q9), (0, .ref (K 0)), (1, .ref ao)]) dL_run_11 (by decide) rfl ?_
  refine zz_iconst 12 X.1 (v := nI 1) dL_run_12 rfl ?_
  rw [← hQ]
  refine zz_iret 13 X.1 hr rfl hlk (q, o) ⟨rfl, rfl, hq⟩ (fun _ h => fun _ => h) dL_run_13

abbrev rw_add : Room := { frames := 10, cells := 1, slots := 6, locals := 181 }
set_option maxHeartbeats 4000000 in
set_option maxRecDepth 100000 in
theorem wL_add_ok (l : Launch) (D : va_G) (C : Nat → ClassId) (cD : ClassId) (K adK adV : Nat → Nat) (ao : Nat) (hAp : DAp K) (hao : ¬ DAd K ao) (u : CSt) (o : Int64) (x1 : Int32) (x2 : Int32) {postM : Int32 → CSt → Prop} (hM : CMi l yX6_add wsX6_add rm_X6_add D C K 0 [.int x1, .int x2] u.1 u.2.1 u.2.2.1 u.2.2.2 postM) (rv : Int32) (CU : CSt → Prop) (hp : ∀ r q, postM r q → r = rv ∧ CU q) : LM l yL_add wsL_add rw_add D C cD K adK adV ao (OLn C ao) [.int x1, .int x2] u o (fun r q => r = nI 0 ∧ q.2 = (if rv = 0 then 0 else 1 : Int64) ∧ CU q.1) := by
  refine LM_of (lv := [(0, .ref (K 0)), (1, .int x1), (2, .int x2), (3, .ref ao)]) (cc := cL_add) (maxL := 5) (ret := some .int) (hh := [(0, 17, 20, 19), (0, 17, 24, 25)]) rfl (by decide +kernel) (Nat.le_of_ble_eq_true rfl) rfl ?_
  intro p e s m args below meth c X hKd hAM hAS hNC ht hml hr hlk
  generalize hQ : MQ below _ args s 1 6 _ = Q
  refine zz_aload_n 0 X.1 3 dL_add_0 rfl ?_
  refine zz_iconst 1 X.1 (v := nI 0) dL_add_1 rfl ?_
  refine zz_aload_n 2 X.1 0 dL_add_2 rfl ?_
  refine zz_iload_n 3 X.1 1 dL_add_3 rfl ?_
  refine zz_iload_n 4 X.1 2 dL_add_4 rfl ?_
  refine lm_calli 5 X hml hao rfl (As := [.int x1, .int x2]) hM gL_add_X6_add rfl ⟨rfl, rfl⟩ yd_X6_add ⟨Nat.le_of_ble_eq_true rfl, Nat.le_of_ble_eq_true rfl⟩ rfl rfl (Nat.le_of_ble_eq_true rfl) ⟨Nat.le_of_ble_eq_true rfl, Nat.le_of_ble_eq_true rfl⟩ dL_add_5 ?_
  intro r q hq
  obtain ⟨he, hc⟩ := hp r q hq
  rw [he]
  refine zz_if_eq 8 15 X.1 rfl dL_add_8 (by decide) (fun h => ?_) (fun h => ?_)
  · refine zz_lconst 15 X.1 (v := 0) dL_add_15 (by decide) ?_
    refine lm_lst 16 X hAp hao dL_add_16 ?_
    refine zz_goto 17 28 X.1 dL_add_17 (by decide) ?_
    refine zz_widen (k := 1) (j := 6) (Nat.le_of_ble_eq_true rfl) (Nat.le_of_ble_eq_true rfl) ?_
    refine zz_iconst 28 X.1 (v := nI 0) dL_add_28 rfl ?_
    rw [← hQ]
    refine zz_iret 29 X.1 hr rfl hlk (q, 0) ⟨rfl, (if_pos (i32_z h)).symm, hc⟩ (fun _ h => fun _ => h) dL_add_29
  · refine zz_lconst 11 X.1 (v := 1) dL_add_11 (by decide) ?_
    refine zz_goto 12 16 X.1 dL_add_12 (by decide) ?_
    refine lm_lst 16 X hAp hao dL_add_16 ?_
    refine zz_goto 17 28 X.1 dL_add_17 (by decide) ?_
    refine zz_widen (k := 1) (j := 6) (Nat.le_of_ble_eq_true rfl) (Nat.le_of_ble_eq_true rfl) ?_
    refine zz_iconst 28 X.1 (v := nI 0) dL_add_28 rfl ?_
    rw [← hQ]
    refine zz_iret 29 X.1 hr rfl hlk (q, 1) ⟨rfl, (if_neg (fun z => h (by rw [z]; rfl))).symm, hc⟩ (fun _ h => fun _ => h) dL_add_29

set_option maxHeartbeats 4000000 in
set_option maxRecDepth 100000 in
theorem wL_add_x1 (l : Launch) (D : va_G) (C : Nat → ClassId) (cD : ClassId) (K adK adV : Nat → Nat) (ao : Nat) (hAp : DAp K) (hao : ¬ DAd K ao) (u : CSt) (o : Int64) (x1 : Int32) (x2 : Int32) {u0 : CSt} (hX : CX l yX6_add wsX6_add rx_X6_add D C K 0 [.int x1, .int x2] u.1 u.2.1 u.2.2.1 u.2.2.2 "java/lang/IllegalArgumentException" u0) : LM l yL_add wsL_add rw_add D C cD K adK adV ao (OLn C ao) [.int x1, .int x2] u o (fun r q => r = nI 1 ∧ q.2 = o ∧ q.1 = u0) := by
  refine LM_of (lv := [(0, .ref (K 0)), (1, .int x1), (2, .int x2), (3, .ref ao)]) (cc := cL_add) (maxL := 5) (ret := some .int) (hh := [(0, 17, 20, 19), (0, 17, 24, 25)]) rfl (by decide +kernel) (Nat.le_of_ble_eq_true rfl) rfl ?_
  intro p e s m args below meth c X hKd hAM hAS hNC ht hml hr hlk
  generalize hQ : MQ below _ args s 1 6 _ = Q
  refine zz_aload_n 0 X.1 3 dL_add_0 rfl ?_
  refine zz_iconst 1 X.1 (v := nI 0) dL_add_1 rfl ?_
  refine zz_aload_n 2 X.1 0 dL_add_2 rfl ?_
  refine zz_iload_n 3 X.1 1 dL_add_3 rfl ?_
  refine zz_iload_n 4 X.1 2 dL_add_4 rfl ?_
  refine lm_callX 5 X hAM hml hao rfl (As := [.int x1, .int x2]) hX gL_add_X6_add rfl ⟨rfl, rfl⟩ yd_X6_add ⟨Nat.le_of_ble_eq_true rfl, Nat.le_of_ble_eq_true rfl⟩ rfl rfl (Nat.le_of_ble_eq_true rfl) ⟨Nat.le_of_ble_eq_true rfl, Nat.le_of_ble_eq_true rfl⟩ dL_add_5 [] ⟨0, 17, 20, 19⟩ [⟨0, 17, 24, 25⟩] ht (fun z hz => absurd hz List.not_mem_nil) (by decide) (by decide) (name := "java/lang/IllegalArgumentException") (by decide +kernel) (by decide +kernel) (hpc := 20) rfl ?_
  intro q9
  refine zz_astore 20 X.1 (lv' := [(4, .ref q9), (0, .ref (K 0)), (1, .int x1), (2, .int x2), (3, .ref ao)]) dL_add_20 (by decide) rfl ?_
  refine zz_iconst 22 X.1 (v := nI 1) dL_add_22 rfl ?_
  rw [← hQ]
  refine zz_iret 23 X.1 hr rfl hlk (u0, o) ⟨rfl, rfl, rfl⟩ (fun _ h => fun _ => h) dL_add_23

set_option maxHeartbeats 4000000 in
set_option maxRecDepth 100000 in
theorem wL_add_x2 (l : Launch) (D : va_G) (C : Nat → ClassId) (cD : ClassId) (K adK adV : Nat → Nat) (ao : Nat) (hAp : DAp K) (hao : ¬ DAd K ao) (u : CSt) (o : Int64) (x1 : Int32) (x2 : Int32) {u0 : CSt} (hX : CX l yX6_add wsX6_add rx_X6_add D C K 0 [.int x1, .int x2] u.1 u.2.1 u.2.2.1 u.2.2.2 "java/lang/IndexOutOfBoundsException" u0) : LM l yL_add wsL_add rw_add D C cD K adK adV ao (OLn C ao) [.int x1, .int x2] u o (fun r q => r = nI 2 ∧ q.2 = o ∧ q.1 = u0) := by
  refine LM_of (lv := [(0, .ref (K 0)), (1, .int x1), (2, .int x2), (3, .ref ao)]) (cc := cL_add) (maxL := 5) (ret := some .int) (hh := [(0, 17, 20, 19), (0, 17, 24, 25)]) rfl (by decide +kernel) (Nat.le_of_ble_eq_true rfl) rfl ?_
  intro p e s m args below meth c X hKd hAM hAS hNC ht hml hr hlk
  generalize hQ : MQ below _ args s 1 6 _ = Q
  refine zz_aload_n 0 X.1 3 dL_add_0 rfl ?_
  refine zz_iconst 1 X.1 (v := nI 0) dL_add_1 rfl ?_
  refine zz_aload_n 2 X.1 0 dL_add_2 rfl ?_
  refine zz_iload_n 3 X.1 1 dL_add_3 rfl ?_
  refine zz_iload_n 4 X.1 2 dL_add_4 rfl ?_
  refine lm_callX 5 X hAM hml hao rfl (As := [.int x1, .int x2]) hX gL_add_X6_add rfl ⟨rfl, rfl⟩ yd_X6_add ⟨Nat.le_of_ble_eq_true rfl, Nat.le_of_ble_eq_true rfl⟩ rfl rfl (Nat.le_of_ble_eq_true rfl) ⟨Nat.le_of_ble_eq_true rfl, Nat.le_of_ble_eq_true rfl⟩ dL_add_5 [⟨0, 17, 20, 19⟩] ⟨0, 17, 24, 25⟩ [] ht (fun z hz => by cases List.mem_singleton.mp hz; exact Or.inr ⟨by decide, "java/lang/IllegalArgumentException", X.2.1 _ (by decide +kernel), hNC.1⟩) (by decide) (by decide) (name := "java/lang/IndexOutOfBoundsException") (by decide +kernel) (by decide +kernel) (hpc := 24) rfl ?_
  intro q9
  refine zz_astore 24 X.1 (lv' := [(4, .ref q9), (0, .ref (K 0)), (1, .int x1), (2, .int x2), (3, .ref ao)]) dL_add_24 (by decide) rfl ?_
  refine zz_iconst 26 X.1 (v := nI 2) dL_add_26 rfl ?_
  rw [← hQ]
  refine zz_iret 27 X.1 hr rfl hlk (u0, o) ⟨rfl, rfl, rfl⟩ (fun _ h => fun _ => h) dL_add_27

abbrev rw_remove : Room := { frames := 9, cells := 1, slots := 6, locals := 159 }
set_option maxHeartbeats 4000000 in
set_option maxRecDepth 100000 in
theorem wL_remove_ok (l : Launch) (D : va_G) (C : Nat → ClassId) (cD : ClassId) (K adK adV : Nat → Nat) (ao : Nat) (hAp : DAp K) (hao : ¬ DAd K ao) (u : CSt) (o : Int64) (x1 : Int32) (x2 : Int32) {postM : Int32 → CSt → Prop} (hM : CMi l yX6_remove wsX6_remove rm_X6_remove D C K 0 [.int x1, .int x2] u.1 u.2.1 u.2.2.1 u.2.2.2 postM) (rv : Int32) (CU : CSt → Prop) (hp : ∀ r q, postM r q → r = rv ∧ CU q) : LM l yL_remove wsL_remove rw_remove D C cD K adK adV ao (OLn C ao) [.int x1, .int x2] u o (fun r q => r = nI 0 ∧ q.2 = (if rv = 0 then 0 else 1 : Int64) ∧ CU q.1) := by
  refine LM_of (lv := [(0, .ref (K 0)), (1, .int x1), (2, .int x2), (3, .ref ao)]) (cc := cL_remove) (maxL := 5) (ret := some .int) (hh := [(0, 17, 20, 19), (0, 17, 24, 25)]) rfl (by decide +kernel) (Nat.le_of_ble_eq_true rfl) rfl ?_
  intro p e s m args below meth c X hKd hAM hAS hNC ht hml hr hlk
  generalize hQ : MQ below _ args s 1 6 _ = Q
  refine zz_aload_n 0 X.1 3 dL_remove_0 rfl ?_
  refine zz_iconst 1 X.1 (v := nI 0) dL_remove_1 rfl ?_
  refine zz_aload_n 2 X.1 0 dL_remove_2 rfl ?_
  refine zz_iload_n 3 X.1 1 dL_remove_3 rfl ?_
  refine zz_iload_n 4 X.1 2 dL_remove_4 rfl ?_
  refine lm_calli 5 X hml hao rfl (As := [.int x1, .int x2]) hM gL_remove_X6_remove rfl ⟨rfl, rfl⟩ yd_X6_remove ⟨Nat.le_of_ble_eq_true rfl, Nat.le_of_ble_eq_true rfl⟩ rfl rfl (Nat.le_of_ble_eq_true rfl) ⟨Nat.le_of_ble_eq_true rfl, Nat.le_of_ble_eq_true rfl⟩ dL_remove_5 ?_
  intro r q hq
  obtain ⟨he, hc⟩ := hp r q hq
  rw [he]
  refine zz_if_eq 8 15 X.1 rfl dL_remove_8 (by decide) (fun h => ?_) (fun h => ?_)
  · refine zz_lconst 15 X.1 (v := 0) dL_remove_15 (by decide) ?_
    refine lm_lst 16 X hAp hao dL_remove_16 ?_
    refine zz_goto 17 28 X.1 dL_remove_17 (by decide) ?_
    refine zz_widen (k := 1) (j := 6) (Nat.le_of_ble_eq_true rfl) (Nat.le_of_ble_eq_true rfl) ?_
    refine zz_iconst 28 X.1 (v := nI 0) dL_remove_28 rfl ?_
    rw [← hQ]
    refine zz_iret 29 X.1 hr rfl hlk (q, 0) ⟨rfl, (if_pos (i32_z h)).symm, hc⟩ (fun _ h => fun _ => h) dL_remove_29
  · refine zz_lconst 11 X.1 (v := 1) dL_remove_11 (by decide) ?_
    refine zz_goto 12 16 X.1 dL_remove_12 (by decide) ?_
    refine lm_lst 16 X hAp hao dL_remove_16 ?_
    refine zz_goto 17 28 X.1 dL_remove_17 (by decide) ?_
    refine zz_widen (k := 1) (j := 6) (Nat.le_of_ble_eq_true rfl) (Nat.le_of_ble_eq_true rfl) ?_
    refine zz_iconst 28 X.1 (v := nI 0) dL_remove_28 rfl ?_
    rw [← hQ]
    refine zz_iret 29 X.1 hr rfl hlk (q, 1) ⟨rfl, (if_neg (fun z => h (by rw [z]; rfl))).symm, hc⟩ (fun _ h => fun _ => h) dL_remove_29

set_option maxHeartbeats 4000000 in
set_option maxRecDepth 100000 in
theorem wL_remove_x1 (l : Launch) (D : va_G) (C : Nat → ClassId) (cD : ClassId) (K adK adV : Nat → Nat) (ao : Nat) (hAp : DAp K) (hao : ¬ DAd K ao) (u : CSt) (o : Int64) (x1 : Int32) (x2 : Int32) {u0 : CSt} (hX : CX l yX6_remove wsX6_remove rx_X6_remove D C K 0 [.int x1, .int x2] u.1 u.2.1 u.2.2.1 u.2.2.2 "java/lang/IllegalArgumentException" u0) : LM l yL_remove wsL_remove rw_remove D C cD K adK adV ao (OLn C ao) [.int x1, .int x2] u o (fun r q => r = nI 1 ∧ q.2 = o ∧ q.1 = u0) := by
  refine LM_of (lv := [(0, .ref (K 0)), (1, .int x1), (2, .int x2), (3, .ref ao)]) (cc := cL_remove) (maxL := 5) (ret := some .int) (hh := [(0, 17, 20, 19), (0, 17, 24, 25)]) rfl (by decide +kernel) (Nat.le_of_ble_eq_true rfl) rfl ?_
  intro p e s m args below meth c X hKd hAM hAS hNC ht hml hr hlk
  generalize hQ : MQ below _ args s 1 6 _ = Q
  refine zz_aload_n 0 X.1 3 dL_remove_0 rfl ?_
  refine zz_iconst 1 X.1 (v := nI 0) dL_remove_1 rfl ?_
  refine zz_aload_n 2 X.1 0 dL_remove_2 rfl ?_
  refine zz_iload_n 3 X.1 1 dL_remove_3 rfl ?_
  refine zz_iload_n 4 X.1 2 dL_remove_4 rfl ?_
  refine lm_callX 5 X hAM hml hao rfl (As := [.int x1, .int x2]) hX gL_remove_X6_remove rfl ⟨rfl, rfl⟩ yd_X6_remove ⟨Nat.le_of_ble_eq_true rfl, Nat.le_of_ble_eq_true rfl⟩ rfl rfl (Nat.le_of_ble_eq_true rfl) ⟨Nat.le_of_ble_eq_true rfl, Nat.le_of_ble_eq_true rfl⟩ dL_remove_5 [] ⟨0, 17, 20, 19⟩ [⟨0, 17, 24, 25⟩] ht (fun z hz => absurd hz List.not_mem_nil) (by decide) (by decide) (name := "java/lang/IllegalArgumentException") (by decide +kernel) (by decide +kernel) (hpc := 20) rfl ?_
  intro q9
  refine zz_astore 20 X.1 (lv' := [(4, .ref q9), (0, .ref (K 0)), (1, .int x1), (2, .int x2), (3, .ref ao)]) dL_remove_20 (by decide) rfl ?_
  refine zz_iconst 22 X.1 (v := nI 1) dL_remove_22 rfl ?_
  rw [← hQ]
  refine zz_iret 23 X.1 hr rfl hlk (u0, o) ⟨rfl, rfl, rfl⟩ (fun _ h => fun _ => h) dL_remove_23

set_option maxHeartbeats 4000000 in
set_option maxRecDepth 100000 in
theorem wL_remove_x2 (l : Launch) (D : va_G) (C : Nat → ClassId) (cD : ClassId) (K adK adV : Nat → Nat) (ao : Nat) (hAp : DAp K) (hao : ¬ DAd K ao) (u : CSt) (o : Int64) (x1 : Int32) (x2 : Int32) {u0 : CSt} (hX : CX l yX6_remove wsX6_remove rx_X6_remove D C K 0 [.int x1, .int x2] u.1 u.2.1 u.2.2.1 u.2.2.2 "java/lang/IndexOutOfBoundsException" u0) : LM l yL_remove wsL_remove rw_remove D C cD K adK adV ao (OLn C ao) [.int x1, .int x2] u o (fun r q => r = nI 2 ∧ q.2 = o ∧ q.1 = u0) := by
  refine LM_of (lv := [(0, .ref (K 0)), (1, .int x1), (2, .int x2), (3, .ref ao)]) (cc := cL_remove) (maxL := 5) (ret := some .int) (hh := [(0, 17, 20, 19), (0, 17, 24, 25)]) rfl (by decide +kernel) (Nat.le_of_ble_eq_true rfl) rfl ?_
  intro p e s m args below meth c X hKd hAM hAS hNC ht hml hr hlk
  generalize hQ : MQ below _ args s 1 6 _ = Q
  refine zz_aload_n 0 X.1 3 dL_remove_0 rfl ?_
  refine zz_iconst 1 X.1 (v := nI 0) dL_remove_1 rfl ?_
  refine zz_aload_n 2 X.1 0 dL_remove_2 rfl ?_
  refine zz_iload_n 3 X.1 1 dL_remove_3 rfl ?_
  refine zz_iload_n 4 X.1 2 dL_remove_4 rfl ?_
  refine lm_callX 5 X hAM hml hao rfl (As := [.int x1, .int x2]) hX gL_remove_X6_remove rfl ⟨rfl, rfl⟩ yd_X6_remove ⟨Nat.le_of_ble_eq_true rfl, Nat.le_of_ble_eq_true rfl⟩ rfl rfl (Nat.le_of_ble_eq_true rfl) ⟨Nat.le_of_ble_eq_true rfl, Nat.le_of_ble_eq_true rfl⟩ dL_remove_5 [⟨0, 17, 20, 19⟩] ⟨0, 17, 24, 25⟩ [] ht (fun z hz => by cases List.mem_singleton.mp hz; exact Or.inr ⟨by decide, "java/lang/IllegalArgumentException", X.2.1 _ (by decide +kernel), hNC.1⟩) (by decide) (by decide) (name := "java/lang/IndexOutOfBoundsException") (by decide +kernel) (by decide +kernel) (hpc := 24) rfl ?_
  intro q9
  refine zz_astore 24 X.1 (lv' := [(4, .ref q9), (0, .ref (K 0)), (1, .int x1), (2, .int x2), (3, .ref ao)]) dL_remove_24 (by decide) rfl ?_
  refine zz_iconst 26 X.1 (v := nI 2) dL_remove_26 rfl ?_
  rw [← hQ]
  refine zz_iret 27 X.1 hr rfl hlk (u0, o) ⟨rfl, rfl, rfl⟩ (fun _ h => fun _ => h) dL_remove_27

abbrev rw_put : Room := { frames := 10, cells := 1, slots := 6, locals := 182 }
set_option maxHeartbeats 4000000 in
set_option maxRecDepth 100000 in
theorem wL_put_ok (l : Launch) (D : va_G) (C : Nat → ClassId) (cD : ClassId) (K adK adV : Nat → Nat) (ao : Nat) (hAp : DAp K) (hao : ¬ DAd K ao) (u : CSt) (o : Int64) (x1 : Int32) (x2 : Int32) (x3 : Int32) {postM : Int32 → CSt → Prop} (hM : CMi l yX6_put wsX6_put rm_X6_put D C K 0 [.int x1, .int x2, .int x3] u.1 u.2.1 u.2.2.1 u.2.2.2 postM) (rv : Int32) (CU : CSt → Prop) (hp : ∀ r q, postM r q → r = rv ∧ CU q) : LM l yL_put wsL_put rw_put D C cD K adK adV ao (OLn C ao) [.int x1, .int x2, .int x3] u o (fun r q => r = nI 0 ∧ q.2 = (if rv = 0 then 0 else 1 : Int64) ∧ CU q.1) := by
  refine LM_of (lv := [(0, .ref (K 0)), (1, .int x1), (2, .int x2), (3, .int x3), (4, .ref ao)]) (cc := cL_put) (maxL := 6) (ret := some .int) (hh := [(0, 19, 22, 19), (0, 19, 26, 25)]) rfl (by decide +kernel) (Nat.le_of_ble_eq_true rfl) rfl ?_
  intro p e s m args below meth c X hKd hAM hAS hNC ht hml hr hlk
  generalize hQ : MQ below _ args s 1 6 _ = Q
  refine zz_aload 0 X.1 4 dL_put_0 rfl ?_
  refine zz_iconst 2 X.1 (v := nI 0) dL_put_2 rfl ?_
  refine zz_aload_n 3 X.1 0 dL_put_3 rfl ?_
  refine zz_iload_n 4 X.1 1 dL_put_4 rfl ?_
  refine zz_iload_n 5 X.1 2 dL_put_5 rfl ?_
  refine zz_iload_n 6 X.1 3 dL_put_6 rfl ?_
  refine lm_calli 7 X hml hao rfl (As := [.int x1, .int x2, .int x3]) hM gL_put_X6_put rfl ⟨rfl, rfl⟩ yd_X6_put ⟨Nat.le_of_ble_eq_true rfl, Nat.le_of_ble_eq_true rfl⟩ rfl rfl (Nat.le_of_ble_eq_true rfl) ⟨Nat.le_of_ble_eq_true rfl, Nat.le_of_ble_eq_true rfl⟩ dL_put_7 ?_
  intro r q hq
  obtain ⟨he, hc⟩ := hp r q hq
  rw [he]
  refine zz_if_eq 10 17 X.1 rfl dL_put_10 (by decide) (fun h => ?_) (fun h => ?_)
  · refine zz_lconst 17 X.1 (v := 0) dL_put_17 (by decide) ?_
    refine lm_lst 18 X hAp hao dL_put_18 ?_
    refine zz_goto 19 30 X.1 dL_put_19 (by decide) ?_
    refine zz_widen (k := 1) (j := 6) (Nat.le_of_ble_eq_true rfl) (Nat.le_of_ble_eq_true rfl) ?_
    refine zz_iconst 30 X.1 (v := nI 0) dL_put_30 rfl ?_
    rw [← hQ]
    refine zz_iret 31 X.1 hr rfl hlk (q, 0) ⟨rfl, (if_pos (i32_z h)).symm, hc⟩ (fun _ h => fun _ => h) dL_put_31
  · refine zz_lconst 13 X.1 (v := 1) dL_put_13 (by decide) ?_
    refine zz_goto 14 18 X.1 dL_put_14 (by decide) ?_
    refine lm_lst 18 X hAp hao dL_put_18 ?_
    refine zz_goto 19 30 X.1 dL_put_19 (by decide) ?_
    refine zz_widen (k := 1) (j := 6) (Nat.le_of_ble_eq_true rfl) (Nat.le_of_ble_eq_true rfl) ?_
    refine zz_iconst 30 X.1 (v := nI 0) dL_put_30 rfl ?_
    rw [← hQ]
    refine zz_iret 31 X.1 hr rfl hlk (q, 1) ⟨rfl, (if_neg (fun z => h (by rw [z]; rfl))).symm, hc⟩ (fun _ h => fun _ => h) dL_put_31

set_option maxHeartbeats 4000000 in
set_option maxRecDepth 100000 in
theorem wL_put_x1 (l : Launch) (D : va_G) (C : Nat → ClassId) (cD : ClassId) (K adK adV : Nat → Nat) (ao : Nat) (hAp : DAp K) (hao : ¬ DAd K ao) (u : CSt) (o : Int64) (x1 : Int32) (x2 : Int32) (x3 : Int32) {u0 : CSt} (hX : CX l yX6_put wsX6_put rx_X6_put D C K 0 [.int x1, .int x2, .int x3] u.1 u.2.1 u.2.2.1 u.2.2.2 "java/lang/IllegalArgumentException" u0) : LM l yL_put wsL_put rw_put D C cD K adK adV ao (OLn C ao) [.int x1, .int x2, .int x3] u o (fun r q => r = nI 1 ∧ q.2 = o ∧ q.1 = u0) := by
  refine LM_of (lv := [(0, .ref (K 0)), (1, .int x1), (2, .int x2), (3, .int x3), (4, .ref ao)]) (cc := cL_put) (maxL := 6) (ret := some .int) (hh := [(0, 19, 22, 19), (0, 19, 26, 25)]) rfl (by decide +kernel) (Nat.le_of_ble_eq_true rfl) rfl ?_
  intro p e s m args below meth c X hKd hAM hAS hNC ht hml hr hlk
  generalize hQ : MQ below _ args s 1 6 _ = Q
  refine zz_aload 0 X.1 4 dL_put_0 rfl ?_
  refine zz_iconst 2 X.1 (v := nI 0) dL_put_2 rfl ?_
  refine zz_aload_n 3 X.1 0 dL_put_3 rfl ?_
  refine zz_iload_n 4 X.1 1 dL_put_4 rfl ?_
  refine zz_iload_n 5 X.1 2 dL_put_5 rfl ?_
  refine zz_iload_n 6 X.1 3 dL_put_6 rfl ?_
  refine lm_callX 7 X hAM hml hao rfl (As := [.int x1, .int x2, .int x3]) hX gL_put_X6_put rfl ⟨rfl, rfl⟩ yd_X6_put ⟨Nat.le_of_ble_eq_true rfl, Nat.le_of_ble_eq_true rfl⟩ rfl rfl (Nat.le_of_ble_eq_true rfl) ⟨Nat.le_of_ble_eq_true rfl, Nat.le_of_ble_eq_true rfl⟩ dL_put_7 [] ⟨0, 19, 22, 19⟩ [⟨0, 19, 26, 25⟩] ht (fun z hz => absurd hz List.not_mem_nil) (by decide) (by decide) (name := "java/lang/IllegalArgumentException") (by decide +kernel) (by decide +kernel) (hpc := 22) rfl ?_
  intro q9
  refine zz_astore 22 X.1 (lv' := [(5, .ref q9), (0, .ref (K 0)), (1, .int x1), (2, .int x2), (3, .int x3), (4, .ref ao)]) dL_put_22 (by decide) rfl ?_
  refine zz_iconst 24 X.1 (v := nI 1) dL_put_24 rfl ?_
  rw [← hQ]
  refine zz_iret 25 X.1 hr rfl hlk (u0, o) ⟨rfl, rfl, rfl⟩ (fun _ h => fun _ => h) dL_put_25

set_option maxHeartbeats 4000000 in
set_option maxRecDepth 100000 in
theorem wL_put_x2 (l : Launch) (D : va_G) (C : Nat → ClassId) (cD : ClassId) (K adK adV : Nat → Nat) (ao : Nat) (hAp : DAp K) (hao : ¬ DAd K ao) (u : CSt) (o : Int64) (x1 : Int32) (x2 : Int32) (x3 : Int32) {u0 : CSt} (hX : CX l yX6_put wsX6_put rx_X6_put D C K 0 [.int x1, .int x2, .int x3] u.1 u.2.1 u.2.2.1 u.2.2.2 "java/lang/IndexOutOfBoundsException" u0) : LM l yL_put wsL_put rw_put D C cD K adK adV ao (OLn C ao) [.int x1, .int x2, .int x3] u o (fun r q => r = nI 2 ∧ q.2 = o ∧ q.1 = u0) := by
  refine LM_of (lv := [(0, .ref (K 0)), (1, .int x1), (2, .int x2), (3, .int x3), (4, .ref ao)]) (cc := cL_put) (maxL := 6) (ret := some .int) (hh := [(0, 19, 22, 19), (0, 19, 26, 25)]) rfl (by decide +kernel) (Nat.le_of_ble_eq_true rfl) rfl ?_
  intro p e s m args below meth c X hKd hAM hAS hNC ht hml hr hlk
  generalize hQ : MQ below _ args s 1 6 _ = Q
  refine zz_aload 0 X.1 4 dL_put_0 rfl ?_
  refine zz_iconst 2 X.1 (v := nI 0) dL_put_2 rfl ?_
  refine zz_aload_n 3 X.1 0 dL_put_3 rfl ?_
  refine zz_iload_n 4 X.1 1 dL_put_4 rfl ?_
  refine zz_iload_n 5 X.1 2 dL_put_5 rfl ?_
  refine zz_iload_n 6 X.1 3 dL_put_6 rfl ?_
  refine lm_callX 7 X hAM hml hao rfl (As := [.int x1, .int x2, .int x3]) hX gL_put_X6_put rfl ⟨rfl, rfl⟩ yd_X6_put ⟨Nat.le_of_ble_eq_true rfl, Nat.le_of_ble_eq_true rfl⟩ rfl rfl (Nat.le_of_ble_eq_true rfl) ⟨Nat.le_of_ble_eq_true rfl, Nat.le_of_ble_eq_true rfl⟩ dL_put_7 [⟨0, 19, 22, 19⟩] ⟨0, 19, 26, 25⟩ [] ht (fun z hz => by cases List.mem_singleton.mp hz; exact Or.inr ⟨by decide, "java/lang/IllegalArgumentException", X.2.1 _ (by decide +kernel), hNC.1⟩) (by decide) (by decide) (name := "java/lang/IndexOutOfBoundsException") (by decide +kernel) (by decide +kernel) (hpc := 26) rfl ?_
  intro q9
  refine zz_astore 26 X.1 (lv' := [(5, .ref q9), (0, .ref (K 0)), (1, .int x1), (2, .int x2), (3, .int x3), (4, .ref ao)]) dL_put_26 (by decide) rfl ?_
  refine zz_iconst 28 X.1 (v := nI 2) dL_put_28 rfl ?_
  rw [← hQ]
  refine zz_iret 29 X.1 hr rfl hlk (u0, o) ⟨rfl, rfl, rfl⟩ (fun _ h => fun _ => h) dL_put_29

abbrev rw_flip : Room := { frames := 10, cells := 1, slots := 6, locals := 181 }
set_option maxHeartbeats 4000000 in
set_option maxRecDepth 100000 in
theorem wL_flip_ok (l : Launch) (D : va_G) (C : Nat → ClassId) (cD : ClassId) (K adK adV : Nat → Nat) (ao : Nat) (hAp : DAp K) (hao : ¬ DAd K ao) (u : CSt) (o : Int64) (x1 : Int32) (x2 : Int32) {postM : Int32 → CSt → Prop} (hM : CMi l yX6_flip wsX6_flip rm_X6_flip D C K 0 [.int x1, .int x2] u.1 u.2.1 u.2.2.1 u.2.2.2 postM) (rv : Int32) (CU : CSt → Prop) (hp : ∀ r q, postM r q → r = rv ∧ CU q) : LM l yL_flip wsL_flip rw_flip D C cD K adK adV ao (OLn C ao) [.int x1, .int x2] u o (fun r q => r = nI 0 ∧ q.2 = (if rv = 0 then 0 else 1 : Int64) ∧ CU q.1) := by
  refine LM_of (lv := [(0, .ref (K 0)), (1, .int x1), (2, .int x2), (3, .ref ao)]) (cc := cL_flip) (maxL := 5) (ret := some .int) (hh := [(0, 17, 20, 19), (0, 17, 24, 25)]) rfl (by decide +kernel) (Nat.le_of_ble_eq_true rfl) rfl ?_
  intro p e s m args below meth c X hKd hAM hAS hNC ht hml hr hlk
  generalize hQ : MQ below _ args s 1 6 _ = Q
  refine zz_aload_n 0 X.1 3 dL_flip_0 rfl ?_
  refine zz_iconst 1 X.1 (v := nI 0) dL_flip_1 rfl ?_
  refine zz_aload_n 2 X.1 0 dL_flip_2 rfl ?_
  refine zz_iload_n 3 X.1 1 dL_flip_3 rfl ?_
  refine zz_iload_n 4 X.1 2 dL_flip_4 rfl ?_
  refine lm_calli 5 X hml hao rfl (As := [.int x1, .int x2]) hM gL_flip_X6_flip rfl ⟨rfl, rfl⟩ yd_X6_flip ⟨Nat.le_of_ble_eq_true rfl, Nat.le_of_ble_eq_true rfl⟩ rfl rfl (Nat.le_of_ble_eq_true rfl) ⟨Nat.le_of_ble_eq_true rfl, Nat.le_of_ble_eq_true rfl⟩ dL_flip_5 ?_
  intro r q hq
  obtain ⟨he, hc⟩ := hp r q hq
  rw [he]
  refine zz_if_eq 8 15 X.1 rfl dL_flip_8 (by decide) (fun h => ?_) (fun h => ?_)
  · refine zz_lconst 15 X.1 (v := 0) dL_flip_15 (by decide) ?_
    refine lm_lst 16 X hAp hao dL_flip_16 ?_
    refine zz_goto 17 28 X.1 dL_flip_17 (by decide) ?_
    refine zz_widen (k := 1) (j := 6) (Nat.le_of_ble_eq_true rfl) (Nat.le_of_ble_eq_true rfl) ?_
    refine zz_iconst 28 X.1 (v := nI 0) dL_flip_28 rfl ?_
    rw [← hQ]
    refine zz_iret 29 X.1 hr rfl hlk (q, 0) ⟨rfl, (if_pos (i32_z h)).symm, hc⟩ (fun _ h => fun _ => h) dL_flip_29
  · refine zz_lconst 11 X.1 (v := 1) dL_flip_11 (by decide) ?_
    refine zz_goto 12 16 X.1 dL_flip_12 (by decide) ?_
    refine lm_lst 16 X hAp hao dL_flip_16 ?_
    refine zz_goto 17 28 X.1 dL_flip_17 (by decide) ?_
    refine zz_widen (k := 1) (j := 6) (Nat.le_of_ble_eq_true rfl) (Nat.le_of_ble_eq_true rfl) ?_
    refine zz_iconst 28 X.1 (v := nI 0) dL_flip_28 rfl ?_
    rw [← hQ]
    refine zz_iret 29 X.1 hr rfl hlk (q, 1) ⟨rfl, (if_neg (fun z => h (by rw [z]; rfl))).symm, hc⟩ (fun _ h => fun _ => h) dL_flip_29

set_option maxHeartbeats 4000000 in
set_option maxRecDepth 100000 in
theorem wL_flip_x1 (l : Launch) (D : va_G) (C : Nat → ClassId) (cD : ClassId) (K adK adV : Nat → Nat) (ao : Nat) (hAp : DAp K) (hao : ¬ DAd K ao) (u : CSt) (o : Int64) (x1 : Int32) (x2 : Int32) {u0 : CSt} (hX : CX l yX6_flip wsX6_flip rx_X6_flip D C K 0 [.int x1, .int x2] u.1 u.2.1 u.2.2.1 u.2.2.2 "java/lang/IllegalArgumentException" u0) : LM l yL_flip wsL_flip rw_flip D C cD K adK adV ao (OLn C ao) [.int x1, .int x2] u o (fun r q => r = nI 1 ∧ q.2 = o ∧ q.1 = u0) := by
  refine LM_of (lv := [(0, .ref (K 0)), (1, .int x1), (2, .int x2), (3, .ref ao)]) (cc := cL_flip) (maxL := 5) (ret := some .int) (hh := [(0, 17, 20, 19), (0, 17, 24, 25)]) rfl (by decide +kernel) (Nat.le_of_ble_eq_true rfl) rfl ?_
  intro p e s m args below meth c X hKd hAM hAS hNC ht hml hr hlk
  generalize hQ : MQ below _ args s 1 6 _ = Q
  refine zz_aload_n 0 X.1 3 dL_flip_0 rfl ?_
  refine zz_iconst 1 X.1 (v := nI 0) dL_flip_1 rfl ?_
  refine zz_aload_n 2 X.1 0 dL_flip_2 rfl ?_
  refine zz_iload_n 3 X.1 1 dL_flip_3 rfl ?_
  refine zz_iload_n 4 X.1 2 dL_flip_4 rfl ?_
  refine lm_callX 5 X hAM hml hao rfl (As := [.int x1, .int x2]) hX gL_flip_X6_flip rfl ⟨rfl, rfl⟩ yd_X6_flip ⟨Nat.le_of_ble_eq_true rfl, Nat.le_of_ble_eq_true rfl⟩ rfl rfl (Nat.le_of_ble_eq_true rfl) ⟨Nat.le_of_ble_eq_true rfl, Nat.le_of_ble_eq_true rfl⟩ dL_flip_5 [] ⟨0, 17, 20, 19⟩ [⟨0, 17, 24, 25⟩] ht (fun z hz => absurd hz List.not_mem_nil) (by decide) (by decide) (name := "java/lang/IllegalArgumentException") (by decide +kernel) (by decide +kernel) (hpc := 20) rfl ?_
  intro q9
  refine zz_astore 20 X.1 (lv' := [(4, .ref q9), (0, .ref (K 0)), (1, .int x1), (2, .int x2), (3, .ref ao)]) dL_flip_20 (by decide) rfl ?_
  refine zz_iconst 22 X.1 (v := nI 1) dL_flip_22 rfl ?_
  rw [← hQ]
  refine zz_iret 23 X.1 hr rfl hlk (u0, o) ⟨rfl, rfl, rfl⟩ (fun _ h => fun _ => h) dL_flip_23

set_option maxHeartbeats 4000000 in
set_option maxRecDepth 100000 in
theorem wL_flip_x2 (l : Launch) (D : va_G) (C : Nat → ClassId) (cD : ClassId) (K adK adV : Nat → Nat) (ao : Nat) (hAp : DAp K) (hao : ¬ DAd K ao) (u : CSt) (o : Int64) (x1 : Int32) (x2 : Int32) {u0 : CSt} (hX : CX l yX6_flip wsX6_flip rx_X6_flip D C K 0 [.int x1, .int x2] u.1 u.2.1 u.2.2.1 u.2.2.2 "java/lang/IndexOutOfBoundsException" u0) : LM l yL_flip wsL_flip rw_flip D C cD K adK adV ao (OLn C ao) [.int x1, .int x2] u o (fun r q => r = nI 2 ∧ q.2 = o ∧ q.1 = u0) := by
  refine LM_of (lv := [(0, .ref (K 0)), (1, .int x1), (2, .int x2), (3, .ref ao)]) (cc := cL_flip) (maxL := 5) (ret := some .int) (hh := [(0, 17, 20, 19), (0, 17, 24, 25)]) rfl (by decide +kernel) (Nat.le_of_ble_eq_true rfl) rfl ?_
  intro p e s m args below meth c X hKd hAM hAS hNC ht hml hr hlk
  generalize hQ : MQ below _ args s 1 6 _ = Q
  refine zz_aload_n 0 X.1 3 dL_flip_0 rfl ?_
  refine zz_iconst 1 X.1 (v := nI 0) dL_flip_1 rfl ?_
  refine zz_aload_n 2 X.1 0 dL_flip_2 rfl ?_
  refine zz_iload_n 3 X.1 1 dL_flip_3 rfl ?_
  refine zz_iload_n 4 X.1 2 dL_flip_4 rfl ?_
  refine lm_callX 5 X hAM hml hao rfl (As := [.int x1, .int x2]) hX gL_flip_X6_flip rfl ⟨rfl, rfl⟩ yd_X6_flip ⟨Nat.le_of_ble_eq_true rfl, Nat.le_of_ble_eq_true rfl⟩ rfl rfl (Nat.le_of_ble_eq_true rfl) ⟨Nat.le_of_ble_eq_true rfl, Nat.le_of_ble_eq_true rfl⟩ dL_flip_5 [⟨0, 17, 20, 19⟩] ⟨0, 17, 24, 25⟩ [] ht (fun z hz => by cases List.mem_singleton.mp hz; exact Or.inr ⟨by decide, "java/lang/IllegalArgumentException", X.2.1 _ (by decide +kernel), hNC.1⟩) (by decide) (by decide) (name := "java/lang/IndexOutOfBoundsException") (by decide +kernel) (by decide +kernel) (hpc := 24) rfl ?_
  intro q9
  refine zz_astore 24 X.1 (lv' := [(4, .ref q9), (0, .ref (K 0)), (1, .int x1), (2, .int x2), (3, .ref ao)]) dL_flip_24 (by decide) rfl ?_
  refine zz_iconst 26 X.1 (v := nI 2) dL_flip_26 rfl ?_
  rw [← hQ]
  refine zz_iret 27 X.1 hr rfl hlk (u0, o) ⟨rfl, rfl, rfl⟩ (fun _ h => fun _ => h) dL_flip_27

abbrev rw_addRange : Room := { frames := 10, cells := 1, slots := 6, locals := 182 }
set_option maxHeartbeats 4000000 in
set_option maxRecDepth 100000 in
theorem wL_addRange_ok (l : Launch) (D : va_G) (C : Nat → ClassId) (cD : ClassId) (K adK adV : Nat → Nat) (ao : Nat) (hAp : DAp K) (hao : ¬ DAd K ao) (u : CSt) (o : Int64) (x1 : Int32) (x2 : Int32) (x3 : Int32) {postM : Int32 → CSt → Prop} (hM : CMi l yX6_addRange wsX6_addRange rm_X6_addRange D C K 0 [.int x1, .int x2, .int x3] u.1 u.2.1 u.2.2.1 u.2.2.2 postM) (rv : Int32) (CU : CSt → Prop) (hp : ∀ r q, postM r q → r = rv ∧ CU q) : LM l yL_addRange wsL_addRange rw_addRange D C cD K adK adV ao (OLn C ao) [.int x1, .int x2, .int x3] u o (fun r q => r = nI 0 ∧ q.2 = rv.toInt64 ∧ CU q.1) := by
  refine LM_of (lv := [(0, .ref (K 0)), (1, .int x1), (2, .int x2), (3, .int x3), (4, .ref ao)]) (cc := cL_addRange) (maxL := 6) (ret := some .int) (hh := [(0, 12, 15, 19), (0, 12, 19, 25)]) rfl (by decide +kernel) (Nat.le_of_ble_eq_true rfl) rfl ?_
  intro p e s m args below meth c X hKd hAM hAS hNC ht hml hr hlk
  generalize hQ : MQ below _ args s 1 6 _ = Q
  refine zz_aload 0 X.1 4 dL_addRange_0 rfl ?_
  refine zz_iconst 2 X.1 (v := nI 0) dL_addRange_2 rfl ?_
  refine zz_aload_n 3 X.1 0 dL_addRange_3 rfl ?_
  refine zz_iload_n 4 X.1 1 dL_addRange_4 rfl ?_
  refine zz_iload_n 5 X.1 2 dL_addRange_5 rfl ?_
  refine zz_iload_n 6 X.1 3 dL_addRange_6 rfl ?_
  refine lm_calli 7 X hml hao rfl (As := [.int x1, .int x2, .int x3]) hM gL_addRange_X6_addRange rfl ⟨rfl, rfl⟩ yd_X6_addRange ⟨Nat.le_of_ble_eq_true rfl, Nat.le_of_ble_eq_true rfl⟩ rfl rfl (Nat.le_of_ble_eq_true rfl) ⟨Nat.le_of_ble_eq_true rfl, Nat.le_of_ble_eq_true rfl⟩ dL_addRange_7 ?_
  intro r q hq
  obtain ⟨he, hc⟩ := hp r q hq
  rw [he]
  refine zz_i2l 10 X.1 dL_addRange_10 rfl ?_
  refine lm_lst 11 X hAp hao dL_addRange_11 ?_
  refine zz_goto 12 23 X.1 dL_addRange_12 (by decide) ?_
  refine zz_widen (k := 1) (j := 6) (Nat.le_of_ble_eq_true rfl) (Nat.le_of_ble_eq_true rfl) ?_
  refine zz_iconst 23 X.1 (v := nI 0) dL_addRange_23 rfl ?_
  rw [← hQ]
  refine zz_iret 24 X.1 hr rfl hlk (q, rv.toInt64) ⟨rfl, rfl, hc⟩ (fun _ h => fun _ => h) dL_addRange_24

set_option maxHeartbeats 4000000 in
set_option maxRecDepth 100000 in
theorem wL_addRange_x1 (l : Launch) (D : va_G) (C : Nat → ClassId) (cD : ClassId) (K adK adV : Nat → Nat) (ao : Nat) (hAp : DAp K) (hao : ¬ DAd K ao) (u : CSt) (o : Int64) (x1 : Int32) (x2 : Int32) (x3 : Int32) {u0 : CSt} (hX : CX l yX6_addRange wsX6_addRange rx_X6_addRange D C K 0 [.int x1, .int x2, .int x3] u.1 u.2.1 u.2.2.1 u.2.2.2 "java/lang/IllegalArgumentException" u0) : LM l yL_addRange wsL_addRange rw_addRange D C cD K adK adV ao (OLn C ao) [.int x1, .int x2, .int x3] u o (fun r q => r = nI 1 ∧ q.2 = o ∧ q.1 = u0) := by
  refine LM_of (lv := [(0, .ref (K 0)), (1, .int x1), (2, .int x2), (3, .int x3), (4, .ref ao)]) (cc := cL_addRange) (maxL := 6) (ret := some .int) (hh := [(0, 12, 15, 19), (0, 12, 19, 25)]) rfl (by decide +kernel) (Nat.le_of_ble_eq_true rfl) rfl ?_
  intro p e s m args below meth c X hKd hAM hAS hNC ht hml hr hlk
  generalize hQ : MQ below _ args s 1 6 _ = Q
  refine zz_aload 0 X.1 4 dL_addRange_0 rfl ?_
  refine zz_iconst 2 X.1 (v := nI 0) dL_addRange_2 rfl ?_
  refine zz_aload_n 3 X.1 0 dL_addRange_3 rfl ?_
  refine zz_iload_n 4 X.1 1 dL_addRange_4 rfl ?_
  refine zz_iload_n 5 X.1 2 dL_addRange_5 rfl ?_
  refine zz_iload_n 6 X.1 3 dL_addRange_6 rfl ?_
  refine lm_callX 7 X hAM hml hao rfl (As := [.int x1, .int x2, .int x3]) hX gL_addRange_X6_addRange rfl ⟨rfl, rfl⟩ yd_X6_addRange ⟨Nat.le_of_ble_eq_true rfl, Nat.le_of_ble_eq_true rfl⟩ rfl rfl (Nat.le_of_ble_eq_true rfl) ⟨Nat.le_of_ble_eq_true rfl, Nat.le_of_ble_eq_true rfl⟩ dL_addRange_7 [] ⟨0, 12, 15, 19⟩ [⟨0, 12, 19, 25⟩] ht (fun z hz => absurd hz List.not_mem_nil) (by decide) (by decide) (name := "java/lang/IllegalArgumentException") (by decide +kernel) (by decide +kernel) (hpc := 15) rfl ?_
  intro q9
  refine zz_astore 15 X.1 (lv' := [(5, .ref q9), (0, .ref (K 0)), (1, .int x1), (2, .int x2), (3, .int x3), (4, .ref ao)]) dL_addRange_15 (by decide) rfl ?_
  refine zz_iconst 17 X.1 (v := nI 1) dL_addRange_17 rfl ?_
  rw [← hQ]
  refine zz_iret 18 X.1 hr rfl hlk (u0, o) ⟨rfl, rfl, rfl⟩ (fun _ h => fun _ => h) dL_addRange_18

set_option maxHeartbeats 4000000 in
set_option maxRecDepth 100000 in
theorem wL_addRange_x2 (l : Launch) (D : va_G) (C : Nat → ClassId) (cD : ClassId) (K adK adV : Nat → Nat) (ao : Nat) (hAp : DAp K) (hao : ¬ DAd K ao) (u : CSt) (o : Int64) (x1 : Int32) (x2 : Int32) (x3 : Int32) {u0 : CSt} (hX : CX l yX6_addRange wsX6_addRange rx_X6_addRange D C K 0 [.int x1, .int x2, .int x3] u.1 u.2.1 u.2.2.1 u.2.2.2 "java/lang/IndexOutOfBoundsException" u0) : LM l yL_addRange wsL_addRange rw_addRange D C cD K adK adV ao (OLn C ao) [.int x1, .int x2, .int x3] u o (fun r q => r = nI 2 ∧ q.2 = o ∧ q.1 = u0) := by
  refine LM_of (lv := [(0, .ref (K 0)), (1, .int x1), (2, .int x2), (3, .int x3), (4, .ref ao)]) (cc := cL_addRange) (maxL := 6) (ret := some .int) (hh := [(0, 12, 15, 19), (0, 12, 19, 25)]) rfl (by decide +kernel) (Nat.le_of_ble_eq_true rfl) rfl ?_
  intro p e s m args below meth c X hKd hAM hAS hNC ht hml hr hlk
  generalize hQ : MQ below _ args s 1 6 _ = Q
  refine zz_aload 0 X.1 4 dL_addRange_0 rfl ?_
  refine zz_iconst 2 X.1 (v := nI 0) dL_addRange_2 rfl ?_
  refine zz_aload_n 3 X.1 0 dL_addRange_3 rfl ?_
  refine zz_iload_n 4 X.1 1 dL_addRange_4 rfl ?_
  refine zz_iload_n 5 X.1 2 dL_addRange_5 rfl ?_
  refine zz_iload_n 6 X.1 3 dL_addRange_6 rfl ?_
  refine lm_callX 7 X hAM hml hao rfl (As := [.int x1, .int x2, .int x3]) hX gL_addRange_X6_addRange rfl ⟨rfl, rfl⟩ yd_X6_addRange ⟨Nat.le_of_ble_eq_true rfl, Nat.le_of_ble_eq_true rfl⟩ rfl rfl (Nat.le_of_ble_eq_true rfl) ⟨Nat.le_of_ble_eq_true rfl, Nat.le_of_ble_eq_true rfl⟩ dL_addRange_7 [⟨0, 12, 15, 19⟩] ⟨0, 12, 19, 25⟩ [] ht (fun z hz => by cases List.mem_singleton.mp hz; exact Or.inr ⟨by decide, "java/lang/IllegalArgumentException", X.2.1 _ (by decide +kernel), hNC.1⟩) (by decide) (by decide) (name := "java/lang/IndexOutOfBoundsException") (by decide +kernel) (by decide +kernel) (hpc := 19) rfl ?_
  intro q9
  refine zz_astore 19 X.1 (lv' := [(5, .ref q9), (0, .ref (K 0)), (1, .int x1), (2, .int x2), (3, .int x3), (4, .ref ao)]) dL_addRange_19 (by decide) rfl ?_
  refine zz_iconst 21 X.1 (v := nI 2) dL_addRange_21 rfl ?_
  rw [← hQ]
  refine zz_iret 22 X.1 hr rfl hlk (u0, o) ⟨rfl, rfl, rfl⟩ (fun _ h => fun _ => h) dL_addRange_22

abbrev rw_removeRange : Room := { frames := 9, cells := 1, slots := 6, locals := 159 }
set_option maxHeartbeats 4000000 in
set_option maxRecDepth 100000 in
theorem wL_removeRange_ok (l : Launch) (D : va_G) (C : Nat → ClassId) (cD : ClassId) (K adK adV : Nat → Nat) (ao : Nat) (hAp : DAp K) (hao : ¬ DAd K ao) (u : CSt) (o : Int64) (x1 : Int32) (x2 : Int32) (x3 : Int32) {postM : Int32 → CSt → Prop} (hM : CMi l yX6_removeRange wsX6_removeRange rm_X6_removeRange D C K 0 [.int x1, .int x2, .int x3] u.1 u.2.1 u.2.2.1 u.2.2.2 postM) (rv : Int32) (CU : CSt → Prop) (hp : ∀ r q, postM r q → r = rv ∧ CU q) : LM l yL_removeRange wsL_removeRange rw_removeRange D C cD K adK adV ao (OLn C ao) [.int x1, .int x2, .int x3] u o (fun r q => r = nI 0 ∧ q.2 = rv.toInt64 ∧ CU q.1) := by
  refine LM_of (lv := [(0, .ref (K 0)), (1, .int x1), (2, .int x2), (3, .int x3), (4, .ref ao)]) (cc := cL_removeRange) (maxL := 6) (ret := some .int) (hh := [(0, 12, 15, 19), (0, 12, 19, 25)]) rfl (by decide +kernel) (Nat.le_of_ble_eq_true rfl) rfl ?_
  intro p e s m args below meth c X hKd hAM hAS hNC ht hml hr hlk
  generalize hQ : MQ below _ args s 1 6 _ = Q
  refine zz_aload 0 X.1 4 dL_removeRange_0 rfl ?_
  refine zz_iconst 2 X.1 (v := nI 0) dL_removeRange_2 rfl ?_
  refine zz_aload_n 3 X.1 0 dL_removeRange_3 rfl ?_
  refine zz_iload_n 4 X.1 1 dL_removeRange_4 rfl ?_
  refine zz_iload_n 5 X.1 2 dL_removeRange_5 rfl ?_
  refine zz_iload_n 6 X.1 3 dL_removeRange_6 rfl ?_
  refine lm_calli 7 X hml hao rfl (As := [.int x1, .int x2, .int x3]) hM gL_removeRange_X6_removeRange rfl ⟨rfl, rfl⟩ yd_X6_removeRange ⟨Nat.le_of_ble_eq_true rfl, Nat.le_of_ble_eq_true rfl⟩ rfl rfl (Nat.le_of_ble_eq_true rfl) ⟨Nat.le_of_ble_eq_true rfl, Nat.le_of_ble_eq_true rfl⟩ dL_removeRange_7 ?_
  intro r q hq
  obtain ⟨he, hc⟩ := hp r q hq
  rw [he]
  refine zz_i2l 10 X.1 dL_removeRange_10 rfl ?_
  refine lm_lst 11 X hAp hao dL_removeRange_11 ?_
  refine zz_goto 12 23 X.1 dL_removeRange_12 (by decide) ?_
  refine zz_widen (k := 1) (j := 6) (Nat.le_of_ble_eq_true rfl) (Nat.le_of_ble_eq_true rfl) ?_
  refine zz_iconst 23 X.1 (v := nI 0) dL_removeRange_23 rfl ?_
  rw [← hQ]
  refine zz_iret 24 X.1 hr rfl hlk (q, rv.toInt64) ⟨rfl, rfl, hc⟩ (fun _ h => fun _ => h) dL_removeRange_24

set_option maxHeartbeats 4000000 in
set_option maxRecDepth 100000 in
theorem wL_removeRange_x1 (l : Launch) (D : va_G) (C : Nat → ClassId) (cD : ClassId) (K adK adV : Nat → Nat) (ao : Nat) (hAp : DAp K) (hao : ¬ DAd K ao) (u : CSt) (o : Int64) (x1 : Int32) (x2 : Int32) (x3 : Int32) {u0 : CSt} (hX : CX l yX6_removeRange wsX6_removeRange rx_X6_removeRange D C K 0 [.int x1, .int x2, .int x3] u.1 u.2.1 u.2.2.1 u.2.2.2 "java/lang/IllegalArgumentException" u0) : LM l yL_removeRange wsL_removeRange rw_removeRange D C cD K adK adV ao (OLn C ao) [.int x1, .int x2, .int x3] u o (fun r q => r = nI 1 ∧ q.2 = o ∧ q.1 = u0) := by
  refine LM_of (lv := [(0, .ref (K 0)), (1, .int x1), (2, .int x2), (3, .int x3), (4, .ref ao)]) (cc := cL_removeRange) (maxL := 6) (ret := some .int) (hh := [(0, 12, 15, 19), (0, 12, 19, 25)]) rfl (by decide +kernel) (Nat.le_of_ble_eq_true rfl) rfl ?_
  intro p e s m args below meth c X hKd hAM hAS hNC ht hml hr hlk
  generalize hQ : MQ below _ args s 1 6 _ = Q
  refine zz_aload 0 X.1 4 dL_removeRange_0 rfl ?_
  refine zz_iconst 2 X.1 (v := nI 0) dL_removeRange_2 rfl ?_
  refine zz_aload_n 3 X.1 0 dL_removeRange_3 rfl ?_
  refine zz_iload_n 4 X.1 1 dL_removeRange_4 rfl ?_
  refine zz_iload_n 5 X.1 2 dL_removeRange_5 rfl ?_
  refine zz_iload_n 6 X.1 3 dL_removeRange_6 rfl ?_
  refine lm_callX 7 X hAM hml hao rfl (As := [.int x1, .int x2, .int x3]) hX gL_removeRange_X6_removeRange rfl ⟨rfl, rfl⟩ yd_X6_removeRange ⟨Nat.le_of_ble_eq_true rfl, Nat.le_of_ble_eq_true rfl⟩ rfl rfl (Nat.le_of_ble_eq_true rfl) ⟨Nat.le_of_ble_eq_true rfl, Nat.le_of_ble_eq_true rfl⟩ dL_removeRange_7 [] ⟨0, 12, 15, 19⟩ [⟨0, 12, 19, 25⟩] ht (fun z hz => absurd hz List.not_mem_nil) (by decide) (by decide) (name := "java/lang/IllegalArgumentException") (by decide +kernel) (by decide +kernel) (hpc := 15) rfl ?_
  intro q9
  refine zz_astore 15 X.1 (lv' := [(5, .ref q9), (0, .ref (K 0)), (1, .int x1), (2, .int x2), (3, .int x3), (4, .ref ao)]) dL_removeRange_15 (by decide) rfl ?_
  refine zz_iconst 17 X.1 (v := nI 1) dL_removeRange_17 rfl ?_
  rw [← hQ]
  refine zz_iret 18 X.1 hr rfl hlk (u0, o) ⟨rfl, rfl, rfl⟩ (fun _ h => fun _ => h) dL_removeRange_18

set_option maxHeartbeats 4000000 in
set_option maxRecDepth 100000 in
theorem wL_removeRange_x2 (l : Launch) (D : va_G) (C : Nat → ClassId) (cD : ClassId) (K adK adV : Nat → Nat) (ao : Nat) (hAp : DAp K) (hao : ¬ DAd K ao) (u : CSt) (o : Int64) (x1 : Int32) (x2 : Int32) (x3 : Int32) {u0 : CSt} (hX : CX l yX6_removeRange wsX6_removeRange rx_X6_removeRange D C K 0 [.int x1, .int x2, .int x3] u.1 u.2.1 u.2.2.1 u.2.2.2 "java/lang/IndexOutOfBoundsException" u0) : LM l yL_removeRange wsL_removeRange rw_removeRange D C cD K adK adV ao (OLn C ao) [.int x1, .int x2, .int x3] u o (fun r q => r = nI 2 ∧ q.2 = o ∧ q.1 = u0) := by
  refine LM_of (lv := [(0, .ref (K 0)), (1, .int x1), (2, .int x2), (3, .int x3), (4, .ref ao)]) (cc := cL_removeRange) (maxL := 6) (ret := some .int) (hh := [(0, 12, 15, 19), (0, 12, 19, 25)]) rfl (by decide +kernel) (Nat.le_of_ble_eq_true rfl) rfl ?_
  intro p e s m args below meth c X hKd hAM hAS hNC ht hml hr hlk
  generalize hQ : MQ below _ args s 1 6 _ = Q
  refine zz_aload 0 X.1 4 dL_removeRange_0 rfl ?_
  refine zz_iconst 2 X.1 (v := nI 0) dL_removeRange_2 rfl ?_
  refine zz_aload_n 3 X.1 0 dL_removeRange_3 rfl ?_
  refine zz_iload_n 4 X.1 1 dL_removeRange_4 rfl ?_
  refine zz_iload_n 5 X.1 2 dL_removeRange_5 rfl ?_
  refine zz_iload_n 6 X.1 3 dL_removeRange_6 rfl ?_
  refine lm_callX 7 X hAM hml hao rfl (As := [.int x1, .int x2, .int x3]) hX gL_removeRange_X6_removeRange rfl ⟨rfl, rfl⟩ yd_X6_removeRange ⟨Nat.le_of_ble_eq_true rfl, Nat.le_of_ble_eq_true rfl⟩ rfl rfl (Nat.le_of_ble_eq_true rfl) ⟨Nat.le_of_ble_eq_true rfl, Nat.le_of_ble_eq_true rfl⟩ dL_removeRange_7 [⟨0, 12, 15, 19⟩] ⟨0, 12, 19, 25⟩ [] ht (fun z hz => by cases List.mem_singleton.mp hz; exact Or.inr ⟨by decide, "java/lang/IllegalArgumentException", X.2.1 _ (by decide +kernel), hNC.1⟩) (by decide) (by decide) (name := "java/lang/IndexOutOfBoundsException") (by decide +kernel) (by decide +kernel) (hpc := 19) rfl ?_
  intro q9
  refine zz_astore 19 X.1 (lv' := [(5, .ref q9), (0, .ref (K 0)), (1, .int x1), (2, .int x2), (3, .int x3), (4, .ref ao)]) dL_removeRange_19 (by decide) rfl ?_
  refine zz_iconst 21 X.1 (v := nI 2) dL_removeRange_21 rfl ?_
  rw [← hQ]
  refine zz_iret 22 X.1 hr rfl hlk (u0, o) ⟨rfl, rfl, rfl⟩ (fun _ h => fun _ => h) dL_removeRange_22

abbrev rw_putRange : Room := { frames := 10, cells := 1, slots := 6, locals := 183 }
set_option maxHeartbeats 4000000 in
set_option maxRecDepth 100000 in
theorem wL_putRange_ok (l : Launch) (D : va_G) (C : Nat → ClassId) (cD : ClassId) (K adK adV : Nat → Nat) (ao : Nat) (hAp : DAp K) (hao : ¬ DAd K ao) (u : CSt) (o : Int64) (x1 : Int32) (x2 : Int32) (x3 : Int32) (x4 : Int32) {postM : Int32 → CSt → Prop} (hM : CMi l yX6_putRange wsX6_putRange rm_X6_putRange D C K 0 [.int x1, .int x2, .int x3, .int x4] u.1 u.2.1 u.2.2.1 u.2.2.2 postM) (rv : Int32) (CU : CSt → Prop) (hp : ∀ r q, postM r q → r = rv ∧ CU q) : LM l yL_putRange wsL_putRange rw_putRange D C cD K adK adV ao (OLn C ao) [.int x1, .int x2, .int x3, .int x4] u o (fun r q => r = nI 0 ∧ q.2 = rv.toInt64 ∧ CU q.1) := by
  refine LM_of (lv := [(0, .ref (K 0)), (1, .int x1), (2, .int x2), (3, .int x3), (4, .int x4), (5, .ref ao)]) (cc := cL_putRange) (maxL := 7) (ret := some .int) (hh := [(0, 14, 17, 19), (0, 14, 21, 25)]) rfl (by decide +kernel) (Nat.le_of_ble_eq_true rfl) rfl ?_
  intro p e s m args below meth c X hKd hAM hAS hNC ht hml hr hlk
  generalize hQ : MQ below _ args s 1 6 _ = Q
  refine zz_aload 0 X.1 5 dL_putRange_0 rfl ?_
  refine zz_iconst 2 X.1 (v := nI 0) dL_putRange_2 rfl ?_
  refine zz_aload_n 3 X.1 0 dL_putRange_3 rfl ?_
  refine zz_iload_n 4 X.1 1 dL_putRange_4 rfl ?_
  refine zz_iload_n 5 X.1 2 dL_putRange_5 rfl ?_
  refine zz_iload_n 6 X.1 3 dL_putRange_6 rfl ?_
  refine zz_iload 7 X.1 4 dL_putRange_7 rfl ?_
  refine lm_calli 9 X hml hao rfl (As := [.int x1, .int x2, .int x3, .int x4]) hM gL_putRange_X6_putRange rfl ⟨rfl, rfl⟩ yd_X6_putRange ⟨Nat.le_of_ble_eq_true rfl, Nat.le_of_ble_eq_true rfl⟩ rfl rfl (Nat.le_of_ble_eq_true rfl) ⟨Nat.le_of_ble_eq_true rfl, Nat.le_of_ble_eq_true rfl⟩ dL_putRange_9 ?_
  intro r q hq
  obtain ⟨he, hc⟩ := hp r q hq
  rw [he]
  refine zz_i2l 12 X.1 dL_putRange_12 rfl ?_
  refine lm_lst 13 X hAp hao dL_putRange_13 ?_
  refine zz_goto 14 25 X.1 dL_putRange_14 (by decide) ?_
  refine zz_widen (k := 1) (j := 6) (Nat.le_of_ble_eq_true rfl) (Nat.le_of_ble_eq_true rfl) ?_
  refine zz_iconst 25 X.1 (v := nI 0) dL_putRange_25 rfl ?_
  rw [← hQ]
  refine zz_iret 26 X.1 hr rfl hlk (q, rv.toInt64) ⟨rfl, rfl, hc⟩ (fun _ h => fun _ => h) dL_putRange_26

set_option maxHeartbeats 4000000 in
set_option maxRecDepth 100000 in
theorem wL_putRange_x1 (l : Launch) (D : va_G) (C : Nat → ClassId) (cD : ClassId) (K adK adV : Nat → Nat) (ao : Nat) (hAp : DAp K) (hao : ¬ DAd K ao) (u : CSt) (o : Int64) (x1 : Int32) (x2 : Int32) (x3 : Int32) (x4 : Int32) {u0 : CSt} (hX : CX l yX6_putRange wsX6_putRange rx_X6_putRange D C K 0 [.int x1, .int x2, .int x3, .int x4] u.1 u.2.1 u.2.2.1 u.2.2.2 "java/lang/IllegalArgumentException" u0) : LM l yL_putRange wsL_putRange rw_putRange D C cD K adK adV ao (OLn C ao) [.int x1, .int x2, .int x3, .int x4] u o (fun r q => r = nI 1 ∧ q.2 = o ∧ q.1 = u0) := by
  refine LM_of (lv := [(0, .ref (K 0)), (1, .int x1), (2, .int x2), (3, .int x3), (4, .int x4), (5, .ref ao)]) (cc := cL_putRange) (maxL := 7) (ret := some .int) (hh := [(0, 14, 17, 19), (0, 14, 21, 25)]) rfl (by decide +kernel) (Nat.le_of_ble_eq_true rfl) rfl ?_
  intro p e s m args below meth c X hKd hAM hAS hNC ht hml hr hlk
  generalize hQ : MQ below _ args s 1 6 _ = Q
  refine zz_aload 0 X.1 5 dL_putRange_0 rfl ?_
  refine zz_iconst 2 X.1 (v := nI 0) dL_putRange_2 rfl ?_
  refine zz_aload_n 3 X.1 0 dL_putRange_3 rfl ?_
  refine zz_iload_n 4 X.1 1 dL_putRange_4 rfl ?_
  refine zz_iload_n 5 X.1 2 dL_putRange_5 rfl ?_
  refine zz_iload_n 6 X.1 3 dL_putRange_6 rfl ?_
  refine zz_iload 7 X.1 4 dL_putRange_7 rfl ?_
  refine lm_callX 9 X hAM hml hao rfl (As := [.int x1, .int x2, .int x3, .int x4]) hX gL_putRange_X6_putRange rfl ⟨rfl, rfl⟩ yd_X6_putRange ⟨Nat.le_of_ble_eq_true rfl, Nat.le_of_ble_eq_true rfl⟩ rfl rfl (Nat.le_of_ble_eq_true rfl) ⟨Nat.le_of_ble_eq_true rfl, Nat.le_of_ble_eq_true rfl⟩ dL_putRange_9 [] ⟨0, 14, 17, 19⟩ [⟨0, 14, 21, 25⟩] ht (fun z hz => absurd hz List.not_mem_nil) (by decide) (by decide) (name := "java/lang/IllegalArgumentException") (by decide +kernel) (by decide +kernel) (hpc := 17) rfl ?_
  intro q9
  refine zz_astore 17 X.1 (lv' := [(6, .ref q9), (0, .ref (K 0)), (1, .int x1), (2, .int x2), (3, .int x3), (4, .int x4), (5, .ref ao)]) dL_putRange_17 (by decide) rfl ?_
  refine zz_iconst 19 X.1 (v := nI 1) dL_putRange_19 rfl ?_
  rw [← hQ]
  refine zz_iret 20 X.1 hr rfl hlk (u0, o) ⟨rfl, rfl, rfl⟩ (fun _ h => fun _ => h) dL_putRange_20

set_option maxHeartbeats 4000000 in
set_option maxRecDepth 100000 in
theorem wL_putRange_x2 (l : Launch) (D : va_G) (C : Nat → ClassId) (cD : ClassId) (K adK adV : Nat → Nat) (ao : Nat) (hAp : DAp K) (hao : ¬ DAd K ao) (u : CSt) (o : Int64) (x1 : Int32) (x2 : Int32) (x3 : Int32) (x4 : Int32) {u0 : CSt} (hX : CX l yX6_putRange wsX6_putRange rx_X6_putRange D C K 0 [.int x1, .int x2, .int x3, .int x4] u.1 u.2.1 u.2.2.1 u.2.2.2 "java/lang/IndexOutOfBoundsException" u0) : LM l yL_putRange wsL_putRange rw_putRange D C cD K adK adV ao (OLn C ao) [.int x1, .int x2, .int x3, .int x4] u o (fun r q => r = nI 2 ∧ q.2 = o ∧ q.1 = u0) := by
  refine LM_of (lv := [(0, .ref (K 0)), (1, .int x1), (2, .int x2), (3, .int x3), (4, .int x4), (5, .ref ao)]) (cc := cL_putRange) (maxL := 7) (ret := some .int) (hh := [(0, 14, 17, 19), (0, 14, 21, 25)]) rfl (by decide +kernel) (Nat.le_of_ble_eq_true rfl) rfl ?_
  intro p e s m args below meth c X hKd hAM hAS hNC ht hml hr hlk
  generalize hQ : MQ below _ args s 1 6 _ = Q
  refine zz_aload 0 X.1 5 dL_putRange_0 rfl ?_
  refine zz_iconst 2 X.1 (v := nI 0) dL_putRange_2 rfl ?_
  refine zz_aload_n 3 X.1 0 dL_putRange_3 rfl ?_
  refine zz_iload_n 4 X.1 1 dL_putRange_4 rfl ?_
  refine zz_iload_n 5 X.1 2 dL_putRange_5 rfl ?_
  refine zz_iload_n 6 X.1 3 dL_putRange_6 rfl ?_
  refine zz_iload 7 X.1 4 dL_putRange_7 rfl ?_
  refine lm_callX 9 X hAM hml hao rfl (As := [.int x1, .int x2, .int x3, .int x4]) hX gL_putRange_X6_putRange rfl ⟨rfl, rfl⟩ yd_X6_putRange ⟨Nat.le_of_ble_eq_true rfl, Nat.le_of_ble_eq_true rfl⟩ rfl rfl (Nat.le_of_ble_eq_true rfl) ⟨Nat.le_of_ble_eq_true rfl, Nat.le_of_ble_eq_true rfl⟩ dL_putRange_9 [⟨0, 14, 17, 19⟩] ⟨0, 14, 21, 25⟩ [] ht (fun z hz => by cases List.mem_singleton.mp hz; exact Or.inr ⟨by decide, "java/lang/IllegalArgumentException", X.2.1 _ (by decide +kernel), hNC.1⟩) (by decide) (by decide) (name := "java/lang/IndexOutOfBoundsException") (by decide +kernel) (by decide +kernel) (hpc := 21) rfl ?_
  intro q9
  refine zz_astore 21 X.1 (lv' := [(6, .ref q9), (0, .ref (K 0)), (1, .int x1), (2, .int x2), (3, .int x3), (4, .int x4), (5, .ref ao)]) dL_putRange_21 (by decide) rfl ?_
  refine zz_iconst 23 X.1 (v := nI 2) dL_putRange_23 rfl ?_
  rw [← hQ]
  refine zz_iret 24 X.1 hr rfl hlk (u0, o) ⟨rfl, rfl, rfl⟩ (fun _ h => fun _ => h) dL_putRange_24

abbrev rw_flipRange : Room := { frames := 10, cells := 1, slots := 6, locals := 182 }
set_option maxHeartbeats 4000000 in
set_option maxRecDepth 100000 in
theorem wL_flipRange_ok (l : Launch) (D : va_G) (C : Nat → ClassId) (cD : ClassId) (K adK adV : Nat → Nat) (ao : Nat) (hAp : DAp K) (hao : ¬ DAd K ao) (u : CSt) (o : Int64) (x1 : Int32) (x2 : Int32) (x3 : Int32) {postM : Int32 → CSt → Prop} (hM : CMi l yX6_flipRange wsX6_flipRange rm_X6_flipRange D C K 0 [.int x1, .int x2, .int x3] u.1 u.2.1 u.2.2.1 u.2.2.2 postM) (rv : Int32) (CU : CSt → Prop) (hp : ∀ r q, postM r q → r = rv ∧ CU q) : LM l yL_flipRange wsL_flipRange rw_flipRange D C cD K adK adV ao (OLn C ao) [.int x1, .int x2, .int x3] u o (fun r q => r = nI 0 ∧ q.2 = rv.toInt64 ∧ CU q.1) := by
  refine LM_of (lv := [(0, .ref (K 0)), (1, .int x1), (2, .int x2), (3, .int x3), (4, .ref ao)]) (cc := cL_flipRange) (maxL := 6) (ret := some .int) (hh := [(0, 12, 15, 19), (0, 12, 19, 25)]) rfl (by decide +kernel) (Nat.le_of_ble_eq_true rfl) rfl ?_
  intro p e s m args below meth c X hKd hAM hAS hNC ht hml hr hlk
  generalize hQ : MQ below _ args s 1 6 _ = Q
  refine zz_aload 0 X.1 4 dL_flipRange_0 rfl ?_
  refine zz_iconst 2 X.1 (v := nI 0) dL_flipRange_2 rfl ?_
  refine zz_aload_n 3 X.1 0 dL_flipRange_3 rfl ?_
  refine zz_iload_n 4 X.1 1 dL_flipRange_4 rfl ?_
  refine zz_iload_n 5 X.1 2 dL_flipRange_5 rfl ?_
  refine zz_iload_n 6 X.1 3 dL_flipRange_6 rfl ?_
  refine lm_calli 7 X hml hao rfl (As := [.int x1, .int x2, .int x3]) hM gL_flipRange_X6_flipRange rfl ⟨rfl, rfl⟩ yd_X6_flipRange ⟨Nat.le_of_ble_eq_true rfl, Nat.le_of_ble_eq_true rfl⟩ rfl rfl (Nat.le_of_ble_eq_true rfl) ⟨Nat.le_of_ble_eq_true rfl, Nat.le_of_ble_eq_true rfl⟩ dL_flipRange_7 ?_
  intro r q hq
  obtain ⟨he, hc⟩ := hp r q hq
  rw [he]
  refine zz_i2l 10 X.1 dL_flipRange_10 rfl ?_
  refine lm_lst 11 X hAp hao dL_flipRange_11 ?_
  refine zz_goto 12 23 X.1 dL_flipRange_12 (by decide) ?_
  refine zz_widen (k := 1) (j := 6) (Nat.le_of_ble_eq_true rfl) (Nat.le_of_ble_eq_true rfl) ?_
  refine zz_iconst 23 X.1 (v := nI 0) dL_flipRange_23 rfl ?_
  rw [← hQ]
  refine zz_iret 24 X.1 hr rfl hlk (q, rv.toInt64) ⟨rfl, rfl, hc⟩ (fun _ h => fun _ => h) dL_flipRange_24

set_option maxHeartbeats 4000000 in
set_option maxRecDepth 100000 in
theorem wL_flipRange_x1 (l : Launch) (D : va_G) (C : Nat → ClassId) (cD : ClassId) (K adK adV : Nat → Nat) (ao : Nat) (hAp : DAp K) (hao : ¬ DAd K ao) (u : CSt) (o : Int64) (x1 : Int32) (x2 : Int32) (x3 : Int32) {u0 : CSt} (hX : CX l yX6_flipRange wsX6_flipRange rx_X6_flipRange D C K 0 [.int x1, .int x2, .int x3] u.1 u.2.1 u.2.2.1 u.2.2.2 "java/lang/IllegalArgumentException" u0) : LM l yL_flipRange wsL_flipRange rw_flipRange D C cD K adK adV ao (OLn C ao) [.int x1, .int x2, .int x3] u o (fun r q => r = nI 1 ∧ q.2 = o ∧ q.1 = u0) := by
  refine LM_of (lv := [(0, .ref (K 0)), (1, .int x1), (2, .int x2), (3, .int x3), (4, .ref ao)]) (cc := cL_flipRange) (maxL := 6) (ret := some .int) (hh := [(0, 12, 15, 19), (0, 12, 19, 25)]) rfl (by decide +kernel) (Nat.le_of_ble_eq_true rfl) rfl ?_
  intro p e s m args below meth c X hKd hAM hAS hNC ht hml hr hlk
  generalize hQ : MQ below _ args s 1 6 _ = Q
  refine zz_aload 0 X.1 4 dL_flipRange_0 rfl ?_
  refine zz_iconst 2 X.1 (v := nI 0) dL_flipRange_2 rfl ?_
  refine zz_aload_n 3 X.1 0 dL_flipRange_3 rfl ?_
  refine zz_iload_n 4 X.1 1 dL_flipRange_4 rfl ?_
  refine zz_iload_n 5 X.1 2 dL_flipRange_5 rfl ?_
  refine zz_iload_n 6 X.1 3 dL_flipRange_6 rfl ?_
  refine lm_callX 7 X hAM hml hao rfl (As := [.int x1, .int x2, .int x3]) hX gL_flipRange_X6_flipRange rfl ⟨rfl, rfl⟩ yd_X6_flipRange ⟨Nat.le_of_ble_eq_true rfl, Nat.le_of_ble_eq_true rfl⟩ rfl rfl (Nat.le_of_ble_eq_true rfl) ⟨Nat.le_of_ble_eq_true rfl, Nat.le_of_ble_eq_true rfl⟩ dL_flipRange_7 [] ⟨0, 12, 15, 19⟩ [⟨0, 12, 19, 25⟩] ht (fun z hz => absurd hz List.not_mem_nil) (by decide) (by decide) (name := "java/lang/IllegalArgumentException") (by decide +kernel) (by decide +kernel) (hpc := 15) rfl ?_
  intro q9
  refine zz_astore 15 X.1 (lv' := [(5, .ref q9), (0, .ref (K 0)), (1, .int x1), (2, .int x2), (3, .int x3), (4, .ref ao)]) dL_flipRange_15 (by decide) rfl ?_
  refine zz_iconst 17 X.1 (v := nI 1) dL_flipRange_17 rfl ?_
  rw [← hQ]
  refine zz_iret 18 X.1 hr rfl hlk (u0, o) ⟨rfl, rfl, rfl⟩ (fun _ h => fun _ => h) dL_flipRange_18

set_option maxHeartbeats 4000000 in
set_option maxRecDepth 100000 in
theorem wL_flipRange_x2 (l : Launch) (D : va_G) (C : Nat → ClassId) (cD : ClassId) (K adK adV : Nat → Nat) (ao : Nat) (hAp : DAp K) (hao : ¬ DAd K ao) (u : CSt) (o : Int64) (x1 : Int32) (x2 : Int32) (x3 : Int32) {u0 : CSt} (hX : CX l yX6_flipRange wsX6_flipRange rx_X6_flipRange D C K 0 [.int x1, .int x2, .int x3] u.1 u.2.1 u.2.2.1 u.2.2.2 "java/lang/IndexOutOfBoundsException" u0) : LM l yL_flipRange wsL_flipRange rw_flipRange D C cD K adK adV ao (OLn C ao) [.int x1, .int x2, .int x3] u o (fun r q => r = nI 2 ∧ q.2 = o ∧ q.1 = u0) := by
  refine LM_of (lv := [(0, .ref (K 0)), (1, .int x1), (2, .int x2), (3, .int x3), (4, .ref ao)]) (cc := cL_flipRange) (maxL := 6) (ret := some .int) (hh := [(0, 12, 15, 19), (0, 12, 19, 25)]) rfl (by decide +kernel) (Nat.le_of_ble_eq_true rfl) rfl ?_
  intro p e s m args below meth c X hKd hAM hAS hNC ht hml hr hlk
  generalize hQ : MQ below _ args s 1 6 _ = Q
  refine zz_aload 0 X.1 4 dL_flipRange_0 rfl ?_
  refine zz_iconst 2 X.1 (v := nI 0) dL_flipRange_2 rfl ?_
  refine zz_aload_n 3 X.1 0 dL_flipRange_3 rfl ?_
  refine zz_iload_n 4 X.1 1 dL_flipRange_4 rfl ?_
  refine zz_iload_n 5 X.1 2 dL_flipRange_5 rfl ?_
  refine zz_iload_n 6 X.1 3 dL_flipRange_6 rfl ?_
  refine lm_callX 7 X hAM hml hao rfl (As := [.int x1, .int x2, .int x3]) hX gL_flipRange_X6_flipRange rfl ⟨rfl, rfl⟩ yd_X6_flipRange ⟨Nat.le_of_ble_eq_true rfl, Nat.le_of_ble_eq_true rfl⟩ rfl rfl (Nat.le_of_ble_eq_true rfl) ⟨Nat.le_of_ble_eq_true rfl, Nat.le_of_ble_eq_true rfl⟩ dL_flipRange_7 [⟨0, 12, 15, 19⟩] ⟨0, 12, 19, 25⟩ [] ht (fun z hz => by cases List.mem_singleton.mp hz; exact Or.inr ⟨by decide, "java/lang/IllegalArgumentException", X.2.1 _ (by decide +kernel), hNC.1⟩) (by decide) (by decide) (name := "java/lang/IndexOutOfBoundsException") (by decide +kernel) (by decide +kernel) (hpc := 19) rfl ?_
  intro q9
  refine zz_astore 19 X.1 (lv' := [(5, .ref q9), (0, .ref (K 0)), (1, .int x1), (2, .int x2), (3, .int x3), (4, .ref ao)]) dL_flipRange_19 (by decide) rfl ?_
  refine zz_iconst 21 X.1 (v := nI 2) dL_flipRange_21 rfl ?_
  rw [← hQ]
  refine zz_iret 22 X.1 hr rfl hlk (u0, o) ⟨rfl, rfl, rfl⟩ (fun _ h => fun _ => h) dL_flipRange_22

abbrev rw_removeAll : Room := { frames := 8, cells := 1, slots := 6, locals := 134 }
set_option maxHeartbeats 4000000 in
set_option maxRecDepth 100000 in
theorem wL_removeAll_ok (l : Launch) (D : va_G) (C : Nat → ClassId) (cD : ClassId) (K adK adV : Nat → Nat) (ao : Nat) (hAp : DAp K) (hao : ¬ DAd K ao) (u : CSt) (o : Int64) (x1 : Int32) {postM : Int32 → CSt → Prop} (hM : CMi l yX6_removeAll wsX6_removeAll rm_X6_removeAll D C K 0 [.int x1] u.1 u.2.1 u.2.2.1 u.2.2.2 postM) (rv : Int32) (CU : CSt → Prop) (hp : ∀ r q, postM r q → r = rv ∧ CU q) : LM l yL_removeAll wsL_removeAll rw_removeAll D C cD K adK adV ao (OLn C ao) [.int x1] u o (fun r q => r = nI 0 ∧ q.2 = rv.toInt64 ∧ CU q.1) := by
  refine LM_of (lv := [(0, .ref (K 0)), (1, .int x1), (2, .ref ao)]) (cc := cL_removeAll) (maxL := 4) (ret := some .int) (hh := [(0, 9, 12, 19)]) rfl (by decide +kernel) (Nat.le_of_ble_eq_true rfl) rfl ?_
  intro p e s m args below meth c X hKd hAM hAS hNC ht hml hr hlk
  generalize hQ : MQ below _ args s 1 6 _ = Q
  refine zz_aload_n 0 X.1 2 dL_removeAll_0 rfl ?_
  refine zz_iconst 1 X.1 (v := nI 0) dL_removeAll_1 rfl ?_
  refine zz_aload_n 2 X.1 0 dL_removeAll_2 rfl ?_
  refine zz_iload_n 3 X.1 1 dL_removeAll_3 rfl ?_
  refine lm_calli 4 X hml hao rfl (As := [.int x1]) hM gL_removeAll_X6_removeAll rfl ⟨rfl, rfl⟩ yd_X6_removeAll ⟨Nat.le_of_ble_eq_true rfl, Nat.le_of_ble_eq_true rfl⟩ rfl rfl (Nat.le_of_ble_eq_true rfl) ⟨Nat.le_of_ble_eq_true rfl, Nat.le_of_ble_eq_true rfl⟩ dL_removeAll_4 ?_
  intro r q hq
  obtain ⟨he, hc⟩ := hp r q hq
  rw [he]
  refine zz_i2l 7 X.1 dL_removeAll_7 rfl ?_
  refine lm_lst 8 X hAp hao dL_removeAll_8 ?_
  refine zz_goto 9 15 X.1 dL_removeAll_9 (by decide) ?_
  refine zz_widen (k := 1) (j := 6) (Nat.le_of_ble_eq_true rfl) (Nat.le_of_ble_eq_true rfl) ?_
  refine zz_iconst 15 X.1 (v := nI 0) dL_removeAll_15 rfl ?_
  rw [← hQ]
  refine zz_iret 16 X.1 hr rfl hlk (q, rv.toInt64) ⟨rfl, rfl, hc⟩ (fun _ h => fun _ => h) dL_removeAll_16

set_option maxHeartbeats 4000000 in
set_option maxRecDepth 100000 in
theorem wL_removeAll_x1 (l : Launch) (D : va_G) (C : Nat → ClassId) (cD : ClassId) (K adK adV : Nat → Nat) (ao : Nat) (hAp : DAp K) (hao : ¬ DAd K ao) (u : CSt) (o : Int64) (x1 : Int32) {u0 : CSt} (hX : CX l yX6_removeAll wsX6_removeAll rx_X6_removeAll D C K 0 [.int x1] u.1 u.2.1 u.2.2.1 u.2.2.2 "java/lang/IllegalArgumentException" u0) : LM l yL_removeAll wsL_removeAll rw_removeAll D C cD K adK adV ao (OLn C ao) [.int x1] u o (fun r q => r = nI 1 ∧ q.2 = o ∧ q.1 = u0) := by
  refine LM_of (lv := [(0, .ref (K 0)), (1, .int x1), (2, .ref ao)]) (cc := cL_removeAll) (maxL := 4) (ret := some .int) (hh := [(0, 9, 12, 19)]) rfl (by decide +kernel) (Nat.le_of_ble_eq_true rfl) rfl ?_
  intro p e s m args below meth c X hKd hAM hAS hNC ht hml hr hlk
  generalize hQ : MQ below _ args s 1 6 _ = Q
  refine zz_aload_n 0 X.1 2 dL_removeAll_0 rfl ?_
  refine zz_iconst 1 X.1 (v := nI 0) dL_removeAll_1 rfl ?_
  refine zz_aload_n 2 X.1 0 dL_removeAll_2 rfl ?_
  refine zz_iload_n 3 X.1 1 dL_removeAll_3 rfl ?_
  refine lm_callX 4 X hAM hml hao rfl (As := [.int x1]) hX gL_removeAll_X6_removeAll rfl ⟨rfl, rfl⟩ yd_X6_removeAll ⟨Nat.le_of_ble_eq_true rfl, Nat.le_of_ble_eq_true rfl⟩ rfl rfl (Nat.le_of_ble_eq_true rfl) ⟨Nat.le_of_ble_eq_true rfl, Nat.le_of_ble_eq_true rfl⟩ dL_removeAll_4 [] ⟨0, 9, 12, 19⟩ [] ht (fun z hz => absurd hz List.not_mem_nil) (by decide) (by decide) (name := "java/lang/IllegalArgumentException") (by decide +kernel) (by decide +kernel) (hpc := 12) rfl ?_
  intro q9
  refine zz_astore_n 12 X.1 (lv' := [(3, .ref q9), (0, .ref (K 0)), (1, .int x1), (2, .ref ao)]) dL_removeAll_12 (by decide) rfl ?_
  refine zz_iconst 13 X.1 (v := nI 1) dL_removeAll_13 rfl ?_
  rw [← hQ]
  refine zz_iret 14 X.1 hr rfl hlk (u0, o) ⟨rfl, rfl, rfl⟩ (fun _ h => fun _ => h) dL_removeAll_14

abbrev rw_renew : Room := { frames := 8, cells := 1, slots := 6, locals := 136 }
set_option maxHeartbeats 4000000 in
set_option maxRecDepth 100000 in
theorem wL_renew_ok (l : Launch) (D : va_G) (C : Nat → ClassId) (cD : ClassId) (K adK adV : Nat → Nat) (ao : Nat) (hAp : DAp K) (hao : ¬ DAd K ao) (u : CSt) (o : Int64) (x1 : Int32) (x2 : Int32) {postM : Int32 → CSt → Prop} (hM : CMi l yX6_renew wsX6_renew rm_X6_renew D C K 0 [.int x1, .int x2] u.1 u.2.1 u.2.2.1 u.2.2.2 postM) (rv : Int32) (CU : CSt → Prop) (hp : ∀ r q, postM r q → r = rv ∧ CU q) : LM l yL_renew wsL_renew rw_renew D C cD K adK adV ao (OLn C ao) [.int x1, .int x2] u o (fun r q => r = nI 0 ∧ q.2 = rv.toInt64 ∧ CU q.1) := by
  refine LM_of (lv := [(0, .ref (K 0)), (1, .int x1), (2, .int x2), (3, .ref ao)]) (cc := cL_renew) (maxL := 5) (ret := some .int) (hh := [(0, 10, 13, 19)]) rfl (by decide +kernel) (Nat.le_of_ble_eq_true rfl) rfl ?_
  intro p e s m args below meth c X hKd hAM hAS hNC ht hml hr hlk
  generalize hQ : MQ below _ args s 1 6 _ = Q
  refine zz_aload_n 0 X.1 3 dL_renew_0 rfl ?_
  refine zz_iconst 1 X.1 (v := nI 0) dL_renew_1 rfl ?_
  refine zz_aload_n 2 X.1 0 dL_renew_2 rfl ?_
  refine zz_iload_n 3 X.1 1 dL_renew_3 rfl ?_
  refine zz_iload_n 4 X.1 2 dL_renew_4 rfl ?_
  refine lm_calli 5 X hml hao rfl (As := [.int x1, .int x2]) hM gL_renew_X6_renew rfl ⟨rfl, rfl⟩ yd_X6_renew ⟨Nat.le_of_ble_eq_true rfl, Nat.le_of_ble_eq_true rfl⟩ rfl rfl (Nat.le_of_ble_eq_true rfl) ⟨Nat.le_of_ble_eq_true rfl, Nat.le_of_ble_eq_true rfl⟩ dL_renew_5 ?_
  intro r q hq
  obtain ⟨he, hc⟩ := hp r q hq
  rw [he]
  refine zz_i2l 8 X.1 dL_renew_8 rfl ?_
  refine lm_lst 9 X hAp hao dL_renew_9 ?_
  refine zz_goto 10 17 X.1 dL_renew_10 (by decide) ?_
  refine zz_widen (k := 1) (j := 6) (Nat.le_of_ble_eq_true rfl) (Nat.le_of_ble_eq_true rfl) ?_
  refine zz_iconst 17 X.1 (v := nI 0) dL_renew_17 rfl ?_
  rw [← hQ]
  refine zz_iret 18 X.1 hr rfl hlk (q, rv.toInt64) ⟨rfl, rfl, hc⟩ (fun _ h => fun _ => h) dL_renew_18

set_option maxHeartbeats 4000000 in
set_option maxRecDepth 100000 in
theorem wL_renew_x1 (l : Launch) (D : va_G) (C : Nat → ClassId) (cD : ClassId) (K adK adV : Nat → Nat) (ao : Nat) (hAp : DAp K) (hao : ¬ DAd K ao) (u : CSt) (o : Int64) (x1 : Int32) (x2 : Int32) {u0 : CSt} (hX : CX l yX6_renew wsX6_renew rx_X6_renew D C K 0 [.int x1, .int x2] u.1 u.2.1 u.2.2.1 u.2.2.2 "java/lang/IllegalArgumentException" u0) : LM l yL_renew wsL_renew rw_renew D C cD K adK adV ao (OLn C ao) [.int x1, .int x2] u o (fun r q => r = nI 1 ∧ q.2 = o ∧ q.1 = u0) := by
  refine LM_of (lv := [(0, .ref (K 0)), (1, .int x1), (2, .int x2), (3, .ref ao)]) (cc := cL_renew) (maxL := 5) (ret := some .int) (hh := [(0, 10, 13, 19)]) rfl (by decide +kernel) (Nat.le_of_ble_eq_true rfl) rfl ?_
  intro p e s m args below meth c X hKd hAM hAS hNC ht hml hr hlk
  generalize hQ : MQ below _ args s 1 6 _ = Q
  refine zz_aload_n 0 X.1 3 dL_renew_0 rfl ?_
  refine zz_iconst 1 X.1 (v := nI 0) dL_renew_1 rfl ?_
  refine zz_aload_n 2 X.1 0 dL_renew_2 rfl ?_
  refine zz_iload_n 3 X.1 1 dL_renew_3 rfl ?_
  refine zz_iload_n 4 X.1 2 dL_renew_4 rfl ?_
  refine lm_callX 5 X hAM hml hao rfl (As := [.int x1, .int x2]) hX gL_renew_X6_renew rfl ⟨rfl, rfl⟩ yd_X6_renew ⟨Nat.le_of_ble_eq_true rfl, Nat.le_of_ble_eq_true rfl⟩ rfl rfl (Nat.le_of_ble_eq_true rfl) ⟨Nat.le_of_ble_eq_true rfl, Nat.le_of_ble_eq_true rfl⟩ dL_renew_5 [] ⟨0, 10, 13, 19⟩ [] ht (fun z hz => absurd hz List.not_mem_nil) (by decide) (by decide) (name := "java/lang/IllegalArgumentException") (by decide +kernel) (by decide +kernel) (hpc := 13) rfl ?_
  intro q9
  refine zz_astore 13 X.1 (lv' := [(4, .ref q9), (0, .ref (K 0)), (1, .int x1), (2, .int x2), (3, .ref ao)]) dL_renew_13 (by decide) rfl ?_
  refine zz_iconst 15 X.1 (v := nI 1) dL_renew_15 rfl ?_
  rw [← hQ]
  refine zz_iret 16 X.1 hr rfl hlk (u0, o) ⟨rfl, rfl, rfl⟩ (fun _ h => fun _ => h) dL_renew_16

abbrev rw_intersect : Room := { frames := 9, cells := 1, slots := 6, locals := 157 }
set_option maxHeartbeats 4000000 in
set_option maxRecDepth 100000 in
theorem wL_intersect_ok (l : Launch) (D : va_G) (C : Nat → ClassId) (cD : ClassId) (K adK adV : Nat → Nat) (ao : Nat) (hAp : DAp K) (hao : ¬ DAd K ao) (u : CSt) (o : Int64) (x1 : Int32) (x2 : Int32) {postM : Int32 → CSt → Prop} (hM : CMi l yX6_intersect wsX6_intersect rm_X6_intersect D C K 0 [.int x1, .int x2] u.1 u.2.1 u.2.2.1 u.2.2.2 postM) (rv : Int32) (CU : CSt → Prop) (hp : ∀ r q, postM r q → r = rv ∧ CU q) : LM l yL_intersect wsL_intersect rw_intersect D C cD K adK adV ao (OLn C ao) [.int x1, .int x2] u o (fun r q => r = nI 0 ∧ q.2 = rv.toInt64 ∧ CU q.1) := by
  refine LM_of (lv := [(0, .ref (K 0)), (1, .int x1), (2, .int x2), (3, .ref ao)]) (cc := cL_intersect) (maxL := 5) (ret := some .int) (hh := [(0, 10, 13, 19)]) rfl (by decide +kernel) (Nat.le_of_ble_eq_true rfl) rfl ?_
  intro p e s m args below meth c X hKd hAM hAS hNC ht hml hr hlk
  generalize hQ : MQ below _ args s 1 6 _ = Q
  refine zz_aload_n 0 X.1 3 dL_intersect_0 rfl ?_
  refine zz_iconst 1 X.1 (v := nI 0) dL_intersect_1 rfl ?_
  refine zz_aload_n 2 X.1 0 dL_intersect_2 rfl ?_
  refine zz_iload_n 3 X.1 1 dL_intersect_3 rfl ?_
  refine zz_iload_n 4 X.1 2 dL_intersect_4 rfl ?_
  refine lm_calli 5 X hml hao rfl (As := [.int x1, .int x2]) hM gL_intersect_X6_intersect rfl ⟨rfl, rfl⟩ yd_X6_intersect ⟨Nat.le_of_ble_eq_true rfl, Nat.le_of_ble_eq_true rfl⟩ rfl rfl (Nat.le_of_ble_eq_true rfl) ⟨Nat.le_of_ble_eq_true rfl, Nat.le_of_ble_eq_true rfl⟩ dL_intersect_5 ?_
  intro r q hq
  obtain ⟨he, hc⟩ := hp r q hq
  rw [he]
  refine zz_i2l 8 X.1 dL_intersect_8 rfl ?_
  refine lm_lst 9 X hAp hao dL_intersect_9 ?_
  refine zz_goto 10 17 X.1 dL_intersect_10 (by decide) ?_
  refine zz_widen (k := 1) (j := 6) (Nat.le_of_ble_eq_true rfl) (Nat.le_of_ble_eq_true rfl) ?_
  refine zz_iconst 17 X.1 (v := nI 0) dL_intersect_17 rfl ?_
  rw [← hQ]
  refine zz_iret 18 X.1 hr rfl hlk (q, rv.toInt64) ⟨rfl, rfl, hc⟩ (fun _ h => fun _ => h) dL_intersect_18

set_option maxHeartbeats 4000000 in
set_option maxRecDepth 100000 in
theorem wL_intersect_x1 (l : Launch) (D : va_G) (C : Nat → ClassId) (cD : ClassId) (K adK adV : Nat → Nat) (ao : Nat) (hAp : DAp K) (hao : ¬ DAd K ao) (u : CSt) (o : Int64) (x1 : Int32) (x2 : Int32) {u0 : CSt} (hX : CX l yX6_intersect wsX6_intersect rx_X6_intersect D C K 0 [.int x1, .int x2] u.1 u.2.1 u.2.2.1 u.2.2.2 "java/lang/IllegalArgumentException" u0) : LM l yL_intersect wsL_intersect rw_intersect D C cD K adK adV ao (OLn C ao) [.int x1, .int x2] u o (fun r q => r = nI 1 ∧ q.2 = o ∧ q.1 = u0) := by
  refine LM_of (lv := [(0, .ref (K 0)), (1, .int x1), (2, .int x2), (3, .ref ao)]) (cc := cL_intersect) (maxL := 5) (ret := some .int) (hh := [(0, 10, 13, 19)]) rfl (by decide +kernel) (Nat.le_of_ble_eq_true rfl) rfl ?_
  intro p e s m args below meth c X hKd hAM hAS hNC ht hml hr hlk
  generalize hQ : MQ below _ args s 1 6 _ = Q
  refine zz_aload_n 0 X.1 3 dL_intersect_0 rfl ?_
  refine zz_iconst 1 X.1 (v := nI 0) dL_intersect_1 rfl ?_
  refine zz_aload_n 2 X.1 0 dL_intersect_2 rfl ?_
  refine zz_iload_n 3 X.1 1 dL_intersect_3 rfl ?_
  refine zz_iload_n 4 X.1 2 dL_intersect_4 rfl ?_
  refine lm_callX 5 X hAM hml hao rfl (As := [.int x1, .int x2]) hX gL_intersect_X6_intersect rfl ⟨rfl, rfl⟩ yd_X6_intersect ⟨Nat.le_of_ble_eq_true rfl, Nat.le_of_ble_eq_true rfl⟩ rfl rfl (Nat.le_of_ble_eq_true rfl) ⟨Nat.le_of_ble_eq_true rfl, Nat.le_of_ble_eq_true rfl⟩ dL_intersect_5 [] ⟨0, 10, 13, 19⟩ [] ht (fun z hz => absurd hz List.not_mem_nil) (by decide) (by decide) (name := "java/lang/IllegalArgumentException") (by decide +kernel) (by decide +kernel) (hpc := 13) rfl ?_
  intro q9
  refine zz_astore 13 X.1 (lv' := [(4, .ref q9), (0, .ref (K 0)), (1, .int x1), (2, .int x2), (3, .ref ao)]) dL_intersect_13 (by decide) rfl ?_
  refine zz_iconst 15 X.1 (v := nI 1) dL_intersect_15 rfl ?_
  rw [← hQ]
  refine zz_iret 16 X.1 hr rfl hlk (u0, o) ⟨rfl, rfl, rfl⟩ (fun _ h => fun _ => h) dL_intersect_16

abbrev rw_unite : Room := { frames := 9, cells := 1, slots := 6, locals := 157 }
set_option maxHeartbeats 4000000 in
set_option maxRecDepth 100000 in
theorem wL_unite_ok (l : Launch) (D : va_G) (C : Nat → ClassId) (cD : ClassId) (K adK adV : Nat → Nat) (ao : Nat) (hAp : DAp K) (hao : ¬ DAd K ao) (u : CSt) (o : Int64) (x1 : Int32) (x2 : Int32) {postM : Int32 → CSt → Prop} (hM : CMi l yX6_unite wsX6_unite rm_X6_unite D C K 0 [.int x1, .int x2] u.1 u.2.1 u.2.2.1 u.2.2.2 postM) (rv : Int32) (CU : CSt → Prop) (hp : ∀ r q, postM r q → r = rv ∧ CU q) : LM l yL_unite wsL_unite rw_unite D C cD K adK adV ao (OLn C ao) [.int x1, .int x2] u o (fun r q => r = nI 0 ∧ q.2 = rv.toInt64 ∧ CU q.1) := by
  refine LM_of (lv := [(0, .ref (K 0)), (1, .int x1), (2, .int x2), (3, .ref ao)]) (cc := cL_unite) (maxL := 5) (ret := some .int) (hh := [(0, 10, 13, 19)]) rfl (by decide +kernel) (Nat.le_of_ble_eq_true rfl) rfl ?_
  intro p e s m args below meth c X hKd hAM hAS hNC ht hml hr hlk
  generalize hQ : MQ below _ args s 1 6 _ = Q
  refine zz_aload_n 0 X.1 3 dL_unite_0 rfl ?_
  refine zz_iconst 1 X.1 (v := nI 0) dL_unite_1 rfl ?_
  refine zz_aload_n 2 X.1 0 dL_unite_2 rfl ?_
  refine zz_iload_n 3 X.1 1 dL_unite_3 rfl ?_
  refine zz_iload_n 4 X.1 2 dL_unite_4 rfl ?_
  refine lm_calli 5 X hml hao rfl (As := [.int x1, .int x2]) hM gL_unite_X6_unite rfl ⟨rfl, rfl⟩ yd_X6_unite ⟨Nat.le_of_ble_eq_true rfl, Nat.le_of_ble_eq_true rfl⟩ rfl rfl (Nat.le_of_ble_eq_true rfl) ⟨Nat.le_of_ble_eq_true rfl, Nat.le_of_ble_eq_true rfl⟩ dL_unite_5 ?_
  intro r q hq
  obtain ⟨he, hc⟩ := hp r q hq
  rw [he]
  refine zz_i2l 8 X.1 dL_unite_8 rfl ?_
  refine lm_lst 9 X hAp hao dL_unite_9 ?_
  refine zz_goto 10 17 X.1 dL_unite_10 (by decide) ?_
  refine zz_widen (k := 1) (j := 6) (Nat.le_of_ble_eq_true rfl) (Nat.le_of_ble_eq_true rfl) ?_
  refine zz_iconst 17 X.1 (v := nI 0) dL_unite_17 rfl ?_
  rw [← hQ]
  refine zz_iret 18 X.1 hr rfl hlk (q, rv.toInt64) ⟨rfl, rfl, hc⟩ (fun _ h => fun _ => h) dL_unite_18

set_option maxHeartbeats 4000000 in
set_option maxRecDepth 100000 in
theorem wL_unite_x1 (l : Launch) (D : va_G) (C : Nat → ClassId) (cD : ClassId) (K adK adV : Nat → Nat) (ao : Nat) (hAp : DAp K) (hao : ¬ DAd K ao) (u : CSt) (o : Int64) (x1 : Int32) (x2 : Int32) {u0 : CSt} (hX : CX l yX6_unite wsX6_unite rx_X6_unite D C K 0 [.int x1, .int x2] u.1 u.2.1 u.2.2.1 u.2.2.2 "java/lang/IllegalArgumentException" u0) : LM l yL_unite wsL_unite rw_unite D C cD K adK adV ao (OLn C ao) [.int x1, .int x2] u o (fun r q => r = nI 1 ∧ q.2 = o ∧ q.1 = u0) := by
  refine LM_of (lv := [(0, .ref (K 0)), (1, .int x1), (2, .int x2), (3, .ref ao)]) (cc := cL_unite) (maxL := 5) (ret := some .int) (hh := [(0, 10, 13, 19)]) rfl (by decide +kernel) (Nat.le_of_ble_eq_true rfl) rfl ?_
  intro p e s m args below meth c X hKd hAM hAS hNC ht hml hr hlk
  generalize hQ : MQ below _ args s 1 6 _ = Q
  refine zz_aload_n 0 X.1 3 dL_unite_0 rfl ?_
  refine zz_iconst 1 X.1 (v := nI 0) dL_unite_1 rfl ?_
  refine zz_aload_n 2 X.1 0 dL_unite_2 rfl ?_
  refine zz_iload_n 3 X.1 1 dL_unite_3 rfl ?_
  refine zz_iload_n 4 X.1 2 dL_unite_4 rfl ?_
  refine lm_callX 5 X hAM hml hao rfl (As := [.int x1, .int x2]) hX gL_unite_X6_unite rfl ⟨rfl, rfl⟩ yd_X6_unite ⟨Nat.le_of_ble_eq_true rfl, Nat.le_of_ble_eq_true rfl⟩ rfl rfl (Nat.le_of_ble_eq_true rfl) ⟨Nat.le_of_ble_eq_true rfl, Nat.le_of_ble_eq_true rfl⟩ dL_unite_5 [] ⟨0, 10, 13, 19⟩ [] ht (fun z hz => absurd hz List.not_mem_nil) (by decide) (by decide) (name := "java/lang/IllegalArgumentException") (by decide +kernel) (by decide +kernel) (hpc := 13) rfl ?_
  intro q9
  refine zz_astore 13 X.1 (lv' := [(4, .ref q9), (0, .ref (K 0)), (1, .int x1), (2, .int x2), (3, .ref ao)]) dL_unite_13 (by decide) rfl ?_
  refine zz_iconst 15 X.1 (v := nI 1) dL_unite_15 rfl ?_
  rw [← hQ]
  refine zz_iret 16 X.1 hr rfl hlk (u0, o) ⟨rfl, rfl, rfl⟩ (fun _ h => fun _ => h) dL_unite_16

abbrev rw_differ : Room := { frames := 9, cells := 1, slots := 6, locals := 157 }
set_option maxHeartbeats 4000000 in
set_option maxRecDepth 100000 in
theorem wL_differ_ok (l : Launch) (D : va_G) (C : Nat → ClassId) (cD : ClassId) (K adK adV : Nat → Nat) (ao : Nat) (hAp : DAp K) (hao : ¬ DAd K ao) (u : CSt) (o : Int64) (x1 : Int32) (x2 : Int32) {postM : Int32 → CSt → Prop} (hM : CMi l yX6_differ wsX6_differ rm_X6_differ D C K 0 [.int x1, .int x2] u.1 u.2.1 u.2.2.1 u.2.2.2 postM) (rv : Int32) (CU : CSt → Prop) (hp : ∀ r q, postM r q → r = rv ∧ CU q) : LM l yL_differ wsL_differ rw_differ D C cD K adK adV ao (OLn C ao) [.int x1, .int x2] u o (fun r q => r = nI 0 ∧ q.2 = rv.toInt64 ∧ CU q.1) := by
  refine LM_of (lv := [(0, .ref (K 0)), (1, .int x1), (2, .int x2), (3, .ref ao)]) (cc := cL_differ) (maxL := 5) (ret := some .int) (hh := [(0, 10, 13, 19)]) rfl (by decide +kernel) (Nat.le_of_ble_eq_true rfl) rfl ?_
  intro p e s m args below meth c X hKd hAM hAS hNC ht hml hr hlk
  generalize hQ : MQ below _ args s 1 6 _ = Q
  refine zz_aload_n 0 X.1 3 dL_differ_0 rfl ?_
  refine zz_iconst 1 X.1 (v := nI 0) dL_differ_1 rfl ?_
  refine zz_aload_n 2 X.1 0 dL_differ_2 rfl ?_
  refine zz_iload_n 3 X.1 1 dL_differ_3 rfl ?_
  refine zz_iload_n 4 X.1 2 dL_differ_4 rfl ?_
  refine lm_calli 5 X hml hao rfl (As := [.int x1, .int x2]) hM gL_differ_X6_differ rfl ⟨rfl, rfl⟩ yd_X6_differ ⟨Nat.le_of_ble_eq_true rfl, Nat.le_of_ble_eq_true rfl⟩ rfl rfl (Nat.le_of_ble_eq_true rfl) ⟨Nat.le_of_ble_eq_true rfl, Nat.le_of_ble_eq_true rfl⟩ dL_differ_5 ?_
  intro r q hq
  obtain ⟨he, hc⟩ := hp r q hq
  rw [he]
  refine zz_i2l 8 X.1 dL_differ_8 rfl ?_
  refine lm_lst 9 X hAp hao dL_differ_9 ?_
  refine zz_goto 10 17 X.1 dL_differ_10 (by decide) ?_
  refine zz_widen (k := 1) (j := 6) (Nat.le_of_ble_eq_true rfl) (Nat.le_of_ble_eq_true rfl) ?_
  refine zz_iconst 17 X.1 (v := nI 0) dL_differ_17 rfl ?_
  rw [← hQ]
  refine zz_iret 18 X.1 hr rfl hlk (q, rv.toInt64) ⟨rfl, rfl, hc⟩ (fun _ h => fun _ => h) dL_differ_18

set_option maxHeartbeats 4000000 in
set_option maxRecDepth 100000 in
theorem wL_differ_x1 (l : Launch) (D : va_G) (C : Nat → ClassId) (cD : ClassId) (K adK adV : Nat → Nat) (ao : Nat) (hAp : DAp K) (hao : ¬ DAd K ao) (u : CSt) (o : Int64) (x1 : Int32) (x2 : Int32) {u0 : CSt} (hX : CX l yX6_differ wsX6_differ rx_X6_differ D C K 0 [.int x1, .int x2] u.1 u.2.1 u.2.2.1 u.2.2.2 "java/lang/IllegalArgumentException" u0) : LM l yL_differ wsL_differ rw_differ D C cD K adK adV ao (OLn C ao) [.int x1, .int x2] u o (fun r q => r = nI 1 ∧ q.2 = o ∧ q.1 = u0) := by
  refine LM_of (lv := [(0, .ref (K 0)), (1, .int x1), (2, .int x2), (3, .ref ao)]) (cc := cL_differ) (maxL := 5) (ret := some .int) (hh := [(0, 10, 13, 19)]) rfl (by decide +kernel) (Nat.le_of_ble_eq_true rfl) rfl ?_
  intro p e s m args below meth c X hKd hAM hAS hNC ht hml hr hlk
  generalize hQ : MQ below _ args s 1 6 _ = Q
  refine zz_aload_n 0 X.1 3 dL_differ_0 rfl ?_
  refine zz_iconst 1 X.1 (v := nI 0) dL_differ_1 rfl ?_
  refine zz_aload_n 2 X.1 0 dL_differ_2 rfl ?_
  refine zz_iload_n 3 X.1 1 dL_differ_3 rfl ?_
  refine zz_iload_n 4 X.1 2 dL_differ_4 rfl ?_
  refine lm_callX 5 X hAM hml hao rfl (As := [.int x1, .int x2]) hX gL_differ_X6_differ rfl ⟨rfl, rfl⟩ yd_X6_differ ⟨Nat.le_of_ble_eq_true rfl, Nat.le_of_ble_eq_true rfl⟩ rfl rfl (Nat.le_of_ble_eq_true rfl) ⟨Nat.le_of_ble_eq_true rfl, Nat.le_of_ble_eq_true rfl⟩ dL_differ_5 [] ⟨0, 10, 13, 19⟩ [] ht (fun z hz => absurd hz List.not_mem_nil) (by decide) (by decide) (name := "java/lang/IllegalArgumentException") (by decide +kernel) (by decide +kernel) (hpc := 13) rfl ?_
  intro q9
  refine zz_astore 13 X.1 (lv' := [(4, .ref q9), (0, .ref (K 0)), (1, .int x1), (2, .int x2), (3, .ref ao)]) dL_differ_13 (by decide) rfl ?_
  refine zz_iconst 15 X.1 (v := nI 1) dL_differ_15 rfl ?_
  rw [← hQ]
  refine zz_iret 16 X.1 hr rfl hlk (u0, o) ⟨rfl, rfl, rfl⟩ (fun _ h => fun _ => h) dL_differ_16

abbrev rw_subtract : Room := { frames := 9, cells := 1, slots := 6, locals := 157 }
set_option maxHeartbeats 4000000 in
set_option maxRecDepth 100000 in
theorem wL_subtract_ok (l : Launch) (D : va_G) (C : Nat → ClassId) (cD : ClassId) (K adK adV : Nat → Nat) (ao : Nat) (hAp : DAp K) (hao : ¬ DAd K ao) (u : CSt) (o : Int64) (x1 : Int32) (x2 : Int32) {postM : Int32 → CSt → Prop} (hM : CMi l yX6_subtract wsX6_subtract rm_X6_subtract D C K 0 [.int x1, .int x2] u.1 u.2.1 u.2.2.1 u.2.2.2 postM) (rv : Int32) (CU : CSt → Prop) (hp : ∀ r q, postM r q → r = rv ∧ CU q) : LM l yL_subtract wsL_subtract rw_subtract D C cD K adK adV ao (OLn C ao) [.int x1, .int x2] u o (fun r q => r = nI 0 ∧ q.2 = rv.toInt64 ∧ CU q.1) := by
  refine LM_of (lv := [(0, .ref (K 0)), (1, .int x1), (2, .int x2), (3, .ref ao)]) (cc := cL_subtract) (maxL := 5) (ret := some .int) (hh := [(0, 10, 13, 19)]) rfl (by decide +kernel) (Nat.le_of_ble_eq_true rfl) rfl ?_
  intro p e s m args below meth c X hKd hAM hAS hNC ht hml hr hlk
  generalize hQ : MQ below _ args s 1 6 _ = Q
  refine zz_aload_n 0 X.1 3 dL_subtract_0 rfl ?_
  refine zz_iconst 1 X.1 (v := nI 0) dL_subtract_1 rfl ?_
  refine zz_aload_n 2 X.1 0 dL_subtract_2 rfl ?_
  refine zz_iload_n 3 X.1 1 dL_subtract_3 rfl ?_
  refine zz_iload_n 4 X.1 2 dL_subtract_4 rfl ?_
  refine lm_calli 5 X hml hao rfl (As := [.int x1, .int x2]) hM gL_subtract_X6_subtract rfl ⟨rfl, rfl⟩ yd_X6_subtract ⟨Nat.le_of_ble_eq_true rfl, Nat.le_of_ble_eq_true rfl⟩ rfl rfl (Nat.le_of_ble_eq_true rfl) ⟨Nat.le_of_ble_eq_true rfl, Nat.le_of_ble_eq_true rfl⟩ dL_subtract_5 ?_
  intro r q hq
  obtain ⟨he, hc⟩ := hp r q hq
  rw [he]
  refine zz_i2l 8 X.1 dL_subtract_8 rfl ?_
  refine lm_lst 9 X hAp hao dL_subtract_9 ?_
  refine zz_goto 10 17 X.1 dL_subtract_10 (by decide) ?_
  refine zz_widen (k := 1) (j := 6) (Nat.le_of_ble_eq_true rfl) (Nat.le_of_ble_eq_true rfl) ?_
  refine zz_iconst 17 X.1 (v := nI 0) dL_subtract_17 rfl ?_
  rw [← hQ]
  refine zz_iret 18 X.1 hr rfl hlk (q, rv.toInt64) ⟨rfl, rfl, hc⟩ (fun _ h => fun _ => h) dL_subtract_18

set_option maxHeartbeats 4000000 in
set_option maxRecDepth 100000 in
theorem wL_subtract_x1 (l : Launch) (D : va_G) (C : Nat → ClassId) (cD : ClassId) (K adK adV : Nat → Nat) (ao : Nat) (hAp : DAp K) (hao : ¬ DAd K ao) (u : CSt) (o : Int64) (x1 : Int32) (x2 : Int32) {u0 : CSt} (hX : CX l yX6_subtract wsX6_subtract rx_X6_subtract D C K 0 [.int x1, .int x2] u.1 u.2.1 u.2.2.1 u.2.2.2 "java/lang/IllegalArgumentException" u0) : LM l yL_subtract wsL_subtract rw_subtract D C cD K adK adV ao (OLn C ao) [.int x1, .int x2] u o (fun r q => r = nI 1 ∧ q.2 = o ∧ q.1 = u0) := by
  refine LM_of (lv := [(0, .ref (K 0)), (1, .int x1), (2, .int x2), (3, .ref ao)]) (cc := cL_subtract) (maxL := 5) (ret := some .int) (hh := [(0, 10, 13, 19)]) rfl (by decide +kernel) (Nat.le_of_ble_eq_true rfl) rfl ?_
  intro p e s m args below meth c X hKd hAM hAS hNC ht hml hr hlk
  generalize hQ : MQ below _ args s 1 6 _ = Q
  refine zz_aload_n 0 X.1 3 dL_subtract_0 rfl ?_
  refine zz_iconst 1 X.1 (v := nI 0) dL_subtract_1 rfl ?_
  refine zz_aload_n 2 X.1 0 dL_subtract_2 rfl ?_
  refine zz_iload_n 3 X.1 1 dL_subtract_3 rfl ?_
  refine zz_iload_n 4 X.1 2 dL_subtract_4 rfl ?_
  refine lm_callX 5 X hAM hml hao rfl (As := [.int x1, .int x2]) hX gL_subtract_X6_subtract rfl ⟨rfl, rfl⟩ yd_X6_subtract ⟨Nat.le_of_ble_eq_true rfl, Nat.le_of_ble_eq_true rfl⟩ rfl rfl (Nat.le_of_ble_eq_true rfl) ⟨Nat.le_of_ble_eq_true rfl, Nat.le_of_ble_eq_true rfl⟩ dL_subtract_5 [] ⟨0, 10, 13, 19⟩ [] ht (fun z hz => absurd hz List.not_mem_nil) (by decide) (by decide) (name := "java/lang/IllegalArgumentException") (by decide +kernel) (by decide +kernel) (hpc := 13) rfl ?_
  intro q9
  refine zz_astore 13 X.1 (lv' := [(4, .ref q9), (0, .ref (K 0)), (1, .int x1), (2, .int x2), (3, .ref ao)]) dL_subtract_13 (by decide) rfl ?_
  refine zz_iconst 15 X.1 (v := nI 1) dL_subtract_15 rfl ?_
  rw [← hQ]
  refine zz_iret 16 X.1 hr rfl hlk (u0, o) ⟨rfl, rfl, rfl⟩ (fun _ h => fun _ => h) dL_subtract_16

abbrev rw_copy : Room := { frames := 9, cells := 1, slots := 6, locals := 157 }
set_option maxHeartbeats 4000000 in
set_option maxRecDepth 100000 in
theorem wL_copy_ok (l : Launch) (D : va_G) (C : Nat → ClassId) (cD : ClassId) (K adK adV : Nat → Nat) (ao : Nat) (hAp : DAp K) (hao : ¬ DAd K ao) (u : CSt) (o : Int64) (x1 : Int32) (x2 : Int32) {postM : Int32 → CSt → Prop} (hM : CMi l yX6_copy wsX6_copy rm_X6_copy D C K 0 [.int x1, .int x2] u.1 u.2.1 u.2.2.1 u.2.2.2 postM) (rv : Int32) (CU : CSt → Prop) (hp : ∀ r q, postM r q → r = rv ∧ CU q) : LM l yL_copy wsL_copy rw_copy D C cD K adK adV ao (OLn C ao) [.int x1, .int x2] u o (fun r q => r = nI 0 ∧ q.2 = rv.toInt64 ∧ CU q.1) := by
  refine LM_of (lv := [(0, .ref (K 0)), (1, .int x1), (2, .int x2), (3, .ref ao)]) (cc := cL_copy) (maxL := 5) (ret := some .int) (hh := [(0, 10, 13, 19)]) rfl (by decide +kernel) (Nat.le_of_ble_eq_true rfl) rfl ?_
  intro p e s m args below meth c X hKd hAM hAS hNC ht hml hr hlk
  generalize hQ : MQ below _ args s 1 6 _ = Q
  refine zz_aload_n 0 X.1 3 dL_copy_0 rfl ?_
  refine zz_iconst 1 X.1 (v := nI 0) dL_copy_1 rfl ?_
  refine zz_aload_n 2 X.1 0 dL_copy_2 rfl ?_
  refine zz_iload_n 3 X.1 1 dL_copy_3 rfl ?_
  refine zz_iload_n 4 X.1 2 dL_copy_4 rfl ?_
  refine lm_calli 5 X hml hao rfl (As := [.int x1, .int x2]) hM gL_copy_X6_copy rfl ⟨rfl, rfl⟩ yd_X6_copy ⟨Nat.le_of_ble_eq_true rfl, Nat.le_of_ble_eq_true rfl⟩ rfl rfl (Nat.le_of_ble_eq_true rfl) ⟨Nat.le_of_ble_eq_true rfl, Nat.le_of_ble_eq_true rfl⟩ dL_copy_5 ?_
  intro r q hq
  obtain ⟨he, hc⟩ := hp r q hq
  rw [he]
  refine zz_i2l 8 X.1 dL_copy_8 rfl ?_
  refine lm_lst 9 X hAp hao dL_copy_9 ?_
  refine zz_goto 10 17 X.1 dL_copy_10 (by decide) ?_
  refine zz_widen (k := 1) (j := 6) (Nat.le_of_ble_eq_true rfl) (Nat.le_of_ble_eq_true rfl) ?_
  refine zz_iconst 17 X.1 (v := nI 0) dL_copy_17 rfl ?_
  rw [← hQ]
  refine zz_iret 18 X.1 hr rfl hlk (q, rv.toInt64) ⟨rfl, rfl, hc⟩ (fun _ h => fun _ => h) dL_copy_18

set_option maxHeartbeats 4000000 in
set_option maxRecDepth 100000 in
theorem wL_copy_x1 (l : Launch) (D : va_G) (C : Nat → ClassId) (cD : ClassId) (K adK adV : Nat → Nat) (ao : Nat) (hAp : DAp K) (hao : ¬ DAd K ao) (u : CSt) (o : Int64) (x1 : Int32) (x2 : Int32) {u0 : CSt} (hX : CX l yX6_copy wsX6_copy rx_X6_copy D C K 0 [.int x1, .int x2] u.1 u.2.1 u.2.2.1 u.2.2.2 "java/lang/IllegalArgumentException" u0) : LM l yL_copy wsL_copy rw_copy D C cD K adK adV ao (OLn C ao) [.int x1, .int x2] u o (fun r q => r = nI 1 ∧ q.2 = o ∧ q.1 = u0) := by
  refine LM_of (lv := [(0, .ref (K 0)), (1, .int x1), (2, .int x2), (3, .ref ao)]) (cc := cL_copy) (maxL := 5) (ret := some .int) (hh := [(0, 10, 13, 19)]) rfl (by decide +kernel) (Nat.le_of_ble_eq_true rfl) rfl ?_
  intro p e s m args below meth c X hKd hAM hAS hNC ht hml hr hlk
  generalize hQ : MQ below _ args s 1 6 _ = Q
  refine zz_aload_n 0 X.1 3 dL_copy_0 rfl ?_
  refine zz_iconst 1 X.1 (v := nI 0) dL_copy_1 rfl ?_
  refine zz_aload_n 2 X.1 0 dL_copy_2 rfl ?_
  refine zz_iload_n 3 X.1 1 dL_copy_3 rfl ?_
  refine zz_iload_n 4 X.1 2 dL_copy_4 rfl ?_
  refine lm_callX 5 X hAM hml hao rfl (As := [.int x1, .int x2]) hX gL_copy_X6_copy rfl ⟨rfl, rfl⟩ yd_X6_copy ⟨Nat.le_of_ble_eq_true rfl, Nat.le_of_ble_eq_true rfl⟩ rfl rfl (Nat.le_of_ble_eq_true rfl) ⟨Nat.le_of_ble_eq_true rfl, Nat.le_of_ble_eq_true rfl⟩ dL_copy_5 [] ⟨0, 10, 13, 19⟩ [] ht (fun z hz => absurd hz List.not_mem_nil) (by decide) (by decide) (name := "java/lang/IllegalArgumentException") (by decide +kernel) (by decide +kernel) (hpc := 13) rfl ?_
  intro q9
  refine zz_astore 13 X.1 (lv' := [(4, .ref q9), (0, .ref (K 0)), (1, .int x1), (2, .int x2), (3, .ref ao)]) dL_copy_13 (by decide) rfl ?_
  refine zz_iconst 15 X.1 (v := nI 1) dL_copy_15 rfl ?_
  rw [← hQ]
  refine zz_iret 16 X.1 hr rfl hlk (u0, o) ⟨rfl, rfl, rfl⟩ (fun _ h => fun _ => h) dL_copy_16

abbrev rw_takePart : Room := { frames := 9, cells := 1, slots := 6, locals := 161 }
set_option maxHeartbeats 4000000 in
set_option maxRecDepth 100000 in
theorem wL_takePart_ok (l : Launch) (D : va_G) (C : Nat → ClassId) (cD : ClassId) (K adK adV : Nat → Nat) (ao : Nat) (hAp : DAp K) (hao : ¬ DAd K ao) (u : CSt) (o : Int64) (x1 : Int32) (x2 : Int32) (x3 : Int32) (x4 : Int32) {postM : Int32 → CSt → Prop} (hM : CMi l yX6_takePart wsX6_takePart rm_X6_takePart D C K 0 [.int x1, .int x2, .int x3, .int x4] u.1 u.2.1 u.2.2.1 u.2.2.2 postM) (rv : Int32) (CU : CSt → Prop) (hp : ∀ r q, postM r q → r = rv ∧ CU q) : LM l yL_takePart wsL_takePart rw_takePart D C cD K adK adV ao (OLn C ao) [.int x1, .int x2, .int x3, .int x4] u o (fun r q => r = nI 0 ∧ q.2 = rv.toInt64 ∧ CU q.1) := by
  refine LM_of (lv := [(0, .ref (K 0)), (1, .int x1), (2, .int x2), (3, .int x3), (4, .int x4), (5, .ref ao)]) (cc := cL_takePart) (maxL := 7) (ret := some .int) (hh := [(0, 14, 17, 19), (0, 14, 21, 25)]) rfl (by decide +kernel) (Nat.le_of_ble_eq_true rfl) rfl ?_
  intro p e s m args below meth c X hKd hAM hAS hNC ht hml hr hlk
  generalize hQ : MQ below _ args s 1 6 _ = Q
  refine zz_aload 0 X.1 5 dL_takePart_0 rfl ?_
  refine zz_iconst 2 X.1 (v := nI 0) dL_takePart_2 rfl ?_
  refine zz_aload_n 3 X.1 0 dL_takePart_3 rfl ?_
  refine zz_iload_n 4 X.1 1 dL_takePart_4 rfl ?_
  refine zz_iload_n 5 X.1 2 dL_takePart_5 rfl ?_
  refine zz_iload_n 6 X.1 3 dL_takePart_6 rfl ?_
  refine zz_iload 7 X.1 4 dL_takePart_7 rfl ?_
  refine lm_calli 9 X hml hao rfl (As := [.int x1, .int x2, .int x3, .int x4]) hM gL_takePart_X6_takePart rfl ⟨rfl, rfl⟩ yd_X6_takePart ⟨Nat.le_of_ble_eq_true rfl, Nat.le_of_ble_eq_true rfl⟩ rfl rfl (Nat.le_of_ble_eq_true rfl) ⟨Nat.le_of_ble_eq_true rfl, Nat.le_of_ble_eq_true rfl⟩ dL_takePart_9 ?_
  intro r q hq
  obtain ⟨he, hc⟩ := hp r q hq
  rw [he]
  refine zz_i2l 12 X.1 dL_takePart_12 rfl ?_
  refine lm_lst 13 X hAp hao dL_takePart_13 ?_
  refine zz_goto 14 25 X.1 dL_takePart_14 (by decide) ?_
  refine zz_widen (k := 1) (j := 6) (Nat.le_of_ble_eq_true rfl) (Nat.le_of_ble_eq_true rfl) ?_
  refine zz_iconst 25 X.1 (v := nI 0) dL_takePart_25 rfl ?_
  rw [← hQ]
  refine zz_iret 26 X.1 hr rfl hlk (q, rv.toInt64) ⟨rfl, rfl, hc⟩ (fun _ h => fun _ => h) dL_takePart_26

set_option maxHeartbeats 4000000 in
set_option maxRecDepth 100000 in
theorem wL_takePart_x1 (l : Launch) (D : va_G) (C : Nat → ClassId) (cD : ClassId) (K adK adV : Nat → Nat) (ao : Nat) (hAp : DAp K) (hao : ¬ DAd K ao) (u : CSt) (o : Int64) (x1 : Int32) (x2 : Int32) (x3 : Int32) (x4 : Int32) {u0 : CSt} (hX : CX l yX6_takePart wsX6_takePart rx_X6_takePart D C K 0 [.int x1, .int x2, .int x3, .int x4] u.1 u.2.1 u.2.2.1 u.2.2.2 "java/lang/IllegalArgumentException" u0) : LM l yL_takePart wsL_takePart rw_takePart D C cD K adK adV ao (OLn C ao) [.int x1, .int x2, .int x3, .int x4] u o (fun r q => r = nI 1 ∧ q.2 = o ∧ q.1 = u0) := by
  refine LM_of (lv := [(0, .ref (K 0)), (1, .int x1), (2, .int x2), (3, .int x3), (4, .int x4), (5, .ref ao)]) (cc := cL_takePart) (maxL := 7) (ret := some .int) (hh := [(0, 14, 17, 19), (0, 14, 21, 25)]) rfl (by decide +kernel) (Nat.le_of_ble_eq_true rfl) rfl ?_
  intro p e s m args below meth c X hKd hAM hAS hNC ht hml hr hlk
  generalize hQ : MQ below _ args s 1 6 _ = Q
  refine zz_aload 0 X.1 5 dL_takePart_0 rfl ?_
  refine zz_iconst 2 X.1 (v := nI 0) dL_takePart_2 rfl ?_
  refine zz_aload_n 3 X.1 0 dL_takePart_3 rfl ?_
  refine zz_iload_n 4 X.1 1 dL_takePart_4 rfl ?_
  refine zz_iload_n 5 X.1 2 dL_takePart_5 rfl ?_
  refine zz_iload_n 6 X.1 3 dL_takePart_6 rfl ?_
  refine zz_iload 7 X.1 4 dL_takePart_7 rfl ?_
  refine lm_callX 9 X hAM hml hao rfl (As := [.int x1, .int x2, .int x3, .int x4]) hX gL_takePart_X6_takePart rfl ⟨rfl, rfl⟩ yd_X6_takePart ⟨Nat.le_of_ble_eq_true rfl, Nat.le_of_ble_eq_true rfl⟩ rfl rfl (Nat.le_of_ble_eq_true rfl) ⟨Nat.le_of_ble_eq_true rfl, Nat.le_of_ble_eq_true rfl⟩ dL_takePart_9 [] ⟨0, 14, 17, 19⟩ [⟨0, 14, 21, 25⟩] ht (fun z hz => absurd hz List.not_mem_nil) (by decide) (by decide) (name := "java/lang/IllegalArgumentException") (by decide +kernel) (by decide +kernel) (hpc := 17) rfl ?_
  intro q9
  refine zz_astore 17 X.1 (lv' := [(6, .ref q9), (0, .ref (K 0)), (1, .int x1), (2, .int x2), (3, .int x3), (4, .int x4), (5, .ref ao)]) dL_takePart_17 (by decide) rfl ?_
  refine zz_iconst 19 X.1 (v := nI 1) dL_takePart_19 rfl ?_
  rw [← hQ]
  refine zz_iret 20 X.1 hr rfl hlk (u0, o) ⟨rfl, rfl, rfl⟩ (fun _ h => fun _ => h) dL_takePart_20

set_option maxHeartbeats 4000000 in
set_option maxRecDepth 100000 in
theorem wL_takePart_x2 (l : Launch) (D : va_G) (C : Nat → ClassId) (cD : ClassId) (K adK adV : Nat → Nat) (ao : Nat) (hAp : DAp K) (hao : ¬ DAd K ao) (u : CSt) (o : Int64) (x1 : Int32) (x2 : Int32) (x3 : Int32) (x4 : Int32) {u0 : CSt} (hX : CX l yX6_takePart wsX6_takePart rx_X6_takePart D C K 0 [.int x1, .int x2, .int x3, .int x4] u.1 u.2.1 u.2.2.1 u.2.2.2 "java/lang/IndexOutOfBoundsException" u0) : LM l yL_takePart wsL_takePart rw_takePart D C cD K adK adV ao (OLn C ao) [.int x1, .int x2, .int x3, .int x4] u o (fun r q => r = nI 2 ∧ q.2 = o ∧ q.1 = u0) := by
  refine LM_of (lv := [(0, .ref (K 0)), (1, .int x1), (2, .int x2), (3, .int x3), (4, .int x4), (5, .ref ao)]) (cc := cL_takePart) (maxL := 7) (ret := some .int) (hh := [(0, 14, 17, 19), (0, 14, 21, 25)]) rfl (by decide +kernel) (Nat.le_of_ble_eq_true rfl) rfl ?_
  intro p e s m args below meth c X hKd hAM hAS hNC ht hml hr hlk
  generalize hQ : MQ below _ args s 1 6 _ = Q
  refine zz_aload 0 X.1 5 dL_takePart_0 rfl ?_
  refine zz_iconst 2 X.1 (v := nI 0) dL_takePart_2 rfl ?_
  refine zz_aload_n 3 X.1 0 dL_takePart_3 rfl ?_
  refine zz_iload_n 4 X.1 1 dL_takePart_4 rfl ?_
  refine zz_iload_n 5 X.1 2 dL_takePart_5 rfl ?_
  refine zz_iload_n 6 X.1 3 dL_takePart_6 rfl ?_
  refine zz_iload 7 X.1 4 dL_takePart_7 rfl ?_
  refine lm_callX 9 X hAM hml hao rfl (As := [.int x1, .int x2, .int x3, .int x4]) hX gL_takePart_X6_takePart rfl ⟨rfl, rfl⟩ yd_X6_takePart ⟨Nat.le_of_ble_eq_true rfl, Nat.le_of_ble_eq_true rfl⟩ rfl rfl (Nat.le_of_ble_eq_true rfl) ⟨Nat.le_of_ble_eq_true rfl, Nat.le_of_ble_eq_true rfl⟩ dL_takePart_9 [⟨0, 14, 17, 19⟩] ⟨0, 14, 21, 25⟩ [] ht (fun z hz => by cases List.mem_singleton.mp hz; exact Or.inr ⟨by decide, "java/lang/IllegalArgumentException", X.2.1 _ (by decide +kernel), hNC.1⟩) (by decide) (by decide) (name := "java/lang/IndexOutOfBoundsException") (by decide +kernel) (by decide +kernel) (hpc := 21) rfl ?_
  intro q9
  refine zz_astore 21 X.1 (lv' := [(6, .ref q9), (0, .ref (K 0)), (1, .int x1), (2, .int x2), (3, .int x3), (4, .int x4), (5, .ref ao)]) dL_takePart_21 (by decide) rfl ?_
  refine zz_iconst 23 X.1 (v := nI 2) dL_takePart_23 rfl ?_
  rw [← hQ]
  refine zz_iret 24 X.1 hr rfl hlk (u0, o) ⟨rfl, rfl, rfl⟩ (fun _ h => fun _ => h) dL_takePart_24
