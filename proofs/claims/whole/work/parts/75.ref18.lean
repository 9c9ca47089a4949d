/-! The reference's constructor. -/
def hA0 : Nat → Nat → Bool
  | 0 => fun _ => false
  | k + 1 => va_up (va_up (hA0 k) k true) (1024 + 2 * k) true
def hs00 : Nat → Bool := va_up (va_up (va_up (va_up (va_up (va_up (va_up (va_up (va_up (va_up (va_up (hA0 10) 2049 true) 2050 true) 2051 true) 2053 true) 2056 true) 2061 true) 2069 true) 2111 true) 2112 true) 2175 true) 2176 true
def rF0 : Nat → Int32 := fun k => if k = 16 then -1 else if k = 17 then -1 else 0
abbrev rm_X7_init : Room := { frames := 1, cells := 9, slots := 15316, locals := 12 }

set_option maxHeartbeats 8000000 in
set_option maxRecDepth 100000 in
theorem kt_X7_init (l : Launch) (D : va_G) (C : Nat → ClassId) (h0 : Nat) : ∀ sz : Nat, Met l yX7_init wsX7_init rm_X7_init (va_Pc [.ref h0] (zz_E (fun _ U => va_P D vwCl [(h0, .inr (7, [.int 0, .null, .int 0, .null, .int 0, .int 0, .int 0, .int 0, .int 0, .null, .null, .null, .null, .null, .int 0, .int 0, .int 0, .int 0, .null, .null, .int 0]))] U.heap ∧ va_K D vwCl (TY C) U) sz)) (va_Qv (fun K : Nat → Nat => K 0 = h0) (fun K t => LPw (zz_A (fun q => q = h0) sz) D (RW C K rF0 hs00 (fun _ => false) (fun _ _ => 0)) t.heap) (zz_A (fun q => q = h0) sz)) 9 15316 (zz_A (fun q => q = h0) sz) := by
  intro sz
  refine Met.ofW (cc := cX7_init) (maxL := 4) (ret := none) (by decide) rfl ?_
  intro p e s m args below meth c s₁ B hml hv
  obtain ⟨rfl, rfl, hP0, hK⟩ := hv
  have hin2 : meth.name = "<init>" := (name_of_methodNamed B.named B.method).1
  have hr := B.returns
  have hlk := B.notSynchronized
  have X : CCx p s m (#[Value.ref h0]) c cX7_init wsX7_init RX7 D C := ⟨⟨B.exec, B.bytes⟩, atoms_spec (ws := wsX7_init) B.pre, findClass_of_methodNamed B.named, hK⟩
  have hA : ∀ q : Nat, s.heap.size ≤ q → (zz_A (fun q => q = h0) s.heap.size) q := fun q h => Or.inr h
  refine zz_enter (A := (zz_A (fun q => q = h0) s.heap.size)) (P := LPw (zz_A (fun q => q = h0) s.heap.size) D [(h0, .inr (7, [.int 0, .null, .int 0, .null, .int 0, .int 0, .int 0, .int 0, .int 0, .null, .null, .null, .null, .null, .int 0, .int 0, .int 0, .int 0, .null, .null, .int 0]))]) [.ref h0] 4 (Nat.le_of_ble_eq_true rfl) (lv := [(0, .ref h0)]) rfl ⟨hP0, D_one (Or.inl rfl)⟩ ?_
  obtain ⟨args, hargs⟩ : ∃ args, args = (#[Value.ref h0] : Array Value) := ⟨_, rfl⟩
  rw [← hargs] at X
  show ZZ p l e rm_X7_init s m (#[Value.ref h0]) below meth c 0 0 (MQ below _ (#[Value.ref h0]) s 9 15316 _) _ _ _ _ _ _
  rw [← hargs]
  generalize hQ : MQ below _ _ s 9 15316 _ = Q
  refine zz_aload_n 0 X.1 0 dX7_init_0 rfl ?_
  refine zl_init 1 X hml (by decide +kernel) (by decide +kernel) (by decide +kernel) dX7_init_1 ⟨Nat.le_of_ble_eq_true rfl, Nat.le_of_ble_eq_true rfl⟩ ?_
  refine zz_aload_n 4 X.1 0 dX7_init_4 rfl ?_
  refine zz_sipush 5 X.1 (v := nI 8192) dX7_init_5 rfl ?_
  refine zl_newa 8 X hA 3 rfl rfl (by decide +kernel) (N' := 8192) (a0 := (8192, .inl (fun j => bI ((fun _ => false) j)))) (fun _ => rfl) (by decide) (by decide) ⟨Nat.le_of_ble_eq_true rfl, Nat.le_of_ble_eq_true rfl⟩ dX7_init_8 ?_
  intro qa1
  refine zz_world (P' := (LPw (zz_A (fun q => q = h0) s.heap.size) D [(h0, .inr (7, [.int 0, .null, .int 0, .null, .int 0, .int 0, .int 0, .int 0, .int 0, .null, .null, .null, .null, .null, .int 0, .int 0, .int 0, .int 0, .null, .null, .int 0])), (qa1, .inl (C 3, 8192, .inl (fun j => bI ((fun _ => false) j))))])) (fun _ h => h) ?_
  refine zl_putF 10 X hin2 (by decide +kernel) tyX7 tyX7_ok nmX7 rfl 0 rfl 1 (by decide) (by decide +kernel) rfl rfl (v := .ref qa1) rfl rfl rfl (Nat.le_of_ble_eq_true rfl) dX7_init_10 ?_
  refine zz_world (P' := (LPw (zz_A (fun q => q = h0) s.heap.size) D [(h0, .inr (7, [.int 0, .ref qa1, .int 0, .null, .int 0, .int 0, .int 0, .int 0, .int 0, .null, .null, .null, .null, .null, .int 0, .int 0, .int 0, .int 0, .null, .null, .int 0])), (qa1, .inl (C 3, 8192, .inl (fun j => bI ((fun _ => false) j))))])) (fun _ h => h) ?_
  refine zz_aload_n 13 X.1 0 dX7_init_13 rfl ?_
  refine zz_sipush 14 X.1 (v := nI 400) dX7_init_14 rfl ?_
  refine zl_newa 17 X hA 1 rfl rfl (by decide +kernel) (N' := 400) (a0 := (400, .inl (fun _ => 0))) (fun _ => rfl) (by decide) (by decide) ⟨Nat.le_of_ble_eq_true rfl, Nat.le_of_ble_eq_true rfl⟩ dX7_init_17 ?_
  intro qa2
  refine zz_world (P' := (LPw (zz_A (fun q => q = h0) s.heap.size) D [(h0, .inr (7, [.int 0, .ref qa1, .int 0, .null, .int 0, .int 0, .int 0, .int 0, .int 0, .null, .null, .null, .null, .null, .int 0, .int 0, .int 0, .int 0, .null, .null, .int 0])), (qa1, .inl (C 3, 8192, .inl (fun j => bI ((fun _ => false) j)))), (qa2, .inl (C 1, 400, .inl (fun _ => 0)))])) (fun _ h => h) ?_
  refine zl_putF 19 X hin2 (by decide +kernel) tyX7 tyX7_ok nmX7 rfl 0 rfl 3 (by decide) (by decide +kernel) rfl rfl (v := .ref qa2) rfl rfl rfl (Nat.le_of_ble_eq_true rfl) dX7_init_19 ?_
  refine zz_world (P' := (LPw (zz_A (fun q => q = h0) s.heap.size) D [(h0, .inr (7, [.int 0, .ref qa1, .int 0, .ref qa2, .int 0, .int 0, .int 0, .int 0, .int 0, .null, .null, .null, .null, .null, .int 0, .int 0, .int 0, .int 0, .null, .null, .int 0])), (qa1, .inl (C 3, 8192, .inl (fun j => bI ((fun _ => false) j)))), (qa2, .inl (C 1, 400, .inl (fun _ => 0)))])) (fun _ h => h) ?_
  refine zz_aload_n 22 X.1 0 dX7_init_22 rfl ?_
  refine zz_bipush 23 X.1 (v := nI 100) dX7_init_23 rfl ?_
  refine zl_newa 25 X hA 1 rfl rfl (by decide +kernel) (N' := 100) (a0 := (100, .inl (fun _ => 0))) (fun _ => rfl) (by decide) (by decide) ⟨Nat.le_of_ble_eq_true rfl, Nat.le_of_ble_eq_true rfl⟩ dX7_init_25 ?_
  intro qa3
  refine zz_world (P' := (LPw (zz_A (fun q => q = h0) s.heap.size) D [(h0, .inr (7, [.int 0, .ref qa1, .int 0, .ref qa2, .int 0, .int 0, .int 0, .int 0, .int 0, .null, .null, .null, .null, .null, .int 0, .int 0, .int 0, .int 0, .null, .null, .int 0])), (qa1, .inl (C 3, 8192, .inl (fun j => bI ((fun _ => false) j)))), (qa2, .inl (C 1, 400, .inl (fun _ => 0))), (qa3, .inl (C 1, 100, .inl (fun _ => 0)))])) (fun _ h => h) ?_
  refine zl_putF 27 X hin2 (by decide +kernel) tyX7 tyX7_ok nmX7 rfl 0 rfl 9 (by decide) (by decide +kernel) rfl rfl (v := .ref qa3) rfl rfl rfl (Nat.le_of_ble_eq_true rfl) dX7_init_27 ?_
  refine zz_world (P' := (LPw (zz_A (fun q => q = h0) s.heap.size) D [(h0, .inr (7, [.int 0, .ref qa1, .int 0, .ref qa2, .int 0, .int 0, .int 0, .int 0, .int 0, .ref qa3, .null, .null, .null, .null, .int 0, .int 0, .int 0, .int 0, .null, .null, .int 0])), (qa1, .inl (C 3, 8192, .inl (fun j => bI ((fun _ => false) j)))), (qa2, .inl (C 1, 400, .inl (fun _ => 0))), (qa3, .inl (C 1, 100, .inl (fun _ => 0)))])) (fun _ h => h) ?_
  refine zz_aload_n 30 X.1 0 dX7_init_30 rfl ?_
  refine zz_bipush 31 X.1 (v := nI 100) dX7_init_31 rfl ?_
  refine zl_newa 33 X hA 1 rfl rfl (by decide +kernel) (N' := 100) (a0 := (100, .inl (fun _ => 0))) (fun _ => rfl) (by decide) (by decide) ⟨Nat.le_of_ble_eq_true rfl, Nat.le_of_ble_eq_true rfl⟩ dX7_init_33 ?_
  intro qa4
  refine zz_world (P' := (LPw (zz_A (fun q => q = h0) s.heap.size) D [(h0, .inr (7, [.int 0, .ref qa1, .int 0, .ref qa2, .int 0, .int 0, .int 0, .int 0, .int 0, .ref qa3, .null, .null, .null, .null, .int 0, .int 0, .int 0, .int 0, .null, .null, .int 0])), (qa1, .inl (C 3, 8192, .inl (fun j => bI ((fun _ => false) j)))), (qa2, .inl (C 1, 400, .inl (fun _ => 0))), (qa3, .inl (C 1, 100, .inl (fun _ => 0))), (qa4, .inl (C 1, 100, .inl (fun _ => 0)))])) (fun _ h => h) ?_
  refine zl_putF 35 X hin2 (by decide +kernel) tyX7 tyX7_ok nmX7 rfl 0 rfl 10 (by decide) (by decide +kernel) rfl rfl (v := .ref qa4) rfl rfl rfl (Nat.le_of_ble_eq_true rfl) dX7_init_35 ?_
  refine zz_world (P' := (LPw (zz_A (fun q => q = h0) s.heap.size) D [(h0, .inr (7, [.int 0, .ref qa1, .int 0, .ref qa2, .int 0, .int 0, .int 0, .int 0, .int 0, .ref qa3, .ref qa4, .null, .null, .null, .int 0, .int 0, .int 0, .int 0, .null, .null, .int 0])), (qa1, .inl (C 3, 8192, .inl (fun j => bI ((fun _ => false) j)))), (qa2, .inl (C 1, 400, .inl (fun _ => 0))), (qa3, .inl (C 1, 100, .inl (fun _ => 0))), (qa4, .inl (C 1, 100, .inl (fun _ => 0)))])) (fun _ h => h) ?_
  refine zz_aload_n 38 X.1 0 dX7_init_38 rfl ?_
  refine zz_bipush 39 X.1 (v := nI 100) dX7_init_39 rfl ?_
  refine zl_newa 41 X hA 1 rfl rfl (by decide +kernel) (N' := 100) (a0 := (100, .inl (fun _ => 0))) (fun _ => rfl) (by decide) (by decide) ⟨Nat.le_of_ble_eq_true rfl, Nat.le_of_ble_eq_true rfl⟩ dX7_init_41 ?_
  intro qa5
  refine zz_world (P' := (LPw (zz_A (fun q => q = h0) s.heap.size) D [(h0, .inr (7, [.int 0, .ref qa1, .int 0, .ref qa2, .int 0, .int 0, .int 0, .int 0, .int 0, .ref qa3, .ref qa4, .null, .null, .null, .int 0, .int 0, .int 0, .int 0, .null, .null, .int 0])), (qa1, .inl (C 3, 8192, .inl (fun j => bI ((fun _ => false) j)))), (qa2, .inl (C 1, 400, .inl (fun _ => 0))), (qa3, .inl (C 1, 100, .inl (fun _ => 0))), (qa4, .inl (C 1, 100, .inl (fun _ => 0))), (qa5, .inl (C 1, 100, .inl (fun _ => 0)))])) (fun _ h => h) ?_
  refine zl_putF 43 X hin2 (by decide +kernel) tyX7 tyX7_ok nmX7 rfl 0 rfl 11 (by decide) (by decide +kernel) rfl rfl (v := .ref qa5) rfl rfl rfl (Nat.le_of_ble_eq_true rfl) dX7_init_43 ?_
  refine zz_world (P' := (LPw (zz_A (fun q => q = h0) s.heap.size) D [(h0, .inr (7, [.int 0, .ref qa1, .int 0, .ref qa2, .int 0, .int 0, .int 0, .int 0, .int 0, .ref qa3, .ref qa4, .ref qa5, .null, .null, .int 0, .int 0, .int 0, .int 0, .null, .null, .int 0])), (qa1, .inl (C 3, 8192, .inl (fun j => bI ((fun _ => false) j)))), (qa2, .inl (C 1, 400, .inl (fun _ => 0))), (qa3, .inl (C 1, 100, .inl (fun _ => 0))), (qa4, .inl (C 1, 100, .inl (fun _ => 0))), (qa5, .inl (C 1, 100, .inl (fun _ => 0)))])) (fun _ h => h) ?_
  refine zz_aload_n 46 X.1 0 dX7_init_46 rfl ?_
  refine zz_bipush 47 X.1 (v := nI 100) dX7_init_47 rfl ?_
  refine zl_newa 49 X hA 1 rfl rfl (by decide +kernel) (N' := 100) (a0 := (100, .inl (fun _ => 0))) (fun _ => rfl) (by decide) (by decide) ⟨Nat.le_of_ble_eq_true rfl, Nat.le_of_ble_eq_true rfl⟩ dX7_init_49 ?_
  intro qa6
  refine zz_world (P' := (LPw (zz_A (fun q => q = h0) s.heap.size) D [(h0, .inr (7, [.int 0, .ref qa1, .int 0, .ref qa2, .int 0, .int 0, .int 0, .int 0, .int 0, .ref qa3, .ref qa4, .ref qa5, .null, .null, .int 0, .int 0, .int 0, .int 0, .null, .null, .int 0])), (qa1, .inl (C 3, 8192, .inl (fun j => bI ((fun _ => false) j)))), (qa2, .inl (C 1, 400, .inl (fun _ => 0))), (qa3, .inl (C 1, 100, .inl (fun _ => 0))), (qa4, .inl (C 1, 100, .inl (fun _ => 0))), (qa5, .inl (C 1, 100, .inl (fun _ => 0))), (qa6, .inl (C 1, 100, .inl (fun _ => 0)))])) (fun _ h => h) ?_
  refine zl_putF 51 X hin2 (by decide +kernel) tyX7 tyX7_ok nmX7 rfl 0 rfl 12 (by decide) (by decide +kernel) rfl rfl (v := .ref qa6) rfl rfl rfl (Nat.le_of_ble_eq_true rfl) dX7_init_51 ?_
  refine zz_world (P' := (LPw (zz_A (fun q => q = h0) s.heap.size) D [(h0, .inr (7, [.int 0, .ref qa1, .int 0, .ref qa2, .int 0, .int 0, .int 0, .int 0, .int 0, .ref qa3, .ref qa4, .ref qa5, .ref qa6, .null, .int 0, .int 0, .int 0, .int 0, .null, .null, .int 0])), (qa1, .inl (C 3, 8192, .inl (fun j => bI ((fun _ => false) j)))), (qa2, .inl (C 1, 400, .inl (fun _ => 0))), (qa3, .inl (C 1, 100, .inl (fun _ => 0))), (qa4, .inl (C 1, 100, .inl (fun _ => 0))), (qa5, .inl (C 1, 100, .inl (fun _ => 0))), (qa6, .inl (C 1, 100, .inl (fun _ => 0)))])) (fun _ h => h) ?_
  refine zz_aload_n 54 X.1 0 dX7_init_54 rfl ?_
  refine zz_sipush 55 X.1 (v := nI 200) dX7_init_55 rfl ?_
  refine zl_newa 58 X hA 1 rfl rfl (by decide +kernel) (N' := 200) (a0 := (200, .inl (fun _ => 0))) (fun _ => rfl) (by decide) (by decide) ⟨Nat.le_of_ble_eq_true rfl, Nat.le_of_ble_eq_true rfl⟩ dX7_init_58 ?_
  intro qa7
  refine zz_world (P' := (LPw (zz_A (fun q => q = h0) s.heap.size) D [(h0, .inr (7, [.int 0, .ref qa1, .int 0, .ref qa2, .int 0, .int 0, .int 0, .int 0, .int 0, .ref qa3, .ref qa4, .ref qa5, .ref qa6, .null, .int 0, .int 0, .int 0, .int 0, .null, .null, .int 0])), (qa1, .inl (C 3, 8192, .inl (fun j => bI ((fun _ => false) j)))), (qa2, .inl (C 1, 400, .inl (fun _ => 0))), (qa3, .inl (C 1, 100, .inl (fun _ => 0))), (qa4, .inl (C 1, 100, .inl (fun _ => 0))), (qa5, .inl (C 1, 100, .inl (fun _ => 0))), (qa6, .inl (C 1, 100, .inl (fun _ => 0))), (qa7, .inl (C 1, 200, .inl (fun _ => 0)))])) (fun _ h => h) ?_
  refine zl_putF 60 X hin2 (by decide +kernel) tyX7 tyX7_ok nmX7 rfl 0 rfl 13 (by decide) (by decide +kernel) rfl rfl (v := .ref qa7) rfl rfl rfl (Nat.le_of_ble_eq_true rfl) dX7_init_60 ?_
  refine zz_world (P' := (LPw (zz_A (fun q => q = h0) s.heap.size) D [(h0, .inr (7, [.int 0, .ref qa1, .int 0, .ref qa2, .int 0, .int 0, .int 0, .int 0, .int 0, .ref qa3, .ref qa4, .ref qa5, .ref qa6, .ref qa7, .int 0, .int 0, .int 0, .int 0, .null, .null, .int 0])), (qa1, .inl (C 3, 8192, .inl (fun j => bI ((fun _ => false) j)))), (qa2, .inl (C 1, 400, .inl (fun _ => 0))), (qa3, .inl (C 1, 100, .inl (fun _ => 0))), (qa4, .inl (C 1, 100, .inl (fun _ => 0))), (qa5, .inl (C 1, 100, .inl (fun _ => 0))), (qa6, .inl (C 1, 100, .inl (fun _ => 0))), (qa7, .inl (C 1, 200, .inl (fun _ => 0)))])) (fun _ h => h) ?_
  refine zz_aload_n 63 X.1 0 dX7_init_63 rfl ?_
  refine zz_iconst 64 X.1 (v := (-1)) dX7_init_64 (by decide) ?_
  refine zl_put 65 X (by decide +kernel) tyX7 tyX7_ok nmX7 rfl 0 rfl 16 (by decide) (by decide +kernel) rfl rfl (v := .int (-1)) rfl rfl rfl (Nat.le_of_ble_eq_true rfl) dX7_init_65 ?_
  refine zz_world (P' := (LPw (zz_A (fun q => q = h0) s.heap.size) D [(h0, .inr (7, [.int 0, .ref qa1, .int 0, .ref qa2, .int 0, .int 0, .int 0, .int 0, .int 0, .ref qa3, .ref qa4, .ref qa5, .ref qa6, .ref qa7, .int 0, .int 0, .int (-1), .int 0, .null, .null, .int 0])), (qa1, .inl (C 3, 8192, .inl (fun j => bI ((fun _ => false) j)))), (qa2, .inl (C 1, 400, .inl (fun _ => 0))), (qa3, .inl (C 1, 100, .inl (fun _ => 0))), (qa4, .inl (C 1, 100, .inl (fun _ => 0))), (qa5, .inl (C 1, 100, .inl (fun _ => 0))), (qa6, .inl (C 1, 100, .inl (fun _ => 0))), (qa7, .inl (C 1, 200, .inl (fun _ => 0)))])) (fun _ h => h) ?_
  refine zz_aload_n 68 X.1 0 dX7_init_68 rfl ?_
  refine zz_iconst 69 X.1 (v := (-1)) dX7_init_69 (by decide) ?_
  refine zl_put 70 X (by decide +kernel) tyX7 tyX7_ok nmX7 rfl 0 rfl 17 (by decide) (by decide +kernel) rfl rfl (v := .int (-1)) rfl rfl rfl (Nat.le_of_ble_eq_true rfl) dX7_init_70 ?_
  refine zz_world (P' := (LPw (zz_A (fun q => q = h0) s.heap.size) D [(h0, .inr (7, [.int 0, .ref qa1, .int 0, .ref qa2, .int 0, .int 0, .int 0, .int 0, .int 0, .ref qa3, .ref qa4, .ref qa5, .ref qa6, .ref qa7, .int 0, .int 0, .int (-1), .int (-1), .null, .null, .int 0])), (qa1, .inl (C 3, 8192, .inl (fun j => bI ((fun _ => false) j)))), (qa2, .inl (C 1, 400, .inl (fun _ => 0))), (qa3, .inl (C 1, 100, .inl (fun _ => 0))), (qa4, .inl (C 1, 100, .inl (fun _ => 0))), (qa5, .inl (C 1, 100, .inl (fun _ => 0))), (qa6, .inl (C 1, 100, .inl (fun _ => 0))), (qa7, .inl (C 1, 200, .inl (fun _ => 0)))])) (fun _ h => h) ?_
  refine zz_aload_n 73 X.1 0 dX7_init_73 rfl ?_
  refine zz_sipush 74 X.1 (v := nI 1024) dX7_init_74 rfl ?_
  refine zl_newa 77 X hA 3 rfl rfl (by decide +kernel) (N' := 1024) (a0 := (1024, .inl (fun j => bI ((fun _ => false) j)))) (fun _ => rfl) (by decide) (by decide) ⟨Nat.le_of_ble_eq_true rfl, Nat.le_of_ble_eq_true rfl⟩ dX7_init_77 ?_
  intro qa8
  refine zz_world (P' := (LPw (zz_A (fun q => q = h0) s.heap.size) D [(h0, .inr (7, [.int 0, .ref qa1, .int 0, .ref qa2, .int 0, .int 0, .int 0, .int 0, .int 0, .ref qa3, .ref qa4, .ref qa5, .ref qa6, .ref qa7, .int 0, .int 0, .int (-1), .int (-1), .null, .null, .int 0])), (qa1, .inl (C 3, 8192, .inl (fun j => bI ((fun _ => false) j)))), (qa2, .inl (C 1, 400, .inl (fun _ => 0))), (qa3, .inl (C 1, 100, .inl (fun _ => 0))), (qa4, .inl (C 1, 100, .inl (fun _ => 0))), (qa5, .inl (C 1, 100, .inl (fun _ => 0))), (qa6, .inl (C 1, 100, .inl (fun _ => 0))), (qa7, .inl (C 1, 200, .inl (fun _ => 0))), (qa8, .inl (C 3, 1024, .inl (fun j => bI ((fun _ => false) j))))])) (fun _ h => h) ?_
  refine zl_putF 79 X hin2 (by decide +kernel) tyX7 tyX7_ok nmX7 rfl 0 rfl 18 (by decide) (by decide +kernel) rfl rfl (v := .ref qa8) rfl rfl rfl (Nat.le_of_ble_eq_true rfl) dX7_init_79 ?_
  refine zz_world (P' := (LPw (zz_A (fun q => q = h0) s.heap.size) D [(h0, .inr (7, [.int 0, .ref qa1, .int 0, .ref qa2, .int 0, .int 0, .int 0, .int 0, .int 0, .ref qa3, .ref qa4, .ref qa5, .ref qa6, .ref qa7, .int 0, .int 0, .int (-1), .int (-1), .ref qa8, .null, .int 0])), (qa1, .inl (C 3, 8192, .inl (fun j => bI ((fun _ => false) j)))), (qa2, .inl (C 1, 400, .inl (fun _ => 0))), (qa3, .inl (C 1, 100, .inl (fun _ => 0))), (qa4, .inl (C 1, 100, .inl (fun _ => 0))), (qa5, .inl (C 1, 100, .inl (fun _ => 0))), (qa6, .inl (C 1, 100, .inl (fun _ => 0))), (qa7, .inl (C 1, 200, .inl (fun _ => 0))), (qa8, .inl (C 3, 1024, .inl (fun j => bI ((fun _ => false) j))))])) (fun _ h => h) ?_
  refine zz_aload_n 82 X.1 0 dX7_init_82 rfl ?_
  refine zz_sipush 83 X.1 (v := nI 5100) dX7_init_83 rfl ?_
  refine zl_newa 86 X hA 1 rfl rfl (by decide +kernel) (N' := 5100) (a0 := (5100, .inl (fun _ => 0))) (fun _ => rfl) (by decide) (by decide) ⟨Nat.le_of_ble_eq_true rfl, Nat.le_of_ble_eq_true rfl⟩ dX7_init_86 ?_
  intro qa9
  refine zz_world (P' := (LPw (zz_A (fun q => q = h0) s.heap.size) D [(h0, .inr (7, [.int 0, .ref qa1, .int 0, .ref qa2, .int 0, .int 0, .int 0, .int 0, .int 0, .ref qa3, .ref qa4, .ref qa5, .ref qa6, .ref qa7, .int 0, .int 0, .int (-1), .int (-1), .ref qa8, .null, .int 0])), (qa1, .inl (C 3, 8192, .inl (fun j => bI ((fun _ => false) j)))), (qa2, .inl (C 1, 400, .inl (fun _ => 0))), (qa3, .inl (C 1, 100, .inl (fun _ => 0))), (qa4, .inl (C 1, 100, .inl (fun _ => 0))), (qa5, .inl (C 1, 100, .inl (fun _ => 0))), (qa6, .inl (C 1, 100, .inl (fun _ => 0))), (qa7, .inl (C 1, 200, .inl (fun _ => 0))), (qa8, .inl (C 3, 1024, .inl (fun j => bI ((fun _ => false) j)))), (qa9, .inl (C 1, 5100, .inl (fun _ => 0)))])) (fun _ h => h) ?_
  refine zl_putF 88 X hin2 (by decide +kernel) tyX7 tyX7_ok nmX7 rfl 0 rfl 19 (by decide) (by decide +kernel) rfl rfl (v := .ref qa9) rfl rfl rfl (Nat.le_of_ble_eq_true rfl) dX7_init_88 ?_
  refine zz_world (P' := (LPw (zz_A (fun q => q = h0) s.heap.size) D [(h0, .inr (7, [.int 0, .ref qa1, .int 0, .ref qa2, .int 0, .int 0, .int 0, .int 0, .int 0, .ref qa3, .ref qa4, .ref qa5, .ref qa6, .ref qa7, .int 0, .int 0, .int (-1), .int (-1), .ref qa8, .ref qa9, .int 0])), (qa1, .inl (C 3, 8192, .inl (fun j => bI ((fun _ => false) j)))), (qa2, .inl (C 1, 400, .inl (fun _ => 0))), (qa3, .inl (C 1, 100, .inl (fun _ => 0))), (qa4, .inl (C 1, 100, .inl (fun _ => 0))), (qa5, .inl (C 1, 100, .inl (fun _ => 0))), (qa6, .inl (C 1, 100, .inl (fun _ => 0))), (qa7, .inl (C 1, 200, .inl (fun _ => 0))), (qa8, .inl (C 3, 1024, .inl (fun j => bI ((fun _ => false) j)))), (qa9, .inl (C 1, 5100, .inl (fun _ => 0)))])) (fun _ h => h) ?_
  refine zz_iconst 91 X.1 (v := nI 0) dX7_init_91 rfl ?_
  refine zz_istore_n 92 X.1 (lv' := [(1, .int (nI 0)), (0, .ref h0)]) dX7_init_92 (by decide) rfl ?_
  have C93 : ∀ (d : Nat) (kq : Nat) (hs1 : Nat → Bool) (hk : kq ≤ 10) (hh : hs1 = hA0 kq) (hd : 10 - kq < d), ZZ p l e rm_X7_init s m args below meth c 9 15316 Q (zz_A (fun q => q = h0) s.heap.size) (LPw (zz_A (fun q => q = h0) s.heap.size) D [(h0, .inr (7, [.int 0, .ref qa1, .int 0, .ref qa2, .int 0, .int 0, .int 0, .int 0, .int 0, .ref qa3, .ref qa4, .ref qa5, .ref qa6, .ref qa7, .int 0, .int 0, .int (-1), .int (-1), .ref qa8, .ref qa9, .int 0])), (qa1, .inl (C 3, 8192, .inl (fun j => bI (hs1 j)))), (qa2, .inl (C 1, 400, .inl (fun _ => 0))), (qa3, .inl (C 1, 100, .inl (fun _ => 0))), (qa4, .inl (C 1, 100, .inl (fun _ => 0))), (qa5, .inl (C 1, 100, .inl (fun _ => 0))), (qa6, .inl (C 1, 100, .inl (fun _ => 0))), (qa7, .inl (C 1, 200, .inl (fun _ => 0))), (qa8, .inl (C 3, 1024, .inl (fun j => bI ((fun _ => false) j)))), (qa9, .inl (C 1, 5100, .inl (fun _ => 0)))]) 4 [(0, .ref h0), (1, .int (nI kq))] [] 93 := by
    intro d
    induction d with
    | zero => intro kq hs1 hk hh hd; exact absurd hd (Nat.not_lt_zero _)
    | succ d ih93 =>
      intro kq hs1 hk hh hd
      refine zz_iload_n 93 X.1 1 dX7_init_93 rfl ?_
      refine zz_bipush 94 X.1 (v := nI 10) dX7_init_94 rfl ?_
      refine zz_icmp_ge 96 125 X.1 (nI_toInt (by omega)) (nI_toInt (by omega)) dX7_init_96 (by decide) (fun h96 => ?_) (fun h96 => ?_)
      · skip
        refine zz_iconst 125 X.1 (v := nI 1) dX7_init_125 rfl ?_
        refine zz_istore_n 126 X.1 (lv' := [(1, .int (nI 1)), (0, .ref h0)]) dX7_init_126 (by decide) rfl ?_
        refine zz_iconst 127 X.1 (v := nI 2) dX7_init_127 rfl ?_
        refine zz_istore_n 128 X.1 (lv' := [(2, .int (nI 2)), (1, .int (nI 1)), (0, .ref h0)]) dX7_init_128 (by decide) rfl ?_
        refine zz_iload_n 129 X.1 1 dX7_init_129 rfl ?_
        refine zz_bipush 130 X.1 (v := nI 22) dX7_init_130 rfl ?_
        refine zz_icmp_ge 132 157 X.1 (nI_toInt (by omega)) (nI_toInt (by omega)) dX7_init_132 (by decide) (fun h132 => ?_) (fun h132 => ?_)
        · exfalso; omega
        · skip
          refine zz_aload_n 135 X.1 2 dX7_init_135 rfl ?_
          refine zl_get 136 X (by decide +kernel) rfl 0 rfl 1 (by decide) (by decide +kernel) rfl (v := .ref qa1) rfl dX7_init_136 ?_
          refine zz_sipush 139 X.1 (v := nI 2048) dX7_init_139 rfl ?_
          refine zz_iload_n 142 X.1 1 dX7_init_142 rfl ?_
          refine zz_iadd 143 X.1 (v := (nI 2049)) dX7_init_143 (nI_add _ _) ?_
          refine zz_iconst 144 X.1 (v := nI 1) dX7_init_144 rfl ?_
          refine zz_topi (bI true) rfl ?_
          refine zl_zast 145 X 1 (h := hs1) rfl (show 2049 < 8192 by omega) (by decide) dX7_init_145 ?_
          refine zz_world (P' := (LPw (zz_A (fun q => q = h0) s.heap.size) D [(h0, .inr (7, [.int 0, .ref qa1, .int 0, .ref qa2, .int 0, .int 0, .int 0, .int 0, .int 0, .ref qa3, .ref qa4, .ref qa5, .ref qa6, .ref qa7, .int 0, .int 0, .int (-1), .int (-1), .ref qa8, .ref qa9, .int 0])), (qa1, .inl (C 3, 8192, .inl (fun j => bI ((va_up hs1 2049 true) j)))), (qa2, .inl (C 1, 400, .inl (fun _ => 0))), (qa3, .inl (C 1, 100, .inl (fun _ => 0))), (qa4, .inl (C 1, 100, .inl (fun _ => 0))), (qa5, .inl (C 1, 100, .inl (fun _ => 0))), (qa6, .inl (C 1, 100, .inl (fun _ => 0))), (qa7, .inl (C 1, 200, .inl (fun _ => 0))), (qa8, .inl (C 3, 1024, .inl (fun j => bI ((fun _ => false) j)))), (qa9, .inl (C 1, 5100, .inl (fun _ => 0)))])) (fun _ h => h) ?_
          refine zz_iload_n 146 X.1 1 dX7_init_146 rfl ?_
          refine zz_iload_n 147 X.1 0 dX7_init_147 rfl ?_
          refine zz_iadd 148 X.1 (v := (nI 3)) dX7_init_148 (nI_add _ _) ?_
          refine zz_istore_n 149 X.1 (lv' := [(3, .int (nI 3)), (2, .int (nI 2)), (1, .int (nI 1)), (0, .ref h0)]) dX7_init_149 (by decide) rfl ?_
          refine zz_iload_n 150 X.1 1 dX7_init_150 rfl ?_
          refine zz_istore_n 151 X.1 (lv' := [(1, .int (nI 2)), (3, .int (nI 3)), (2, .int (nI 2)), (0, .ref h0)]) dX7_init_151 (by decide) rfl ?_
          refine zz_iload_n 152 X.1 1 dX7_init_152 rfl ?_
          refine zz_istore_n 153 X.1 (lv' := [(2, .int (nI 3)), (1, .int (nI 2)), (3, .int (nI 3)), (0, .ref h0)]) dX7_init_153 (by decide) rfl ?_
          refine zz_goto 154 129 X.1 dX7_init_154 (by decide) ?_
          refine zz_iload_n 129 X.1 1 dX7_init_129 rfl ?_
          refine zz_bipush 130 X.1 (v := nI 22) dX7_init_130 rfl ?_
          refine zz_icmp_ge 132 157 X.1 (nI_toInt (by omega)) (nI_toInt (by omega)) dX7_init_132 (by decide) (fun h132 => ?_) (fun h132 => ?_)
          · exfalso; omega
          · skip
            refine zz_aload_n 135 X.1 3 dX7_init_135 rfl ?_
            refine zl_get 136 X (by decide +kernel) rfl 0 rfl 1 (by decide) (by decide +kernel) rfl (v := .ref qa1) rfl dX7_init_136 ?_
            refine zz_sipush 139 X.1 (v := nI 2048) dX7_init_139 rfl ?_
            refine zz_iload_n 142 X.1 1 dX7_init_142 rfl ?_
            refine zz_iadd 143 X.1 (v := (nI 2050)) dX7_init_143 (nI_add _ _) ?_
            refine zz_iconst 144 X.1 (v := nI 1) dX7_init_144 rfl ?_
            refine zz_topi (bI true) rfl ?_
            refine zl_zast 145 X 1 (h := va_up hs1 2049 true) rfl (show 2050 < 8192 by omega) (by decide) dX7_init_145 ?_
            refine zz_world (P' := (LPw (zz_A (fun q => q = h0) s.heap.size) D [(h0, .inr (7, [.int 0, .ref qa1, .int 0, .ref qa2, .int 0, .int 0, .int 0, .int 0, .int 0, .ref qa3, .ref qa4, .ref qa5, .ref qa6, .ref qa7, .int 0, .int 0, .int (-1), .int (-1), .ref qa8, .ref qa9, .int 0])), (qa1, .inl (C 3, 8192, .inl (fun j => bI ((va_up (va_up hs1 2049 true) 2050 true) j)))), (qa2, .inl (C 1, 400, .inl (fun _ => 0))), (qa3, .inl (C 1, 100, .inl (fun _ => 0))), (qa4, .inl (C 1, 100, .inl (fun _ => 0))), (qa5, .inl (C 1, 100, .inl (fun _ => 0))), (qa6, .inl (C 1, 100, .inl (fun _ => 0))), (qa7, .inl (C 1, 200, .inl (fun _ => 0))), (qa8, .inl (C 3, 1024, .inl (fun j => bI ((fun _ => false) j)))), (qa9, .inl (C 1, 5100, .inl (fun _ => 0)))])) (fun _ h => h) ?_
            refine zz_iload_n 146 X.1 1 dX7_init_146 rfl ?_
            refine zz_iload_n 147 X.1 0 dX7_init_147 rfl ?_
            refine zz_iadd 148 X.1 (v := (nI 5)) dX7_init_148 (nI_add _ _) ?_
            refine zz_istore_n 149 X.1 (lv' := [(3, .int (nI 5)), (2, .int (nI 3)), (1, .int (nI 2)), (0, .ref h0)]) dX7_init_149 (by decide) rfl ?_
            refine zz_iload_n 150 X.1 1 dX7_init_150 rfl ?_
            refine zz_istore_n 151 X.1 (lv' := [(1, .int (nI 3)), (3, .int (nI 5)), (2, .int (nI 3)), (0, .ref h0)]) dX7_init_151 (by decide) rfl ?_
            refine zz_iload_n 152 X.1 1 dX7_init_152 rfl ?_
            refine zz_istore_n 153 X.1 (lv' := [(2, .int (nI 5)), (1, .int (nI 3)), (3, .int (nI 5)), (0, .ref h0)]) dX7_init_153 (by decide) rfl ?_
            refine zz_goto 154 129 X.1 dX7_init_154 (by decide) ?_
            refine zz_iload_n 129 X.1 1 dX7_init_129 rfl ?_
            refine zz_bipush 130 X.1 (v := nI 22) dX7_init_130 rfl ?_
            refine zz_icmp_ge 132 157 X.1 (nI_toInt (by omega)) (nI_toInt (by omega)) dX7_init_132 (by decide) (fun h132 => ?_) (fun h132 => ?_)
            · exfalso; omega
            · skip
              refine zz_aload_n 135 X.1 3 dX7_init_135 rfl ?_
              refine zl_get 136 X (by decide +kernel) rfl 0 rfl 1 (by decide) (by decide +kernel) rfl (v := .ref qa1) rfl dX7_init_136 ?_
              refine zz_sipush 139 X.1 (v := nI 2048) dX7_init_139 rfl ?_
              refine zz_iload_n 142 X.1 1 dX7_init_142 rfl ?_
              refine zz_iadd 143 X.1 (v := (nI 2051)) dX7_init_143 (nI_add _ _) ?_
              refine zz_iconst 144 X.1 (v := nI 1) dX7_init_144 rfl ?_
              refine zz_topi (bI true) rfl ?_
              refine zl_zast 145 X 1 (h := va_up (va_up hs1 2049 true) 2050 true) rfl (show 2051 < 8192 by omega) (by decide) dX7_init_145 ?_
              refine zz_world (P' := (LPw (zz_A (fun q => q = h0) s.heap.size) D [(h0, .inr (7, [.int 0, .ref qa1, .int 0, .ref qa2, .int 0, .int 0, .int 0, .int 0, .int 0, .ref qa3, .ref qa4, .ref qa5, .ref qa6, .ref qa7, .int 0, .int 0, .int (-1), .int (-1), .ref qa8, .ref qa9, .int 0])), (qa1, .inl (C 3, 8192, .inl (fun j => bI ((va_up (va_up (va_up hs1 2049 true) 2050 true) 2051 true) j)))), (qa2, .inl (C 1, 400, .inl (fun _ => 0))), (qa3, .inl (C 1, 100, .inl (fun _ => 0))), (qa4, .inl (C 1, 100, .inl (fun _ => 0))), (qa5, .inl (C 1, 100, .inl (fun _ => 0))), (qa6, .inl (C 1, 100, .inl (fun _ => 0))), (qa7, .inl (C 1, 200, .inl (fun _ => 0))), (qa8, .inl (C 3, 1024, .inl (fun j => bI ((fun _ => false) j)))), (qa9, .inl (C 1, 5100, .inl (fun _ => 0)))])) (fun _ h => h) ?_
              refine zz_iload_n 146 X.1 1 dX7_init_146 rfl ?_
              refine zz_iload_n 147 X.1 0 dX7_init_147 rfl ?_
              refine zz_iadd 148 X.1 (v := (nI 8)) dX7_init_148 (nI_add _ _) ?_
              refine zz_istore_n 149 X.1 (lv' := [(3, .int (nI 8)), (2, .int (nI 5)), (1, .int (nI 3)), (0, .ref h0)]) dX7_init_149 (by decide) rfl ?_
              refine zz_iload_n 150 X.1 1 dX7_init_150 rfl ?_
              refine zz_istore_n 151 X.1 (lv' := [(1, .int (nI 5)), (3, .int (nI 8)), (2, .int (nI 5)), (0, .ref h0)]) dX7_init_151 (by decide) rfl ?_
              refine zz_iload_n 152 X.1 1 dX7_init_152 rfl ?_
              refine zz_istore_n 153 X.1 (lv' := [(2, .int (nI 8)), (1, .int (nI 5)), (3, .int (nI 8)), (0, .ref h0)]) dX7_init_153 (by decide) rfl ?_
              refine zz_goto 154 129 X.1 dX7_init_154 (by decide) ?_
              refine zz_iload_n 129 X.1 1 dX7_init_129 rfl ?_
              refine zz_bipush 130 X.1 (v := nI 22) dX7_init_130 rfl ?_
              refine zz_icmp_ge 132 157 X.1 (nI_toInt (by omega)) (nI_toInt (by omega)) dX7_init_132 (by decide) (fun h132 => ?_) (fun h132 => ?_)
              · exfalso; omega
              · skip
                refine zz_aload_n 135 X.1 3 dX7_init_135 rfl ?_
                refine zl_get 136 X (by decide +kernel) rfl 0 rfl 1 (by decide) (by decide +kernel) rfl (v := .ref qa1) rfl dX7_init_136 ?_
                refine zz_sipush 139 X.1 (v := nI 2048) dX7_init_139 rfl ?_
                refine zz_iload_n 142 X.1 1 dX7_init_142 rfl ?_
                refine zz_iadd 143 X.1 (v := (nI 2053)) dX7_init_143 (nI_add _ _) ?_
                refine zz_iconst 144 X.1 (v := nI 1) dX7_init_144 rfl ?_
                refine zz_topi (bI true) rfl ?_
                refine zl_zast 145 X 1 (h := va_up (va_up (va_up hs1 2049 true) 2050 true) 2051 true) rfl (show 2053 < 8192 by omega) (by decide) dX7_init_145 ?_
                refine zz_world (P' := (LPw (zz_A (fun q => q = h0) s.heap.size) D [(h0, .inr (7, [.int 0, .ref qa1, .int 0, .ref qa2, .int 0, .int 0, .int 0, .int 0, .int 0, .ref qa3, .ref qa4, .ref qa5, .ref qa6, .ref qa7, .int 0, .int 0, .int (-1), .int (-1), .ref qa8, .ref qa9, .int 0])), (qa1, .inl (C 3, 8192, .inl (fun j => bI ((va_up (va_up (va_up (va_up hs1 2049 true) 2050 true) 2051 true) 2053 true) j)))), (qa2, .inl (C 1, 400, .inl (fun _ => 0))), (qa3, .inl (C 1, 100, .inl (fun _ => 0))), (qa4, .inl (C 1, 100, .inl (fun _ => 0))), (qa5, .inl (C 1, 100, .inl (fun _ => 0))), (qa6, .inl (C 1, 100, .inl (fun _ => 0))), (qa7, .inl (C 1, 200, .inl (fun _ => 0))), (qa8, .inl (C 3, 1024, .inl (fun j => bI ((fun _ => false) j)))), (qa9, .inl (C 1, 5100, .inl (fun _ => 0)))])) (fun _ h => h) ?_
                refine zz_iload_n 146 X.1 1 dX7_init_146 rfl ?_
                refine zz_iload_n 147 X.1 0 dX7_init_147 rfl ?_
                refine zz_iadd 148 X.1 (v := (nI 13)) dX7_init_148 (nI_add _ _) ?_
                refine zz_istore_n 149 X.1 (lv' := [(3, .int (nI 13)), (2, .int (nI 8)), (1, .int (nI 5)), (0, .ref h0)]) dX7_init_149 (by decide) rfl ?_
                refine zz_iload_n 150 X.1 1 dX7_init_150 rfl ?_
                refine zz_istore_n 151 X.1 (lv' := [(1, .int (nI 8)), (3, .int (nI 13)), (2, .int (nI 8)), (0, .ref h0)]) dX7_init_151 (by decide) rfl ?_
                refine zz_iload_n 152 X.1 1 dX7_init_152 rfl ?_
                refine zz_istore_n 153 X.1 (lv' := [(2, .int (nI 13)), (1, .int (nI 8)), (3, .int (nI 13)), (0, .ref h0)]) dX7_init_153 (by decide) rfl ?_
                refine zz_goto 154 129 X.1 dX7_init_154 (by decide) ?_
                refine zz_iload_n 129 X.1 1 dX7_init_129 rfl ?_
                refine zz_bipush 130 X.1 (v := nI 22) dX7_init_130 rfl ?_
                refine zz_icmp_ge 132 157 X.1 (nI_toInt (by omega)) (nI_toInt (by omega)) dX7_init_132 (by decide) (fun h132 => ?_) (fun h132 => ?_)
                · exfalso; omega
                · skip
                  refine zz_aload_n 135 X.1 3 dX7_init_135 rfl ?_
                  refine zl_get 136 X (by decide +kernel) rfl 0 rfl 1 (by decide) (by decide +kernel) rfl (v := .ref qa1) rfl dX7_init_136 ?_
                  refine zz_sipush 139 X.1 (v := nI 2048) dX7_init_139 rfl ?_
                  refine zz_iload_n 142 X.1 1 dX7_init_142 rfl ?_
                  refine zz_iadd 143 X.1 (v := (nI 2056)) dX7_init_143 (nI_add _ _) ?_
                  refine zz_iconst 144 X.1 (v := nI 1) dX7_init_144 rfl ?_
                  refine zz_topi (bI true) rfl ?_
                  refine zl_zast 145 X 1 (h := va_up (va_up (va_up (va_up hs1 2049 true) 2050 true) 2051 true) 2053 true) rfl (show 2056 < 8192 by omega) (by decide) dX7_init_145 ?_
                  refine zz_world (P' := (LPw (zz_A (fun q => q = h0) s.heap.size) D [(h0, .inr (7, [.int 0, .ref qa1, .int 0, .ref qa2, .int 0, .int 0, .int 0, .int 0, .int 0, .ref qa3, .ref qa4, .ref qa5, .ref qa6, .ref qa7, .int 0, .int 0, .int (-1), .int (-1), .ref qa8, .ref qa9, .int 0])), (qa1, .inl (C 3, 8192, .inl (fun j => bI ((va_up (va_up (va_up (va_up (va_up hs1 2049 true) 2050 true) 2051 true) 2053 true) 2056 true) j)))), (qa2, .inl (C 1, 400, .inl (fun _ => 0))), (qa3, .inl (C 1, 100, .inl (fun _ => 0))), (qa4, .inl (C 1, 100, .inl (fun _ => 0))), (qa5, .inl (C 1, 100, .inl (fun _ => 0))), (qa6, .inl (C 1, 100, .inl (fun _ => 0))), (qa7, .inl (C 1, 200, .inl (fun _ => 0))), (qa8, .inl (C 3, 1024, .inl (fun j => bI ((fun _ => false) j)))), (qa9, .inl (C 1, 5100, .inl (fun _ => 0)))])) (fun _ h => h) ?_
                  refine zz_iload_n 146 X.1 1 dX7_init_146 rfl ?_
                  refine zz_iload_n 147 X.1 0 dX7_init_147 rfl ?_
                  refine zz_iadd 148 X.1 (v := (nI 21)) dX7_init_148 (nI_add _ _) ?_
                  refine zz_istore_n 149 X.1 (lv' := [(3, .int (nI 21)), (2, .int (nI 13)), (1, .int (nI 8)), (0, .ref h0)]) dX7_init_149 (by decide) rfl ?_
                  refine zz_iload_n 150 X.1 1 dX7_init_150 rfl ?_
                  refine zz_istore_n 151 X.1 (lv' := [(1, .int (nI 13)), (3, .int (nI 21)), (2, .int (nI 13)), (0, .ref h0)]) dX7_init_151 (by decide) rfl ?_
                  refine zz_iload_n 152 X.1 1 dX7_init_152 rfl ?_
                  refine zz_istore_n 153 X.1 (lv' := [(2, .int (nI 21)), (1, .int (nI 13)), (3, .int (nI 21)), (0, .ref h0)]) dX7_init_153 (by decide) rfl ?_
                  refine zz_goto 154 129 X.1 dX7_init_154 (by decide) ?_
                  refine zz_iload_n 129 X.1 1 dX7_init_129 rfl ?_
                  refine zz_bipush 130 X.1 (v := nI 22) dX7_init_130 rfl ?_
                  refine zz_icmp_ge 132 157 X.1 (nI_toInt (by omega)) (nI_toInt (by omega)) dX7_init_132 (by decide) (fun h132 => ?_) (fun h132 => ?_)
                  · exfalso; omega
                  · skip
                    refine zz_aload_n 135 X.1 3 dX7_init_135 rfl ?_
                    refine zl_get 136 X (by decide +kernel) rfl 0 rfl 1 (by decide) (by decide +kernel) rfl (v := .ref qa1) rfl dX7_init_136 ?_
                    refine zz_sipush 139 X.1 (v := nI 2048) dX7_init_139 rfl ?_
                    refine zz_iload_n 142 X.1 1 dX7_init_142 rfl ?_
                    refine zz_iadd 143 X.1 (v := (nI 2061)) dX7_init_143 (nI_add _ _) ?_
                    refine zz_iconst 144 X.1 (v := nI 1) dX7_init_144 rfl ?_
                    refine zz_topi (bI true) rfl ?_
                    refine zl_zast 145 X 1 (h := va_up (va_up (va_up (va_up (va_up hs1 2049 true) 2050 true) 2051 true) 2053 true) 2056 true) rfl (show 2061 < 8192 by omega) (by decide) dX7_init_145 ?_
                    refine zz_world (P' := (LPw (zz_A (fun q => q = h0) s.heap.size) D [(h0, .inr (7, [.int 0, .ref qa1, .int 0, .ref qa2, .int 0, .int 0, .int 0, .int 0, .int 0, .ref qa3, .ref qa4, .ref qa5, .ref qa6, .ref qa7, .int 0, .int 0, .int (-1), .int (-1), .ref qa8, .ref qa9, .int 0])), (qa1, .inl (C 3, 8192, .inl (fun j => bI ((va_up (va_up (va_up (va_up (va_up (va_up hs1 2049 true) 2050 true) 2051 true) 2053 true) 2056 true) 2061 true) j)))), (qa2, .inl (C 1, 400, .inl (fun _ => 0))), (qa3, .inl (C 1, 100, .inl (fun _ => 0))), (qa4, .inl (C 1, 100, .inl (fun _ => 0))), (qa5, .inl (C 1, 100, .inl (fun _ => 0))), (qa6, .inl (C 1, 100, .inl (fun _ => 0))), (qa7, .inl (C 1, 200, .inl (fun _ => 0))), (qa8, .inl (C 3, 1024, .inl (fun j => bI ((fun _ => false) j)))), (qa9, .inl (C 1, 5100, .inl (fun _ => 0)))])) (fun _ h => h) ?_
                    refine zz_iload_n 146 X.1 1 dX7_init_146 rfl ?_
                    refine zz_iload_n 147 X.1 0 dX7_init_147 rfl ?_
                    refine zz_iadd 148 X.1 (v := (nI 34)) dX7_init_148 (nI_add _ _) ?_
                    refine zz_istore_n 149 X.1 (lv' := [(3, .int (nI 34)), (2, .int (nI 21)), (1, .int (nI 13)), (0, .ref h0)]) dX7_init_149 (by decide) rfl ?_
                    refine zz_iload_n 150 X.1 1 dX7_init_150 rfl ?_
                    refine zz_istore_n 151 X.1 (lv' := [(1, .int (nI 21)), (3, .int (nI 34)), (2, .int (nI 21)), (0, .ref h0)]) dX7_init_151 (by decide) rfl ?_
                    refine zz_iload_n 152 X.1 1 dX7_init_152 rfl ?_
                    refine zz_istore_n 153 X.1 (lv' := [(2, .int (nI 34)), (1, .int (nI 21)), (3, .int (nI 34)), (0, .ref h0)]) dX7_init_153 (by decide) rfl ?_
                    refine zz_goto 154 129 X.1 dX7_init_154 (by decide) ?_
                    refine zz_iload_n 129 X.1 1 dX7_init_129 rfl ?_
                    refine zz_bipush 130 X.1 (v := nI 22) dX7_init_130 rfl ?_
                    refine zz_icmp_ge 132 157 X.1 (nI_toInt (by omega)) (nI_toInt (by omega)) dX7_init_132 (by decide) (fun h132 => ?_) (fun h132 => ?_)
                    · exfalso; omega
                    · skip
                      refine zz_aload_n 135 X.1 3 dX7_init_135 rfl ?_
                      refine zl_get 136 X (by decide +kernel) rfl 0 rfl 1 (by decide) (by decide +kernel) rfl (v := .ref qa1) rfl dX7_init_136 ?_
                      refine zz_sipush 139 X.1 (v := nI 2048) dX7_init_139 rfl ?_
                      refine zz_iload_n 142 X.1 1 dX7_init_142 rfl ?_
                      refine zz_iadd 143 X.1 (v := (nI 2069)) dX7_init_143 (nI_add _ _) ?_
                      refine zz_iconst 144 X.1 (v := nI 1) dX7_init_144 rfl ?_
                      refine zz_topi (bI true) rfl ?_
                      refine zl_zast 145 X 1 (h := va_up (va_up (va_up (va_up (va_up (va_up hs1 2049 true) 2050 true) 2051 true) 2053 true) 2056 true) 2061 true) rfl (show 2069 < 8192 by omega) (by decide) dX7_init_145 ?_
                      refine zz_world (P' := (LPw (zz_A (fun q => q = h0) s.heap.size) D [(h0, .inr (7, [.int 0, .ref qa1, .int 0, .ref qa2, .int 0, .int 0, .int 0, .int 0, .int 0, .ref qa3, .ref qa4, .ref qa5, .ref qa6, .ref qa7, .int 0, .int 0, .int (-1), .int (-1), .ref qa8, .ref qa9, .int 0])), (qa1, .inl (C 3, 8192, .inl (fun j => bI ((va_up (va_up (va_up (va_up (va_up (va_up (va_up hs1 2049 true) 2050 true) 2051 true) 2053 true) 2056 true) 2061 true) 2069 true) j)))), (qa2, .inl (C 1, 400, .inl (fun _ => 0))), (qa3, .inl (C 1, 100, .inl (fun _ => 0))), (qa4, .inl (C 1, 100, .inl (fun _ => 0))), (qa5, .inl (C 1, 100, .inl (fun _ => 0))), (qa6, .inl (C 1, 100, .inl (fun _ => 0))), (qa7, .inl (C 1, 200, .inl (fun _ => 0))), (qa8, .inl (C 3, 1024, .inl (fun j => bI ((fun _ => false) j)))), (qa9, .inl (C 1, 5100, .inl (fun _ => 0)))])) (fun _ h => h) ?_
                      refine zz_iload_n 146 X.1 1 dX7_init_146 rfl ?_
                      refine zz_iload_n 147 X.1 0 dX7_init_147 rfl ?_
                      refine zz_iadd 148 X.1 (v := (nI 55)) dX7_init_148 (nI_add _ _) ?_
                      refine zz_istore_n 149 X.1 (lv' := [(3, .int (nI 55)), (2, .int (nI 34)), (1, .int (nI 21)), (0, .ref h0)]) dX7_init_149 (by decide) rfl ?_
                      refine zz_iload_n 150 X.1 1 dX7_init_150 rfl ?_
                      refine zz_istore_n 151 X.1 (lv' := [(1, .int (nI 34)), (3, .int (nI 55)), (2, .int (nI 34)), (0, .ref h0)]) dX7_init_151 (by decide) rfl ?_
                      refine zz_iload_n 152 X.1 1 dX7_init_152 rfl ?_
                      refine zz_istore_n 153 X.1 (lv' := [(2, .int (nI 55)), (1, .int (nI 34)), (3, .int (nI 55)), (0, .ref h0)]) dX7_init_153 (by decide) rfl ?_
                      refine zz_goto 154 129 X.1 dX7_init_154 (by decide) ?_
                      refine zz_iload_n 129 X.1 1 dX7_init_129 rfl ?_
                      refine zz_bipush 130 X.1 (v := nI 22) dX7_init_130 rfl ?_
                      refine zz_icmp_ge 132 157 X.1 (nI_toInt (by omega)) (nI_toInt (by omega)) dX7_init_132 (by decide) (fun h132 => ?_) (fun h132 => ?_)
                      · skip
                        refine zz_aload_n 157 X.1 3 dX7_init_157 rfl ?_
                        refine zl_get 158 X (by decide +kernel) rfl 0 rfl 1 (by decide) (by decide +kernel) rfl (v := .ref qa1) rfl dX7_init_158 ?_
                        refine zz_sipush 161 X.1 (v := nI 2111) dX7_init_161 rfl ?_
                        refine zz_iconst 164 X.1 (v := nI 1) dX7_init_164 rfl ?_
                        refine zz_topi (bI true) rfl ?_
                        refine zl_zast 165 X 1 (h := va_up (va_up (va_up (va_up (va_up (va_up (va_up hs1 2049 true) 2050 true) 2051 true) 2053 true) 2056 true) 2061 true) 2069 true) rfl (show 2111 < 8192 by omega) (by decide) dX7_init_165 ?_
                        refine zz_world (P' := (LPw (zz_A (fun q => q = h0) s.heap.size) D [(h0, .inr (7, [.int 0, .ref qa1, .int 0, .ref qa2, .int 0, .int 0, .int 0, .int 0, .int 0, .ref qa3, .ref qa4, .ref qa5, .ref qa6, .ref qa7, .int 0, .int 0, .int (-1), .int (-1), .ref qa8, .ref qa9, .int 0])), (qa1, .inl (C 3, 8192, .inl (fun j => bI ((va_up (va_up (va_up (va_up (va_up (va_up (va_up (va_up hs1 2049 true) 2050 true) 2051 true) 2053 true) 2056 true) 2061 true) 2069 true) 2111 true) j)))), (qa2, .inl (C 1, 400, .inl (fun _ => 0))), (qa3, .inl (C 1, 100, .inl (fun _ => 0))), (qa4, .inl (C 1, 100, .inl (fun _ => 0))), (qa5, .inl (C 1, 100, .inl (fun _ => 0))), (qa6, .inl (C 1, 100, .inl (fun _ => 0))), (qa7, .inl (C 1, 200, .inl (fun _ => 0))), (qa8, .inl (C 3, 1024, .inl (fun j => bI ((fun _ => false) j)))), (qa9, .inl (C 1, 5100, .inl (fun _ => 0)))])) (fun _ h => h) ?_
                        refine zz_aload_n 166 X.1 3 dX7_init_166 rfl ?_
                        refine zl_get 167 X (by decide +kernel) rfl 0 rfl 1 (by decide) (by decide +kernel) rfl (v := .ref qa1) rfl dX7_init_167 ?_
                        refine zz_sipush 170 X.1 (v := nI 2112) dX7_init_170 rfl ?_
                        refine zz_iconst 173 X.1 (v := nI 1) dX7_init_173 rfl ?_
                        refine zz_topi (bI true) rfl ?_
                        refine zl_zast 174 X 1 (h := va_up (va_up (va_up (va_up (va_up (va_up (va_up (va_up hs1 2049 true) 2050 true) 2051 true) 2053 true) 2056 true) 2061 true) 2069 true) 2111 true) rfl (show 2112 < 8192 by omega) (by decide) dX7_init_174 ?_
                        refine zz_world (P' := (LPw (zz_A (fun q => q = h0) s.heap.size) D [(h0, .inr (7, [.int 0, .ref qa1, .int 0, .ref qa2, .int 0, .int 0, .int 0, .int 0, .int 0, .ref qa3, .ref qa4, .ref qa5, .ref qa6, .ref qa7, .int 0, .int 0, .int (-1), .int (-1), .ref qa8, .ref qa9, .int 0])), (qa1, .inl (C 3, 8192, .inl (fun j => bI ((va_up (va_up (va_up (va_up (va_up (va_up (va_up (va_up (va_up hs1 2049 true) 2050 true) 2051 true) 2053 true) 2056 true) 2061 true) 2069 true) 2111 true) 2112 true) j)))), (qa2, .inl (C 1, 400, .inl (fun _ => 0))), (qa3, .inl (C 1, 100, .inl (fun _ => 0))), (qa4, .inl (C 1, 100, .inl (fun _ => 0))), (qa5, .inl (C 1, 100, .inl (fun _ => 0))), (qa6, .inl (C 1, 100, .inl (fun _ => 0))), (qa7, .inl (C 1, 200, .inl (fun _ => 0))), (qa8, .inl (C 3, 1024, .inl (fun j => bI ((fun _ => false) j)))), (qa9, .inl (C 1, 5100, .inl (fun _ => 0)))])) (fun _ h => h) ?_
                        refine zz_aload_n 175 X.1 3 dX7_init_175 rfl ?_
                        refine zl_get 176 X (by decide +kernel) rfl 0 rfl 1 (by decide) (by decide +kernel) rfl (v := .ref qa1) rfl dX7_init_176 ?_
                        refine zz_sipush 179 X.1 (v := nI 2175) dX7_init_179 rfl ?_
                        refine zz_iconst 182 X.1 (v := nI 1) dX7_init_182 rfl ?_
                        refine zz_topi (bI true) rfl ?_
                        refine zl_zast 183 X 1 (h := va_up (va_up (va_up (va_up (va_up (va_up (va_up (va_up (va_up hs1 2049 true) 2050 true) 2051 true) 2053 true) 2056 true) 2061 true) 2069 true) 2111 true) 2112 true) rfl (show 2175 < 8192 by omega) (by decide) dX7_init_183 ?_
                        refine zz_world (P' := (LPw (zz_A (fun q => q = h0) s.heap.size) D [(h0, .inr (7, [.int 0, .ref qa1, .int 0, .ref qa2, .int 0, .int 0, .int 0, .int 0, .int 0, .ref qa3, .ref qa4, .ref qa5, .ref qa6, .ref qa7, .int 0, .int 0, .int (-1), .int (-1), .ref qa8, .ref qa9, .int 0])), (qa1, .inl (C 3, 8192, .inl (fun j => bI ((va_up (va_up (va_up (va_up (va_up (va_up (va_up (va_up (va_up (va_up hs1 2049 true) 2050 true) 2051 true) 2053 true) 2056 true) 2061 true) 2069 true) 2111 true) 2112 true) 2175 true) j)))), (qa2, .inl (C 1, 400, .inl (fun _ => 0))), (qa3, .inl (C 1, 100, .inl (fun _ => 0))), (qa4, .inl (C 1, 100, .inl (fun _ => 0))), (qa5, .inl (C 1, 100, .inl (fun _ => 0))), (qa6, .inl (C 1, 100, .inl (fun _ => 0))), (qa7, .inl (C 1, 200, .inl (fun _ => 0))), (qa8, .inl (C 3, 1024, .inl (fun j => bI ((fun _ => false) j)))), (qa9, .inl (C 1, 5100, .inl (fun _ => 0)))])) (fun _ h => h) ?_
                        refine zz_aload_n 184 X.1 3 dX7_init_184 rfl ?_
                        refine zl_get 185 X (by decide +kernel) rfl 0 rfl 1 (by decide) (by decide +kernel) rfl (v := .ref qa1) rfl dX7_init_185 ?_
                        refine zz_sipush 188 X.1 (v := nI 2176) dX7_init_188 rfl ?_
                        refine zz_iconst 191 X.1 (v := nI 1) dX7_init_191 rfl ?_
                        refine zz_topi (bI true) rfl ?_
                        refine zl_zast 192 X 1 (h := va_up (va_up (va_up (va_up (va_up (va_up (va_up (va_up (va_up (va_up hs1 2049 true) 2050 true) 2051 true) 2053 true) 2056 true) 2061 true) 2069 true) 2111 true) 2112 true) 2175 true) rfl (show 2176 < 8192 by omega) (by decide) dX7_init_192 ?_
                        refine zz_world (P' := (LPw (zz_A (fun q => q = h0) s.heap.size) D [(h0, .inr (7, [.int 0, .ref qa1, .int 0, .ref qa2, .int 0, .int 0, .int 0, .int 0, .int 0, .ref qa3, .ref qa4, .ref qa5, .ref qa6, .ref qa7, .int 0, .int 0, .int (-1), .int (-1), .ref qa8, .ref qa9, .int 0])), (qa1, .inl (C 3, 8192, .inl (fun j => bI ((va_up (va_up (va_up (va_up (va_up (va_up (va_up (va_up (va_up (va_up (va_up hs1 2049 true) 2050 true) 2051 true) 2053 true) 2056 true) 2061 true) 2069 true) 2111 true) 2112 true) 2175 true) 2176 true) j)))), (qa2, .inl (C 1, 400, .inl (fun _ => 0))), (qa3, .inl (C 1, 100, .inl (fun _ => 0))), (qa4, .inl (C 1, 100, .inl (fun _ => 0))), (qa5, .inl (C 1, 100, .inl (fun _ => 0))), (qa6, .inl (C 1, 100, .inl (fun _ => 0))), (qa7, .inl (C 1, 200, .inl (fun _ => 0))), (qa8, .inl (C 3, 1024, .inl (fun j => bI ((fun _ => false) j)))), (qa9, .inl (C 1, 5100, .inl (fun _ => 0)))])) (fun _ h => h) ?_
                        rw [← hQ]
                        refine zz_vret 193 X.1 hr hlk (fun j => if j = 0 then h0 else if j = 1 then qa1 else if j = 3 then qa2 else if j = 9 then qa3 else if j = 10 then qa4 else if j = 11 then qa5 else if j = 12 then qa6 else if j = 13 then qa7 else if j = 18 then qa8 else qa9) ?_ (fun t ht _ => ?_) dX7_init_193
                        · exact rfl
                        · rw [hh, show kq = 10 by omega] at ht; exact ht
                      · exfalso; omega
      · skip
        refine zz_aload_n 99 X.1 0 dX7_init_99 rfl ?_
        refine zl_get 100 X (by decide +kernel) rfl 0 rfl 1 (by decide) (by decide +kernel) rfl (v := .ref qa1) rfl dX7_init_100 ?_
        refine zz_iload_n 103 X.1 1 dX7_init_103 rfl ?_
        refine zz_iconst 104 X.1 (v := nI 1) dX7_init_104 rfl ?_
        refine zz_topi (bI true) rfl ?_
        refine zl_zast 105 X 1 (h := hs1) rfl (show kq < 8192 by omega) (by decide) dX7_init_105 ?_
        refine zz_world (P' := (LPw (zz_A (fun q => q = h0) s.heap.size) D [(h0, .inr (7, [.int 0, .ref qa1, .int 0, .ref qa2, .int 0, .int 0, .int 0, .int 0, .int 0, .ref qa3, .ref qa4, .ref qa5, .ref qa6, .ref qa7, .int 0, .int 0, .int (-1), .int (-1), .ref qa8, .ref qa9, .int 0])), (qa1, .inl (C 3, 8192, .inl (fun j => bI ((va_up hs1 kq true) j)))), (qa2, .inl (C 1, 400, .inl (fun _ => 0))), (qa3, .inl (C 1, 100, .inl (fun _ => 0))), (qa4, .inl (C 1, 100, .inl (fun _ => 0))), (qa5, .inl (C 1, 100, .inl (fun _ => 0))), (qa6, .inl (C 1, 100, .inl (fun _ => 0))), (qa7, .inl (C 1, 200, .inl (fun _ => 0))), (qa8, .inl (C 3, 1024, .inl (fun j => bI ((fun _ => false) j)))), (qa9, .inl (C 1, 5100, .inl (fun _ => 0)))])) (fun _ h => h) ?_
        refine zz_aload_n 106 X.1 0 dX7_init_106 rfl ?_
        refine zl_get 107 X (by decide +kernel) rfl 0 rfl 1 (by decide) (by decide +kernel) rfl (v := .ref qa1) rfl dX7_init_107 ?_
        refine zz_sipush 110 X.1 (v := nI 1024) dX7_init_110 rfl ?_
        refine zz_iconst 113 X.1 (v := nI 2) dX7_init_113 rfl ?_
        refine zz_iload_n 114 X.1 1 dX7_init_114 rfl ?_
        refine zz_imul 115 X.1 (v := (nI (2 * kq))) dX7_init_115 (pk_mul _ _) ?_
        refine zz_iadd 116 X.1 (v := (nI (1024 + (2 * kq)))) dX7_init_116 (nI_add _ _) ?_
        refine zz_iconst 117 X.1 (v := nI 1) dX7_init_117 rfl ?_
        refine zz_topi (bI true) rfl ?_
        refine zl_zast 118 X 1 (h := va_up hs1 kq true) rfl (show 1024 + (2 * kq) < 8192 by omega) (by decide) dX7_init_118 ?_
        refine zz_world (P' := (LPw (zz_A (fun q => q = h0) s.heap.size) D [(h0, .inr (7, [.int 0, .ref qa1, .int 0, .ref qa2, .int 0, .int 0, .int 0, .int 0, .int 0, .ref qa3, .ref qa4, .ref qa5, .ref qa6, .ref qa7, .int 0, .int 0, .int (-1), .int (-1), .ref qa8, .ref qa9, .int 0])), (qa1, .inl (C 3, 8192, .inl (fun j => bI ((va_up (va_up hs1 kq true) (1024 + (2 * kq)) true) j)))), (qa2, .inl (C 1, 400, .inl (fun _ => 0))), (qa3, .inl (C 1, 100, .inl (fun _ => 0))), (qa4, .inl (C 1, 100, .inl (fun _ => 0))), (qa5, .inl (C 1, 100, .inl (fun _ => 0))), (qa6, .inl (C 1, 100, .inl (fun _ => 0))), (qa7, .inl (C 1, 200, .inl (fun _ => 0))), (qa8, .inl (C 3, 1024, .inl (fun j => bI ((fun _ => false) j)))), (qa9, .inl (C 1, 5100, .inl (fun _ => 0)))])) (fun _ h => h) ?_
        refine zz_iinc 119 X.1 1 (v := (nI (kq + 1))) (lv' := [(1, .int (nI (kq + 1))), (0, .ref h0)]) dX7_init_119 rfl (nI_add kq 1) (by decide) rfl ?_
        refine zz_goto 122 93 X.1 dX7_init_122 (by decide) ?_
        refine zz_lvs [1, 0] rfl ?_
        exact ih93 (kq + 1) (va_up (va_up hs1 kq true) (1024 + (2 * kq)) true) (by omega) (by rw [hh]; rfl) (by omega)
  refine zz_lvs [1, 0] rfl ?_
  exact C93 (10 - 0 + 1) 0 (fun _ => false) (by omega) (rfl) (Nat.lt_succ_self _)
