/-! The class's small constructors. -/
abbrev rm_X0_init : Room := { frames := 1, cells := 1, slots := 16, locals := 12 }
/-- what X0_init leaves -/
def wI_X0 (C : Nat → ClassId) (h0 : Nat) (u : Nat) : va_W := [(h0, .inr (0, [.ref u])), (u, .inl (C 2, 16, .inr (.inl (fun _ => 0))))]
set_option maxHeartbeats 8000000 in
set_option maxRecDepth 100000 in
theorem kt_X0_init (l : Launch) (D : va_G) (C : Nat → ClassId) (h0 : Nat) : ∀ sz : Nat, Met l yX0_init wsX0_init rm_X0_init (va_Pc [.ref h0] (zz_E (fun _ U => va_P D vwCl [(h0, .inr (0, [.null]))] U.heap ∧ va_K D vwCl (TY C) U) sz)) (va_Qv (fun _ : Nat => True) (fun u t => LPw (zz_A (fun q => q = h0) sz) D (wI_X0 C h0 u) t.heap) (zz_A (fun q => q = h0) sz)) 1 16 (zz_A (fun q => q = h0) sz) := by
  intro sz
  refine Met.ofW (cc := cX0_init) (maxL := 1) (ret := none) (by decide) rfl ?_
  intro p e s m args below meth c s₁ B hml hv
  obtain ⟨rfl, rfl, hP0, hK⟩ := hv
  have hin2 : meth.name = "<init>" := (name_of_methodNamed B.named B.method).1
  have hr := B.returns
  have hlk := B.notSynchronized
  have X : CCx p s m (#[Value.ref h0]) c cX0_init wsX0_init RX0 D C := ⟨⟨B.exec, B.bytes⟩, atoms_spec (ws := wsX0_init) B.pre, findClass_of_methodNamed B.named, hK⟩
  have hA : ∀ q : Nat, s.heap.size ≤ q → (zz_A (fun q => q = h0) s.heap.size) q := fun q h => Or.inr h
  refine zz_enter (A := (zz_A (fun q => q = h0) s.heap.size)) (P := LPw (zz_A (fun q => q = h0) s.heap.size) D [(h0, .inr (0, [.null]))]) [.ref h0] 1 (Nat.le_of_ble_eq_true rfl) (lv := [(0, .ref h0)]) rfl ⟨hP0, D_one (Or.inl rfl)⟩ ?_
  obtain ⟨args, hargs⟩ : ∃ args, args = (#[Value.ref h0] : Array Value) := ⟨_, rfl⟩
  rw [← hargs] at X
  show ZZ p l e rm_X0_init s m (#[Value.ref h0]) below meth c 0 0 (MQ below _ (#[Value.ref h0]) s 1 16 _) _ _ _ _ _ _
  rw [← hargs]
  generalize hQ : MQ below _ _ s 1 16 _ = Q
  refine zz_aload_n 0 X.1 0 dX0_init_0 rfl ?_
  refine zl_init 1 X hml (by decide +kernel) (by decide +kernel) (by decide +kernel) dX0_init_1 ⟨Nat.le_of_ble_eq_true rfl, Nat.le_of_ble_eq_true rfl⟩ ?_
  refine zz_aload_n 4 X.1 0 dX0_init_4 rfl ?_
  refine zz_bipush 5 X.1 (v := nI 16) dX0_init_5 rfl ?_
  refine zl_newa 7 X hA 2 rfl rfl (by decide +kernel) (N' := 16) (a0 := (16, .inr (.inl (fun _ => 0)))) (fun _ => rfl) (by decide) (by decide) ⟨Nat.le_of_ble_eq_true rfl, Nat.le_of_ble_eq_true rfl⟩ dX0_init_7 ?_
  intro qa1
  refine zz_world (P' := (LPw (zz_A (fun q => q = h0) s.heap.size) D [(h0, .inr (0, [.null])), (qa1, .inl (C 2, 16, .inr (.inl (fun _ => 0))))])) (fun _ h => h) ?_
  refine zl_putF 9 X hin2 (by decide +kernel) tyX0 tyX0_ok nmX0 rfl 0 rfl 0 (by decide) (by decide +kernel) rfl rfl (v := .ref qa1) rfl rfl rfl (Nat.le_of_ble_eq_true rfl) dX0_init_9 ?_
  refine zz_world (P' := (LPw (zz_A (fun q => q = h0) s.heap.size) D [(h0, .inr (0, [.ref qa1])), (qa1, .inl (C 2, 16, .inr (.inl (fun _ => 0))))])) (fun _ h => h) ?_
  rw [← hQ]
  refine zz_vret 12 X.1 hr hlk (qa1) trivial (fun t ht _ => ht) dX0_init_12
abbrev rm_X2_init : Room := { frames := 1, cells := 0, slots := 0, locals := 12 }
/-- what X2_init leaves -/
def wI_X2 (C : Nat → ClassId) (h0 : Nat) (u : Unit) : va_W := [(h0, .inr (2, [.int 0, .int 0, .int 0, .int 0]))]
set_option maxHeartbeats 8000000 in
set_option maxRecDepth 100000 in
theorem kt_X2_init (l : Launch) (D : va_G) (C : Nat → ClassId) (h0 : Nat) : ∀ sz : Nat, Met l yX2_init wsX2_init rm_X2_init (va_Pc [.ref h0] (zz_E (fun _ U => va_P D vwCl [(h0, .inr (2, [.int 0, .int 0, .int 0, .int 0]))] U.heap ∧ va_K D vwCl (TY C) U) sz)) (va_Qv (fun _ : Unit => True) (fun u t => LPw (zz_A (fun q => q = h0) sz) D (wI_X2 C h0 u) t.heap) (zz_A (fun q => q = h0) sz)) 0 0 (zz_A (fun q => q = h0) sz) := by
  intro sz
  refine Met.ofW (cc := cX2_init) (maxL := 1) (ret := none) (by decide) rfl ?_
  intro p e s m args below meth c s₁ B hml hv
  obtain ⟨rfl, rfl, hP0, hK⟩ := hv
  have hin2 : meth.name = "<init>" := (name_of_methodNamed B.named B.method).1
  have hr := B.returns
  have hlk := B.notSynchronized
  have X : CCx p s m (#[Value.ref h0]) c cX2_init wsX2_init RX2 D C := ⟨⟨B.exec, B.bytes⟩, atoms_spec (ws := wsX2_init) B.pre, findClass_of_methodNamed B.named, hK⟩
  have hA : ∀ q : Nat, s.heap.size ≤ q → (zz_A (fun q => q = h0) s.heap.size) q := fun q h => Or.inr h
  refine zz_enter (A := (zz_A (fun q => q = h0) s.heap.size)) (P := LPw (zz_A (fun q => q = h0) s.heap.size) D [(h0, .inr (2, [.int 0, .int 0, .int 0, .int 0]))]) [.ref h0] 1 (Nat.le_of_ble_eq_true rfl) (lv := [(0, .ref h0)]) rfl ⟨hP0, D_one (Or.inl rfl)⟩ ?_
  obtain ⟨args, hargs⟩ : ∃ args, args = (#[Value.ref h0] : Array Value) := ⟨_, rfl⟩
  rw [← hargs] at X
  show ZZ p l e rm_X2_init s m (#[Value.ref h0]) below meth c 0 0 (MQ below _ (#[Value.ref h0]) s 0 0 _) _ _ _ _ _ _
  rw [← hargs]
  generalize hQ : MQ below _ _ s 0 0 _ = Q
  refine zz_aload_n 0 X.1 0 dX2_init_0 rfl ?_
  refine zl_init 1 X hml (by decide +kernel) (by decide +kernel) (by decide +kernel) dX2_init_1 ⟨Nat.le_of_ble_eq_true rfl, Nat.le_of_ble_eq_true rfl⟩ ?_
  rw [← hQ]
  refine zz_vret 4 X.1 hr hlk (()) trivial (fun t ht _ => ht) dX2_init_4
abbrev rm_X3_init : Room := { frames := 1, cells := 1, slots := 400, locals := 12 }
/-- what X3_init leaves -/
def wI_X3 (C : Nat → ClassId) (h0 : Nat) (u : Nat) : va_W := [(h0, .inr (3, [.ref u, .int (nI 0)])), (u, .inl (C 0, 400, .inl (fun _ => 0)))]
set_option maxHeartbeats 8000000 in
set_option maxRecDepth 100000 in
theorem kt_X3_init (l : Launch) (D : va_G) (C : Nat → ClassId) (h0 : Nat) : ∀ sz : Nat, Met l yX3_init wsX3_init rm_X3_init (va_Pc [.ref h0] (zz_E (fun _ U => va_P D vwCl [(h0, .inr (3, [.null, .int 0]))] U.heap ∧ va_K D vwCl (TY C) U) sz)) (va_Qv (fun _ : Nat => True) (fun u t => LPw (zz_A (fun q => q = h0) sz) D (wI_X3 C h0 u) t.heap) (zz_A (fun q => q = h0) sz)) 1 400 (zz_A (fun q => q = h0) sz) := by
  intro sz
  refine Met.ofW (cc := cX3_init) (maxL := 1) (ret := none) (by decide) rfl ?_
  intro p e s m args below meth c s₁ B hml hv
  obtain ⟨rfl, rfl, hP0, hK⟩ := hv
  have hin2 : meth.name = "<init>" := (name_of_methodNamed B.named B.method).1
  have hr := B.returns
  have hlk := B.notSynchronized
  have X : CCx p s m (#[Value.ref h0]) c cX3_init wsX3_init RX3 D C := ⟨⟨B.exec, B.bytes⟩, atoms_spec (ws := wsX3_init) B.pre, findClass_of_methodNamed B.named, hK⟩
  have hA : ∀ q : Nat, s.heap.size ≤ q → (zz_A (fun q => q = h0) s.heap.size) q := fun q h => Or.inr h
  refine zz_enter (A := (zz_A (fun q => q = h0) s.heap.size)) (P := LPw (zz_A (fun q => q = h0) s.heap.size) D [(h0, .inr (3, [.null, .int 0]))]) [.ref h0] 1 (Nat.le_of_ble_eq_true rfl) (lv := [(0, .ref h0)]) rfl ⟨hP0, D_one (Or.inl rfl)⟩ ?_
  obtain ⟨args, hargs⟩ : ∃ args, args = (#[Value.ref h0] : Array Value) := ⟨_, rfl⟩
  rw [← hargs] at X
  show ZZ p l e rm_X3_init s m (#[Value.ref h0]) below meth c 0 0 (MQ below _ (#[Value.ref h0]) s 1 400 _) _ _ _ _ _ _
  rw [← hargs]
  generalize hQ : MQ below _ _ s 1 400 _ = Q
  refine zz_aload_n 0 X.1 0 dX3_init_0 rfl ?_
  refine zl_init 1 X hml (by decide +kernel) (by decide +kernel) (by decide +kernel) dX3_init_1 ⟨Nat.le_of_ble_eq_true rfl, Nat.le_of_ble_eq_true rfl⟩ ?_
  refine zz_aload_n 4 X.1 0 dX3_init_4 rfl ?_
  refine zz_sipush 5 X.1 (v := nI 400) dX3_init_5 rfl ?_
  refine zl_newa 8 X hA 0 rfl rfl (by decide +kernel) (N' := 400) (a0 := (400, .inl (fun _ => 0))) (fun _ => rfl) (by decide) (by decide) ⟨Nat.le_of_ble_eq_true rfl, Nat.le_of_ble_eq_true rfl⟩ dX3_init_8 ?_
  intro qa1
  refine zz_world (P' := (LPw (zz_A (fun q => q = h0) s.heap.size) D [(h0, .inr (3, [.null, .int 0])), (qa1, .inl (C 0, 400, .inl (fun _ => 0)))])) (fun _ h => h) ?_
  refine zl_putF 10 X hin2 (by decide +kernel) tyX3 tyX3_ok nmX3 rfl 0 rfl 0 (by decide) (by decide +kernel) rfl rfl (v := .ref qa1) rfl rfl rfl (Nat.le_of_ble_eq_true rfl) dX3_init_10 ?_
  refine zz_world (P' := (LPw (zz_A (fun q => q = h0) s.heap.size) D [(h0, .inr (3, [.ref qa1, .int 0])), (qa1, .inl (C 0, 400, .inl (fun _ => 0)))])) (fun _ h => h) ?_
  refine zz_aload_n 13 X.1 0 dX3_init_13 rfl ?_
  refine zz_iconst 14 X.1 (v := nI 0) dX3_init_14 rfl ?_
  refine zl_put 15 X (by decide +kernel) tyX3 tyX3_ok nmX3 rfl 0 rfl 1 (by decide) (by decide +kernel) rfl rfl (v := .int (nI 0)) rfl rfl rfl (Nat.le_of_ble_eq_true rfl) dX3_init_15 ?_
  refine zz_world (P' := (LPw (zz_A (fun q => q = h0) s.heap.size) D [(h0, .inr (3, [.ref qa1, .int (nI 0)])), (qa1, .inl (C 0, 400, .inl (fun _ => 0)))])) (fun _ h => h) ?_
  rw [← hQ]
  refine zz_vret 18 X.1 hr hlk (qa1) trivial (fun t ht _ => ht) dX3_init_18
abbrev rm_X4_init : Room := { frames := 1, cells := 1, slots := 5034, locals := 12 }
/-- what X4_init leaves -/
def wI_X4 (C : Nat → ClassId) (h0 : Nat) (u : Nat) : va_W := [(h0, .inr (4, [.ref u, .int (nI 0)])), (u, .inl (C 0, 5034, .inl (fun _ => 0)))]
set_option maxHeartbeats 8000000 in
set_option maxRecDepth 100000 in
theorem kt_X4_init (l : Launch) (D : va_G) (C : Nat → ClassId) (h0 : Nat) : ∀ sz : Nat, Met l yX4_init wsX4_init rm_X4_init (va_Pc [.ref h0] (zz_E (fun _ U => va_P D vwCl [(h0, .inr (4, [.null, .int 0]))] U.heap ∧ va_K D vwCl (TY C) U) sz)) (va_Qv (fun _ : Nat => True) (fun u t => LPw (zz_A (fun q => q = h0) sz) D (wI_X4 C h0 u) t.heap) (zz_A (fun q => q = h0) sz)) 1 5034 (zz_A (fun q => q = h0) sz) := by
  intro sz
  refine Met.ofW (cc := cX4_init) (maxL := 1) (ret := none) (by decide) rfl ?_
  intro p e s m args below meth c s₁ B hml hv
  obtain ⟨rfl, rfl, hP0, hK⟩ := hv
  have hin2 : meth.name = "<init>" := (name_of_methodNamed B.named B.method).1
  have hr := B.returns
  have hlk := B.notSynchronized
  have X : CCx p s m (#[Value.ref h0]) c cX4_init wsX4_init RX4 D C := ⟨⟨B.exec, B.bytes⟩, atoms_spec (ws := wsX4_init) B.pre, findClass_of_methodNamed B.named, hK⟩
  have hA : ∀ q : Nat, s.heap.size ≤ q → (zz_A (fun q => q = h0) s.heap.size) q := fun q h => Or.inr h
  refine zz_enter (A := (zz_A (fun q => q = h0) s.heap.size)) (P := LPw (zz_A (fun q => q = h0) s.heap.size) D [(h0, .inr (4, [.null, .int 0]))]) [.ref h0] 1 (Nat.le_of_ble_eq_true rfl) (lv := [(0, .ref h0)]) rfl ⟨hP0, D_one (Or.inl rfl)⟩ ?_
  obtain ⟨args, hargs⟩ : ∃ args, args = (#[Value.ref h0] : Array Value) := ⟨_, rfl⟩
  rw [← hargs] at X
  show ZZ p l e rm_X4_init s m (#[Value.ref h0]) below meth c 0 0 (MQ below _ (#[Value.ref h0]) s 1 5034 _) _ _ _ _ _ _
  rw [← hargs]
  generalize hQ : MQ below _ _ s 1 5034 _ = Q
  refine zz_aload_n 0 X.1 0 dX4_init_0 rfl ?_
  refine zl_init 1 X hml (by decide +kernel) (by decide +kernel) (by decide +kernel) dX4_init_1 ⟨Nat.le_of_ble_eq_true rfl, Nat.le_of_ble_eq_true rfl⟩ ?_
  refine zz_aload_n 4 X.1 0 dX4_init_4 rfl ?_
  refine zz_sipush 5 X.1 (v := nI 5034) dX4_init_5 rfl ?_
  refine zl_newa 8 X hA 0 rfl rfl (by decide +kernel) (N' := 5034) (a0 := (5034, .inl (fun _ => 0))) (fun _ => rfl) (by decide) (by decide) ⟨Nat.le_of_ble_eq_true rfl, Nat.le_of_ble_eq_true rfl⟩ dX4_init_8 ?_
  intro qa1
  refine zz_world (P' := (LPw (zz_A (fun q => q = h0) s.heap.size) D [(h0, .inr (4, [.null, .int 0])), (qa1, .inl (C 0, 5034, .inl (fun _ => 0)))])) (fun _ h => h) ?_
  refine zl_putF 10 X hin2 (by decide +kernel) tyX4 tyX4_ok nmX4 rfl 0 rfl 0 (by decide) (by decide +kernel) rfl rfl (v := .ref qa1) rfl rfl rfl (Nat.le_of_ble_eq_true rfl) dX4_init_10 ?_
  refine zz_world (P' := (LPw (zz_A (fun q => q = h0) s.heap.size) D [(h0, .inr (4, [.ref qa1, .int 0])), (qa1, .inl (C 0, 5034, .inl (fun _ => 0)))])) (fun _ h => h) ?_
  refine zz_aload_n 13 X.1 0 dX4_init_13 rfl ?_
  refine zz_iconst 14 X.1 (v := nI 0) dX4_init_14 rfl ?_
  refine zl_put 15 X (by decide +kernel) tyX4 tyX4_ok nmX4 rfl 0 rfl 1 (by decide) (by decide +kernel) rfl rfl (v := .int (nI 0)) rfl rfl rfl (Nat.le_of_ble_eq_true rfl) dX4_init_15 ?_
  refine zz_world (P' := (LPw (zz_A (fun q => q = h0) s.heap.size) D [(h0, .inr (4, [.ref qa1, .int (nI 0)])), (qa1, .inl (C 0, 5034, .inl (fun _ => 0)))])) (fun _ h => h) ?_
  rw [← hQ]
  refine zz_vret 18 X.1 hr hlk (qa1) trivial (fun t ht _ => ht) dX4_init_18
abbrev rm_X5_init : Room := { frames := 1, cells := 3, slots := 1200, locals := 12 }
/-- what X5_init leaves -/
def wI_X5 (C : Nat → ClassId) (h0 : Nat) (u : Nat × Nat × Nat) : va_W := [(h0, .inr (5, [.ref u.1, .ref u.2.1, .ref u.2.2, .int (nI 0), .int (nI 0), .int (nI 0)])), (u.1, .inl (C 1, 400, .inl (fun _ => 0))), (u.2.1, .inl (C 1, 400, .inl (fun _ => 0))), (u.2.2, .inl (C 1, 400, .inl (fun _ => 0)))]
set_option maxHeartbeats 8000000 in
set_option maxRecDepth 100000 in
theorem kt_X5_init (l : Launch) (D : va_G) (C : Nat → ClassId) (h0 : Nat) : ∀ sz : Nat, Met l yX5_init wsX5_init rm_X5_init (va_Pc [.ref h0] (zz_E (fun _ U => va_P D vwCl [(h0, .inr (5, [.null, .null, .null, .int 0, .int 0, .int 0]))] U.heap ∧ va_K D vwCl (TY C) U) sz)) (va_Qv (fun _ : Nat × Nat × Nat => True) (fun u t => LPw (zz_A (fun q => q = h0) sz) D (wI_X5 C h0 u) t.heap) (zz_A (fun q => q = h0) sz)) 3 1200 (zz_A (fun q => q = h0) sz) := by
  intro sz
  refine Met.ofW (cc := cX5_init) (maxL := 1) (ret := none) (by decide) rfl ?_
  intro p e s m args below meth c s₁ B hml hv
  obtain ⟨rfl, rfl, hP0, hK⟩ := hv
  have hin2 : meth.name = "<init>" := (name_of_methodNamed B.named B.method).1
  have hr := B.returns
  have hlk := B.notSynchronized
  have X : CCx p s m (#[Value.ref h0]) c cX5_init wsX5_init RX5 D C := ⟨⟨B.exec, B.bytes⟩, atoms_spec (ws := wsX5_init) B.pre, findClass_of_methodNamed B.named, hK⟩
  have hA : ∀ q : Nat, s.heap.size ≤ q → (zz_A (fun q => q = h0) s.heap.size) q := fun q h => Or.inr h
  refine zz_enter (A := (zz_A (fun q => q = h0) s.heap.size)) (P := LPw (zz_A (fun q => q = h0) s.heap.size) D [(h0, .inr (5, [.null, .null, .null, .int 0, .int 0, .int 0]))]) [.ref h0] 1 (Nat.le_of_ble_eq_true rfl) (lv := [(0, .ref h0)]) rfl ⟨hP0, D_one (Or.inl rfl)⟩ ?_
  obtain ⟨args, hargs⟩ : ∃ args, args = (#[Value.ref h0] : Array Value) := ⟨_, rfl⟩
  rw [← hargs] at X
  show ZZ p l e rm_X5_init s m (#[Value.ref h0]) below meth c 0 0 (MQ below _ (#[Value.ref h0]) s 3 1200 _) _ _ _ _ _ _
  rw [← hargs]
  generalize hQ : MQ below _ _ s 3 1200 _ = Q
  refine zz_aload_n 0 X.1 0 dX5_init_0 rfl ?_
  refine zl_init 1 X hml (by decide +kernel) (by decide +kernel) (by decide +kernel) dX5_init_1 ⟨Nat.le_of_ble_eq_true rfl, Nat.le_of_ble_eq_true rfl⟩ ?_
  refine zz_aload_n 4 X.1 0 dX5_init_4 rfl ?_
  refine zz_sipush 5 X.1 (v := nI 400) dX5_init_5 rfl ?_
  refine zl_newa 8 X hA 1 rfl rfl (by decide +kernel) (N' := 400) (a0 := (400, .inl (fun _ => 0))) (fun _ => rfl) (by decide) (by decide) ⟨Nat.le_of_ble_eq_true rfl, Nat.le_of_ble_eq_true rfl⟩ dX5_init_8 ?_
  intro qa1
  refine zz_world (P' := (LPw (zz_A (fun q => q = h0) s.heap.size) D [(h0, .inr (5, [.null, .null, .null, .int 0, .int 0, .int 0])), (qa1, .inl (C 1, 400, .inl (fun _ => 0)))])) (fun _ h => h) ?_
  refine zl_putF 10 X hin2 (by decide +kernel) tyX5 tyX5_ok nmX5 rfl 0 rfl 0 (by decide) (by decide +kernel) rfl rfl (v := .ref qa1) rfl rfl rfl (Nat.le_of_ble_eq_true rfl) dX5_init_10 ?_
  refine zz_world (P' := (LPw (zz_A (fun q => q = h0) s.heap.size) D [(h0, .inr (5, [.ref qa1, .null, .null, .int 0, .int 0, .int 0])), (qa1, .inl (C 1, 400, .inl (fun _ => 0)))])) (fun _ h => h) ?_
  refine zz_aload_n 13 X.1 0 dX5_init_13 rfl ?_
  refine zz_sipush 14 X.1 (v := nI 400) dX5_init_14 rfl ?_
  refine zl_newa 17 X hA 1 rfl rfl (by decide +kernel) (N' := 400) (a0 := (400, .inl (fun _ => 0))) (fun _ => rfl) (by decide) (by decide) ⟨Nat.le_of_ble_eq_true rfl, Nat.le_of_ble_eq_true rfl⟩ dX5_init_17 ?_
  intro qa2
  refine zz_world (P' := (LPw (zz_A (fun q => q = h0) s.heap.size) D [(h0, .inr (5, [.ref qa1, .null, .null, .int 0, .int 0, .int 0])), (qa1, .inl (C 1, 400, .inl (fun _ => 0))), (qa2, .inl (C 1, 400, .inl (fun _ => 0)))])) (fun _ h => h) ?_
  refine zl_putF 19 X hin2 (by decide +kernel) tyX5 tyX5_ok nmX5 rfl 0 rfl 1 (by decide) (by decide +kernel) rfl rfl (v := .ref qa2) rfl rfl rfl (Nat.le_of_ble_eq_true rfl) dX5_init_19 ?_
  refine zz_world (P' := (LPw (zz_A (fun q => q = h0) s.heap.size) D [(h0, .inr (5, [.ref qa1, .ref qa2, .null, .int 0, .int 0, .int 0])), (qa1, .inl (C 1, 400, .inl (fun _ => 0))), (qa2, .inl (C 1, 400, .inl (fun _ => 0)))])) (fun _ h => h) ?_
  refine zz_aload_n 22 X.1 0 dX5_init_22 rfl ?_
  refine zz_sipush 23 X.1 (v := nI 400) dX5_init_23 rfl ?_
  refine zl_newa 26 X hA 1 rfl rfl (by decide +kernel) (N' := 400) (a0 := (400, .inl (fun _ => 0))) (fun _ => rfl) (by decide) (by decide) ⟨Nat.le_of_ble_eq_true rfl, Nat.le_of_ble_eq_true rfl⟩ dX5_init_26 ?_
  intro qa3
  refine zz_world (P' := (LPw (zz_A (fun q => q = h0) s.heap.size) D [(h0, .inr (5, [.ref qa1, .ref qa2, .null, .int 0, .int 0, .int 0])), (qa1, .inl (C 1, 400, .inl (fun _ => 0))), (qa2, .inl (C 1, 400, .inl (fun _ => 0))), (qa3, .inl (C 1, 400, .inl (fun _ => 0)))])) (fun _ h => h) ?_
  refine zl_putF 28 X hin2 (by decide +kernel) tyX5 tyX5_ok nmX5 rfl 0 rfl 2 (by decide) (by decide +kernel) rfl rfl (v := .ref qa3) rfl rfl rfl (Nat.le_of_ble_eq_true rfl) dX5_init_28 ?_
  refine zz_world (P' := (LPw (zz_A (fun q => q = h0) s.heap.size) D [(h0, .inr (5, [.ref qa1, .ref qa2, .ref qa3, .int 0, .int 0, .int 0])), (qa1, .inl (C 1, 400, .inl (fun _ => 0))), (qa2, .inl (C 1, 400, .inl (fun _ => 0))), (qa3, .inl (C 1, 400, .inl (fun _ => 0)))])) (fun _ h => h) ?_
  refine zz_aload_n 31 X.1 0 dX5_init_31 rfl ?_
  refine zz_iconst 32 X.1 (v := nI 0) dX5_init_32 rfl ?_
  refine zl_put 33 X (by decide +kernel) tyX5 tyX5_ok nmX5 rfl 0 rfl 3 (by decide) (by decide +kernel) rfl rfl (v := .int (nI 0)) rfl rfl rfl (Nat.le_of_ble_eq_true rfl) dX5_init_33 ?_
  refine zz_world (P' := (LPw (zz_A (fun q => q = h0) s.heap.size) D [(h0, .inr (5, [.ref qa1, .ref qa2, .ref qa3, .int (nI 0), .int 0, .int 0])), (qa1, .inl (C 1, 400, .inl (fun _ => 0))), (qa2, .inl (C 1, 400, .inl (fun _ => 0))), (qa3, .inl (C 1, 400, .inl (fun _ => 0)))])) (fun _ h => h) ?_
  refine zz_aload_n 36 X.1 0 dX5_init_36 rfl ?_
  refine zz_iconst 37 X.1 (v := nI 0) dX5_init_37 rfl ?_
  refine zl_put 38 X (by decide +kernel) tyX5 tyX5_ok nmX5 rfl 0 rfl 4 (by decide) (by decide +kernel) rfl rfl (v := .int (nI 0)) rfl rfl rfl (Nat.le_of_ble_eq_true rfl) dX5_init_38 ?_
  refine zz_world (P' := (LPw (zz_A (fun q => q = h0) s.heap.size) D [(h0, .inr (5, [.ref qa1, .ref qa2, .ref qa3, .int (nI 0), .int (nI 0), .int 0])), (qa1, .inl (C 1, 400, .inl (fun _ => 0))), (qa2, .inl (C 1, 400, .inl (fun _ => 0))), (qa3, .inl (C 1, 400, .inl (fun _ => 0)))])) (fun _ h => h) ?_
  refine zz_aload_n 41 X.1 0 dX5_init_41 rfl ?_
  refine zz_iconst 42 X.1 (v := nI 0) dX5_init_42 rfl ?_
  refine zl_put 43 X (by decide +kernel) tyX5 tyX5_ok nmX5 rfl 0 rfl 5 (by decide) (by decide +kernel) rfl rfl (v := .int (nI 0)) rfl rfl rfl (Nat.le_of_ble_eq_true rfl) dX5_init_43 ?_
  refine zz_world (P' := (LPw (zz_A (fun q => q = h0) s.heap.size) D [(h0, .inr (5, [.ref qa1, .ref qa2, .ref qa3, .int (nI 0), .int (nI 0), .int (nI 0)])), (qa1, .inl (C 1, 400, .inl (fun _ => 0))), (qa2, .inl (C 1, 400, .inl (fun _ => 0))), (qa3, .inl (C 1, 400, .inl (fun _ => 0)))])) (fun _ h => h) ?_
  rw [← hQ]
  refine zz_vret 46 X.1 hr hlk ((qa1, qa2, qa3)) trivial (fun t ht _ => ht) dX5_init_46
