/-! The script made. -/
/-- what the script's constructor needs beside its words -/
def NX1 (U : State) : Prop := va_AO RX2 U ∧ va_Nw (.methodLinkNest RX1 13 yX5_init "NumberSetDesk") U ∧ va_Nw (.methodLinkNest RX1 35 yX2_init "NumberSetDesk") U
abbrev rm_X1_init : Room := { frames := 2, cells := 106, slots := 2106, locals := 32 }
/-- what X1_init leaves -/
def wI_X1 (C : Nat → ClassId) (h0 : Nat) (u : Nat × (Nat × Nat × Nat) × Nat × Nat × (Nat → Nat)) : va_W := [(h0, .inr (1, [.ref u.1, .ref u.2.2.1, .ref u.2.2.2.1, .int (nI 0), .int (nI 0)])), (u.1, .inr (5, [.ref u.2.1.1, .ref u.2.1.2.1, .ref u.2.1.2.2, .int (nI 0), .int (nI 0), .int (nI 0)])), (u.2.1.1, .inl (C 1, 400, .inl (fun _ => 0))), (u.2.1.2.1, .inl (C 1, 400, .inl (fun _ => 0))), (u.2.1.2.2, .inl (C 1, 400, .inl (fun _ => 0))), (u.2.2.1, .inl (C 5, 100, .inr (.inr (.inr (.inr (fil u.2.2.2.2 100)))))), (u.2.2.2.1, .inl (C 1, 400, .inl (fun _ => 0)))] ++ (List.range 100).map (fun j => (u.2.2.2.2 j, .inr (2, [.int 0, .int 0, .int 0, .int 0])))
set_option maxHeartbeats 8000000 in
set_option maxRecDepth 100000 in
theorem kt_X1_init (l : Launch) (D : va_G) (C : Nat → ClassId) (h0 : Nat) : ∀ sz : Nat, Met l yX1_init wsX1_init rm_X1_init (va_Pc [.ref h0] (zz_E (fun _ U => va_P D vwCl [(h0, .inr (1, [.null, .null, .null, .int 0, .int 0]))] U.heap ∧ va_K D vwCl (TY C) U ∧ NX1 U) sz)) (va_Qv (fun _ : Nat × (Nat × Nat × Nat) × Nat × Nat × (Nat → Nat) => True) (fun u t => LPw (zz_A (fun q => q = h0) sz) D (wI_X1 C h0 u) t.heap) (zz_A (fun q => q = h0) sz)) 106 2106 (zz_A (fun q => q = h0) sz) := by
  intro sz
  refine Met.ofW (cc := cX1_init) (maxL := 2) (ret := none) (by decide) rfl ?_
  intro p e s m args below meth c s₁ B hml hv
  obtain ⟨rfl, rfl, hP0, hK, hN⟩ := hv
  have hin2 : meth.name = "<init>" := (name_of_methodNamed B.named B.method).1
  have hr := B.returns
  have hlk := B.notSynchronized
  have X : CCx p s m (#[Value.ref h0]) c cX1_init wsX1_init RX1 D C := ⟨⟨B.exec, B.bytes⟩, atoms_spec (ws := wsX1_init) B.pre, findClass_of_methodNamed B.named, hK⟩
  have hA : ∀ q : Nat, s.heap.size ≤ q → (zz_A (fun q => q = h0) s.heap.size) q := fun q h => Or.inr h
  refine zz_enter (A := (zz_A (fun q => q = h0) s.heap.size)) (P := LPw (zz_A (fun q => q = h0) s.heap.size) D [(h0, .inr (1, [.null, .null, .null, .int 0, .int 0]))]) [.ref h0] 2 (Nat.le_of_ble_eq_true rfl) (lv := [(0, .ref h0)]) rfl ⟨hP0, D_one (Or.inl rfl)⟩ ?_
  obtain ⟨args, hargs⟩ : ∃ args, args = (#[Value.ref h0] : Array Value) := ⟨_, rfl⟩
  rw [← hargs] at X
  show ZZ p l e rm_X1_init s m (#[Value.ref h0]) below meth c 0 0 (MQ below _ (#[Value.ref h0]) s 106 2106 _) _ _ _ _ _ _
  rw [← hargs]
  generalize hQ : MQ below _ _ s 106 2106 _ = Q
  refine zz_aload_n 0 X.1 0 dX1_init_0 rfl ?_
  refine zl_init 1 X hml (by decide +kernel) (by decide +kernel) (by decide +kernel) dX1_init_1 ⟨Nat.le_of_ble_eq_true rfl, Nat.le_of_ble_eq_true rfl⟩ ?_
  refine zz_aload_n 4 X.1 0 dX1_init_4 rfl ?_
  refine zl_new 5 X hA (by decide +kernel) tyX5 tyX5_ok (by decide +kernel) (by decide +kernel) (by decide +kernel) (ci := 5) rfl (fs := [.null, .null, .null, .int 0, .int 0, .int 0]) (by decide +kernel) ⟨by show 0 + 1 ≤ 106; omega, by show 0 + 6 ≤ 2106; omega⟩ dX1_init_5 ?_
  intro qn1
  refine zz_world (P' := (LPw (zz_A (fun q => q = h0) s.heap.size) D [(h0, .inr (1, [.null, .null, .null, .int 0, .int 0])), (qn1, .inr (5, [.null, .null, .null, .int 0, .int 0, .int 0]))])) (fun _ h => h) ?_
  refine zz_dup 8 X.1 dX1_init_8 rfl ?_
  refine zz_world (P' := LPw (zz_A (fun q => q = h0) s.heap.size) D ([(h0, .inr (1, [.null, .null, .null, .int 0, .int 0]))] ++ [(qn1, .inr (5, [.null, .null, .null, .int 0, .int 0, .int 0]))])) (fun _ h => h) ?_
  refine zl_callIN 9 X hml hA (kt_X5_init l D C qn1) ⟨va_cnB 0 X.2.1 gX1_init_X5_init_n13 rfl rfl rfl hN.2.1 (X.2.1 (.initialized RX5) (by decide +kernel)) (by decide +kernel) ⟨Nat.le_of_ble_eq_true rfl, Nat.le_of_ble_eq_true rfl⟩, rfl, X.2.1 (.instanceMethod yX5_init) (by decide +kernel)⟩ (Nat.le_of_ble_eq_true rfl) ⟨by show 0 + 1 + 3 ≤ 106; omega, by show 0 + 6 + 1200 ≤ 2106; omega⟩ dX1_init_9 ?_
  intro ui2
  refine zz_world (P' := (LPw (zz_A (fun q => q = h0) s.heap.size) D [(h0, .inr (1, [.null, .null, .null, .int 0, .int 0])), (qn1, .inr (5, [.ref ui2.1, .ref ui2.2.1, .ref ui2.2.2, .int (nI 0), .int (nI 0), .int (nI 0)])), (ui2.1, .inl (C 1, 400, .inl (fun _ => 0))), (ui2.2.1, .inl (C 1, 400, .inl (fun _ => 0))), (ui2.2.2, .inl (C 1, 400, .inl (fun _ => 0)))])) (fun _ h => h) ?_
  refine zl_putF 12 X hin2 (by decide +kernel) tyX1 tyX1_ok nmX1 rfl 0 rfl 0 (by decide) (by decide +kernel) rfl rfl (v := .ref qn1) rfl rfl rfl (Nat.le_of_ble_eq_true rfl) dX1_init_12 ?_
  refine zz_world (P' := (LPw (zz_A (fun q => q = h0) s.heap.size) D [(h0, .inr (1, [.ref qn1, .null, .null, .int 0, .int 0])), (qn1, .inr (5, [.ref ui2.1, .ref ui2.2.1, .ref ui2.2.2, .int (nI 0), .int (nI 0), .int (nI 0)])), (ui2.1, .inl (C 1, 400, .inl (fun _ => 0))), (ui2.2.1, .inl (C 1, 400, .inl (fun _ => 0))), (ui2.2.2, .inl (C 1, 400, .inl (fun _ => 0)))])) (fun _ h => h) ?_
  refine zz_aload_n 15 X.1 0 dX1_init_15 rfl ?_
  refine zz_bipush 16 X.1 (v := nI 100) dX1_init_16 rfl ?_
  refine zl_newq 18 X hA 5 rfl (by decide +kernel) hN.1 (N' := 100) (by decide) (by decide) ⟨by show 0 + 1 + 3 + 1 ≤ 106; omega, by show 0 + 6 + 1200 + 100 ≤ 2106; omega⟩ dX1_init_18 ?_
  intro qa3
  refine zz_world (P' := (LPw (zz_A (fun q => q = h0) s.heap.size) D [(h0, .inr (1, [.ref qn1, .null, .null, .int 0, .int 0])), (qn1, .inr (5, [.ref ui2.1, .ref ui2.2.1, .ref ui2.2.2, .int (nI 0), .int (nI 0), .int (nI 0)])), (ui2.1, .inl (C 1, 400, .inl (fun _ => 0))), (ui2.2.1, .inl (C 1, 400, .inl (fun _ => 0))), (ui2.2.2, .inl (C 1, 400, .inl (fun _ => 0))), (qa3, .inl (C 5, 100, .inr (.inr (.inr (.inr (fun _ => none))))))])) (fun _ h => h) ?_
  refine zl_putF 21 X hin2 (by decide +kernel) tyX1 tyX1_ok nmX1 rfl 0 rfl 1 (by decide) (by decide +kernel) rfl rfl (v := .ref qa3) rfl rfl rfl (Nat.le_of_ble_eq_true rfl) dX1_init_21 ?_
  refine zz_world (P' := (LPw (zz_A (fun q => q = h0) s.heap.size) D [(h0, .inr (1, [.ref qn1, .ref qa3, .null, .int 0, .int 0])), (qn1, .inr (5, [.ref ui2.1, .ref ui2.2.1, .ref ui2.2.2, .int (nI 0), .int (nI 0), .int (nI 0)])), (ui2.1, .inl (C 1, 400, .inl (fun _ => 0))), (ui2.2.1, .inl (C 1, 400, .inl (fun _ => 0))), (ui2.2.2, .inl (C 1, 400, .inl (fun _ => 0))), (qa3, .inl (C 5, 100, .inr (.inr (.inr (.inr (fun _ => none))))))])) (fun _ h => h) ?_
  refine zz_aload_n 24 X.1 0 dX1_init_24 rfl ?_
  refine zz_sipush 25 X.1 (v := nI 400) dX1_init_25 rfl ?_
  refine zl_newa 28 X hA 1 rfl rfl (by decide +kernel) (N' := 400) (a0 := (400, .inl (fun _ => 0))) (fun _ => rfl) (by decide) (by decide) ⟨by show 0 + 1 + 3 + 1 + 1 ≤ 106; omega, by show 0 + 6 + 1200 + 100 + 400 ≤ 2106; omega⟩ dX1_init_28 ?_
  intro qa4
  refine zz_world (P' := (LPw (zz_A (fun q => q = h0) s.heap.size) D [(h0, .inr (1, [.ref qn1, .ref qa3, .null, .int 0, .int 0])), (qn1, .inr (5, [.ref ui2.1, .ref ui2.2.1, .ref ui2.2.2, .int (nI 0), .int (nI 0), .int (nI 0)])), (ui2.1, .inl (C 1, 400, .inl (fun _ => 0))), (ui2.2.1, .inl (C 1, 400, .inl (fun _ => 0))), (ui2.2.2, .inl (C 1, 400, .inl (fun _ => 0))), (qa3, .inl (C 5, 100, .inr (.inr (.inr (.inr (fun _ => none)))))), (qa4, .inl (C 1, 400, .inl (fun _ => 0)))])) (fun _ h => h) ?_
  refine zl_putF 30 X hin2 (by decide +kernel) tyX1 tyX1_ok nmX1 rfl 0 rfl 2 (by decide) (by decide +kernel) rfl rfl (v := .ref qa4) rfl rfl rfl (Nat.le_of_ble_eq_true rfl) dX1_init_30 ?_
  refine zz_world (P' := (LPw (zz_A (fun q => q = h0) s.heap.size) D [(h0, .inr (1, [.ref qn1, .ref qa3, .ref qa4, .int 0, .int 0])), (qn1, .inr (5, [.ref ui2.1, .ref ui2.2.1, .ref ui2.2.2, .int (nI 0), .int (nI 0), .int (nI 0)])), (ui2.1, .inl (C 1, 400, .inl (fun _ => 0))), (ui2.2.1, .inl (C 1, 400, .inl (fun _ => 0))), (ui2.2.2, .inl (C 1, 400, .inl (fun _ => 0))), (qa3, .inl (C 5, 100, .inr (.inr (.inr (.inr (fun _ => none)))))), (qa4, .inl (C 1, 400, .inl (fun _ => 0)))])) (fun _ h => h) ?_
  refine zz_aload_n 33 X.1 0 dX1_init_33 rfl ?_
  refine zz_iconst 34 X.1 (v := nI 0) dX1_init_34 rfl ?_
  refine zl_put 35 X (by decide +kernel) tyX1 tyX1_ok nmX1 rfl 0 rfl 3 (by decide) (by decide +kernel) rfl rfl (v := .int (nI 0)) rfl rfl rfl (Nat.le_of_ble_eq_true rfl) dX1_init_35 ?_
  refine zz_world (P' := (LPw (zz_A (fun q => q = h0) s.heap.size) D [(h0, .inr (1, [.ref qn1, .ref qa3, .ref qa4, .int (nI 0), .int 0])), (qn1, .inr (5, [.ref ui2.1, .ref ui2.2.1, .ref ui2.2.2, .int (nI 0), .int (nI 0), .int (nI 0)])), (ui2.1, .inl (C 1, 400, .inl (fun _ => 0))), (ui2.2.1, .inl (C 1, 400, .inl (fun _ => 0))), (ui2.2.2, .inl (C 1, 400, .inl (fun _ => 0))), (qa3, .inl (C 5, 100, .inr (.inr (.inr (.inr (fun _ => none)))))), (qa4, .inl (C 1, 400, .inl (fun _ => 0)))])) (fun _ h => h) ?_
  refine zz_aload_n 38 X.1 0 dX1_init_38 rfl ?_
  refine zz_iconst 39 X.1 (v := nI 0) dX1_init_39 rfl ?_
  refine zl_put 40 X (by decide +kernel) tyX1 tyX1_ok nmX1 rfl 0 rfl 4 (by decide) (by decide +kernel) rfl rfl (v := .int (nI 0)) rfl rfl rfl (Nat.le_of_ble_eq_true rfl) dX1_init_40 ?_
  refine zz_world (P' := (LPw (zz_A (fun q => q = h0) s.heap.size) D [(h0, .inr (1, [.ref qn1, .ref qa3, .ref qa4, .int (nI 0), .int (nI 0)])), (qn1, .inr (5, [.ref ui2.1, .ref ui2.2.1, .ref ui2.2.2, .int (nI 0), .int (nI 0), .int (nI 0)])), (ui2.1, .inl (C 1, 400, .inl (fun _ => 0))), (ui2.2.1, .inl (C 1, 400, .inl (fun _ => 0))), (ui2.2.2, .inl (C 1, 400, .inl (fun _ => 0))), (qa3, .inl (C 5, 100, .inr (.inr (.inr (.inr (fun _ => none)))))), (qa4, .inl (C 1, 400, .inl (fun _ => 0)))])) (fun _ h => h) ?_
  refine zz_iconst 43 X.1 (v := nI 0) dX1_init_43 rfl ?_
  refine zz_istore_n 44 X.1 (lv' := [(1, .int (nI 0)), (0, .ref h0)]) dX1_init_44 (by decide) rfl ?_
  have C45 : ∀ (d : Nat) (kq : Nat) (aq : Nat → Nat) (hk : kq ≤ 100) (hd : 100 - kq < d), ZZ p l e rm_X1_init s m args below meth c (6 + kq) (1706 + 4 * kq) Q (zz_A (fun q => q = h0) s.heap.size) (LPw (zz_A (fun q => q = h0) s.heap.size) D ([(h0, .inr (1, [.ref qn1, .ref qa3, .ref qa4, .int (nI 0), .int (nI 0)])), (qn1, .inr (5, [.ref ui2.1, .ref ui2.2.1, .ref ui2.2.2, .int (nI 0), .int (nI 0), .int (nI 0)])), (ui2.1, .inl (C 1, 400, .inl (fun _ => 0))), (ui2.2.1, .inl (C 1, 400, .inl (fun _ => 0))), (ui2.2.2, .inl (C 1, 400, .inl (fun _ => 0))), (qa3, .inl (C 5, 100, .inr (.inr (.inr (.inr (fil aq kq)))))), (qa4, .inl (C 1, 400, .inl (fun _ => 0)))] ++ (List.range kq).map (fun j => (aq j, .inr (2, [.int 0, .int 0, .int 0, .int 0]))))) 2 [(0, .ref h0), (1, .int (nI kq))] [] 45 := by
    intro d
    induction d with
    | zero => intro kq aq hk hd; exact absurd hd (Nat.not_lt_zero _)
    | succ d ih45 =>
      intro kq aq hk hd
      refine zz_iload_n 45 X.1 1 dX1_init_45 rfl ?_
      refine zz_bipush 46 X.1 (v := nI 100) dX1_init_46 rfl ?_
      refine zz_icmp_ge 48 70 X.1 (nI_toInt (by omega)) (nI_toInt (by omega)) dX1_init_48 (by decide) (fun h48 => ?_) (fun h48 => ?_)
      · skip
        rw [← hQ]
        obtain rfl : kq = 100 := by omega
        refine zz_vret 70 X.1 hr hlk ((qn1, ui2, qa3, qa4, aq)) trivial (fun t ht _ => ht) dX1_init_70
      · skip
        refine zz_aload_n 51 X.1 0 dX1_init_51 rfl ?_
        refine zl_get 52 X (by decide +kernel) rfl 0 rfl 1 (by decide) (by decide +kernel) rfl (v := .ref qa3) rfl dX1_init_52 ?_
        refine zz_iload_n 55 X.1 1 dX1_init_55 rfl ?_
        refine zl_new 56 X hA (by decide +kernel) tyX2 tyX2_ok (by decide +kernel) (by decide +kernel) (by decide +kernel) (ci := 2) rfl (fs := [.int 0, .int 0, .int 0, .int 0]) (by decide +kernel) ⟨by show 6 + kq + 1 ≤ 106; omega, by show 1706 + 4 * kq + 4 ≤ 2106; omega⟩ dX1_init_56 ?_
        intro qn5
        refine zz_world (P' := (LPw (zz_A (fun q => q = h0) s.heap.size) D (([(h0, .inr (1, [.ref qn1, .ref qa3, .ref qa4, .int (nI 0), .int (nI 0)])), (qn1, .inr (5, [.ref ui2.1, .ref ui2.2.1, .ref ui2.2.2, .int (nI 0), .int (nI 0), .int (nI 0)])), (ui2.1, .inl (C 1, 400, .inl (fun _ => 0))), (ui2.2.1, .inl (C 1, 400, .inl (fun _ => 0))), (ui2.2.2, .inl (C 1, 400, .inl (fun _ => 0))), (qa3, .inl (C 5, 100, .inr (.inr (.inr (.inr (fil aq kq)))))), (qa4, .inl (C 1, 400, .inl (fun _ => 0)))] ++ (List.range kq).map (fun j => (aq j, .inr (2, [.int 0, .int 0, .int 0, .int 0])))) ++ [(qn5, .inr (2, [.int 0, .int 0, .int 0, .int 0]))]))) (fun _ h => h) ?_
        refine zz_dup 59 X.1 dX1_init_59 rfl ?_
        refine zl_callIN 60 X hml hA (kt_X2_init l D C qn5) ⟨va_cnB 0 X.2.1 gX1_init_X2_init_n35 rfl rfl rfl hN.2.2 (X.2.1 (.initialized RX2) (by decide +kernel)) (by decide +kernel) ⟨Nat.le_of_ble_eq_true rfl, Nat.le_of_ble_eq_true rfl⟩, rfl, X.2.1 (.instanceMethod yX2_init) (by decide +kernel)⟩ (Nat.le_of_ble_eq_true rfl) ⟨by show 6 + kq + 1 + 0 ≤ 106; omega, by show 1706 + 4 * kq + 4 + 0 ≤ 2106; omega⟩ dX1_init_60 ?_
        intro ui6
        refine zz_world (P' := (LPw (zz_A (fun q => q = h0) s.heap.size) D (([(h0, .inr (1, [.ref qn1, .ref qa3, .ref qa4, .int (nI 0), .int (nI 0)])), (qn1, .inr (5, [.ref ui2.1, .ref ui2.2.1, .ref ui2.2.2, .int (nI 0), .int (nI 0), .int (nI 0)])), (ui2.1, .inl (C 1, 400, .inl (fun _ => 0))), (ui2.2.1, .inl (C 1, 400, .inl (fun _ => 0))), (ui2.2.2, .inl (C 1, 400, .inl (fun _ => 0))), (qa3, .inl (C 5, 100, .inr (.inr (.inr (.inr (fil aq kq)))))), (qa4, .inl (C 1, 400, .inl (fun _ => 0)))] ++ (List.range kq).map (fun j => (aq j, .inr (2, [.int 0, .int 0, .int 0, .int 0])))) ++ [(qn5, .inr (2, [.int 0, .int 0, .int 0, .int 0]))]))) (fun _ h => h) ?_
        refine zl_aast 63 X 5 5 (7 + kq) 2 (r := (RX2, TX2, 4)) rfl rfl (rng_at (w1 := [(h0, .inr (1, [.ref qn1, .ref qa3, .ref qa4, .int (nI 0), .int (nI 0)])), (qn1, .inr (5, [.ref ui2.1, .ref ui2.2.1, .ref ui2.2.2, .int (nI 0), .int (nI 0), .int (nI 0)])), (ui2.1, .inl (C 1, 400, .inl (fun _ => 0))), (ui2.2.1, .inl (C 1, 400, .inl (fun _ => 0))), (ui2.2.2, .inl (C 1, 400, .inl (fun _ => 0))), (qa3, .inl (C 5, 100, .inr (.inr (.inr (.inr (fil aq kq)))))), (qa4, .inl (C 1, 400, .inl (fun _ => 0)))])) rfl (show kq < 100 by omega) (by decide) dX1_init_63 ?_
        refine zz_world (P' := (LPw (zz_A (fun q => q = h0) s.heap.size) D (([(h0, .inr (1, [.ref qn1, .ref qa3, .ref qa4, .int (nI 0), .int (nI 0)])), (qn1, .inr (5, [.ref ui2.1, .ref ui2.2.1, .ref ui2.2.2, .int (nI 0), .int (nI 0), .int (nI 0)])), (ui2.1, .inl (C 1, 400, .inl (fun _ => 0))), (ui2.2.1, .inl (C 1, 400, .inl (fun _ => 0))), (ui2.2.2, .inl (C 1, 400, .inl (fun _ => 0))), (qa3, .inl (C 5, 100, .inr (.inr (.inr (.inr (va_up (fil aq kq) kq (some qn5))))))), (qa4, .inl (C 1, 400, .inl (fun _ => 0)))] ++ (List.range kq).map (fun j => (aq j, .inr (2, [.int 0, .int 0, .int 0, .int 0])))) ++ [(qn5, .inr (2, [.int 0, .int 0, .int 0, .int 0]))]))) (fun _ h => h) ?_
        refine zz_world (P' := (LPw (zz_A (fun q => q = h0) s.heap.size) D ([(h0, .inr (1, [.ref qn1, .ref qa3, .ref qa4, .int (nI 0), .int (nI 0)])), (qn1, .inr (5, [.ref ui2.1, .ref ui2.2.1, .ref ui2.2.2, .int (nI 0), .int (nI 0), .int (nI 0)])), (ui2.1, .inl (C 1, 400, .inl (fun _ => 0))), (ui2.2.1, .inl (C 1, 400, .inl (fun _ => 0))), (ui2.2.2, .inl (C 1, 400, .inl (fun _ => 0))), (qa3, .inl (C 5, 100, .inr (.inr (.inr (.inr (fil (va_up aq kq qn5) (kq + 1))))))), (qa4, .inl (C 1, 400, .inl (fun _ => 0)))] ++ (List.range (kq + 1)).map (fun j => ((va_up aq kq qn5) j, .inr (2, [.int 0, .int 0, .int 0, .int 0])))))) (fun _ h => by rw [fil_up, List.append_assoc, rng_up] at h; exact h) ?_
        refine zz_iinc 64 X.1 1 (v := (nI (kq + 1))) (lv' := [(1, .int (nI (kq + 1))), (0, .ref h0)]) dX1_init_64 rfl (nI_add kq 1) (by decide) rfl ?_
        refine zz_goto 67 45 X.1 dX1_init_67 (by decide) ?_
        refine zz_lvs [1, 0] rfl ?_
        exact ih45 (kq + 1) (va_up aq kq qn5) (by omega) (by omega)
  refine zz_lvs [1, 0] rfl ?_
  exact C45 (100 - 0 + 1) 0 (fun _ => 0) (by omega) (Nat.lt_succ_self _)
