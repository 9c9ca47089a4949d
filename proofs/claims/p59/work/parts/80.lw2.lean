/-! A set of a list called. -/
section LWU
variable {p : Program} {l : Launch} {e : Env} {R : Room} {s : State} {m : MethodId} {args : Array Value} {below : List Frame} {meth : Method} {c : Code} {cells slots : Nat} {Q : State → Prop} {n : Nat} {lv lv' : List (Nat × Value)} {st st0 : List Value} {cc : ByteArray} {Ts : List Cond} {own : String} {D : va_G} {C : Nat → ClassId} {K : Nat → Nat} {F : Nat → Int32} {hs hs1 : Nat → Bool} {G T : Nat → Nat → Int32} {A : Nat → Prop} {ws : va_W} {s0 : Nat}
theorem zl_callQ (pc : Nat) (X : CCx p s m args c cc Ts own D C) (hml : c.maxLocals = n) (hA : ∀ q, s.heap.size ≤ q → A q) (i j : Nat) (hi : ws[i]? = some (K (20 + s0), .inr (0, [.ref (K (30 + s0))]))) (hj : ws[j]? = some (K (30 + s0), .inl (C 2, 16, .inr (.inl (WH hs s0))))) {y : MethodName} {ws1 ws' : List Cond} {rm : Room} {As : List Value} {maxL index na : Nat} {ret : Option FieldType} {bytes : ByteArray} (hM : QMv s0 l y ws1 rm D C K (20 + s0) As F hs G T (fun u => u = (F, hs1, G, T))) (g : GoodIn Ts (wsV own index RX0 y ws1)) (hw : ws1 = Cond.code y bytes maxL ret :: ws') (hr : rm.cells = 0 ∧ rm.slots = 0)
  (hd1 : y.cls = RX0 ∧ y.cls ≠ "java/lang/invoke/MethodHandle" ∧ y.cls ≠ "java/lang/invoke/VarHandle" ∧ (parseMethodDescriptor y.desc).map (fun d => d.parameters.length) = some na) (hR : rm.frames + 1 ≤ R.frames ∧ 8 + (maxL + 11) + rm.locals ≤ R.locals) (hn : As.length = na) (hs0 : st0 = As.reverse ++ .ref (K (20 + s0)) :: st) (hwd : (st.map fun v => v.category).sum ≤ 8) (hf : cells ≤ R.cells ∧ slots ≤ R.slots) (hd : decode cc pc = .ok (.invokevirtual index, 3))
  (kk : ZZ p l e R s m args below meth c cells slots Q A (LPw A D (ws.set j (K (30 + s0), .inl (C 2, 16, .inr (.inl (WH hs1 s0)))))) n lv st (pc + 3)) : ZZ p l e R s m args below meth c cells slots Q A (LPw A D ws) n lv st0 pc := by
  subst hs0
  intro H locs ls hP hS hl
  have hF : ∀ q, zz_A (DQd s0 K) H.size q → A q := fun q h => h.elim (fun z => z.elim (fun z => z ▸ hP.2.2 i _ hi) (fun z => z ▸ hP.2.2 j _ hj)) (fun z => hA q (Nat.le_trans hS.1 z))
  have hQ0 : DQ s0 D C K F (WH hs) G T H := fun k q hk => by
    have h1 : k < 2 := (List.getElem?_eq_some_iff.mp hk).1
    rcases (show k = 0 ∨ k = 1 by omega) with rfl | rfl <;> cases hk
    · exact hP.1 i _ hi
    · exact hP.1 j _ hj
  refine va_callv (va_runV (rest := st) ⟨X.1.1, X.1.2, hml, X.2.2.1, X.2.1⟩ (hM H.size) (cwV na X.2.1 g hw hr.1 hr.2 hd1 hR) ⟨fun a U g mk q => ⟨q.1, q.2.1, q.2.2.1, va_K.moved (u := U) (U := U.calling g mk a) (Vm.Alike.refl U.vm) q.2.2.2⟩, va_recv X.2.2.2 hP.1 (ci := 0) (q0 := i) rfl hi, fun U hU hW => ⟨rfl, by rw [hU], by rw [hU]; exact hQ0, va_K.moved hW.alike X.2.2.2⟩⟩ rfl hn hl.1 rfl (lv_room hwd) hd hf) hS (fun q _ h => hF q h) hF (fun u t H1 locs1 ht hvm hu hB hz hk hS1 => ?_)
  subst ht
  subst hu
  refine kk t.heap locs1 ls ⟨fun k x hx => ?_, hP.2.set hj⟩ hS1 hl
  by_cases hkj : k = j
  · subst hkj
    rw [List.getElem?_set_self (List.getElem?_eq_some_iff.mp hj).1] at hx
    cases hx
    exact hB 1 _ rfl
  · rw [List.getElem?_set_ne (fun z => hkj z.symm)] at hx
    have h30 : x.1 ≠ K (30 + s0) := fun z => hkj (hP.2.1 k j x _ hx hj z)
    by_cases h20 : x.1 = K (20 + s0)
    · have e : k = i := hP.2.1 k i x _ hx hi h20
      subst e
      rw [hi] at hx
      cases hx
      exact hB 0 _ rfl
    · have hlt := va_at.lt (hP.1 k x hx)
      have h1 : va_P D vwCl [x] t.heap := va_P.kept (H := H) (fun k2 q hk2 => by
        have h2 : k2 < 1 := (List.getElem?_eq_some_iff.mp hk2).1
        rw [show k2 = 0 by omega] at hk2
        cases hk2
        exact hP.1 k x hx) (fun k2 q hk2 => by
        have h2 : k2 < 1 := (List.getElem?_eq_some_iff.mp hk2).1
        rw [show k2 = 0 by omega] at hk2
        cases hk2
        exact hk x.1 hlt (fun z => z.elim (fun z => z.elim h20 h30) (fun z => absurd hlt (Nat.not_lt.mpr z))))
      exact h1 0 x rfl
theorem zl_gets (pc : Nat) (X : CCx p s m args c cc Ts own D C) {Cn nm d : String} {index : Nat} {v : Value} {P : Heap → Prop} (hZ : va_Z Cn nm d v A s s.heap) (hl2 : Cond.fieldLink own index Cn nm d ∈ Ts) (hd : decode cc pc = .ok (.getstatic index, 3)) (kk : ZZ p l e R s m args below meth c cells slots Q A P n lv (v :: st) (pc + 3)) : ZZ p l e R s m args below meth c cells slots Q A P n lv st pc := fun H locs ls hP hS hl => va_gets X.1.1 X.1.2 hZ hS X.2.2.1 (X.2.1 _ hl2) (fun _ h => h) hd (kk H locs ls hP hS hl)
theorem zl_tia (pc : Nat) (X : CCx p s m args c cc Ts own D C) {t N i : Nat} {f : Nat → Value} {P : Heap → Prop} (hT : va_T .int t N f A s s.heap) (hi : i < N) (hN : N < 2 ^ 31) {v : Value} (hv : f i = v) (hd : decode cc pc = .ok (.iaload, 1)) (kk : ZZ p l e R s m args below meth c cells slots Q A P n lv (v :: st) (pc + 1)) : ZZ p l e R s m args below meth c cells slots Q A P n lv (.int (nI i) :: .ref t :: st) pc := fun H locs ls hP hS hl => va_ti X.1.1 X.1.2 hT hS (vp_in_nI hi hN) (by rw [nI_clamp (Nat.lt_trans hi hN)]; exact hv) hd (kk H locs ls hP hS hl)
end LWU
