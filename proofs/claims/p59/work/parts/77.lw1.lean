/-! Objects made, and their constructors called: the list grows. -/
section LWT
variable {p : Program} {l : Launch} {e : Env} {R : Room} {s : State} {m : MethodId} {args : Array Value} {below : List Frame} {meth : Method} {c : Code} {cells slots : Nat} {Q : State → Prop} {n : Nat} {lv lv' : List (Nat × Value)} {st st0 : List Value} {cc : ByteArray} {Ts : List Cond} {own : String} {D : va_G} {C : Nat → ClassId} {A : Nat → Prop} {ws : va_W}
theorem P_left {w1 w2 : va_W} {H : Heap} (h : va_P D vwCl (w1 ++ w2) H) : va_P D vwCl w1 H := fun k q hk => h k q (by rw [List.getElem?_append_left (List.getElem?_eq_some_iff.mp hk).1]; exact hk)
theorem P_right {w1 w2 : va_W} {H : Heap} (h : va_P D vwCl (w1 ++ w2) H) : va_P D vwCl w2 H := fun k q hk => h (w1.length + k) q (by rw [List.getElem?_append_right (Nat.le_add_right _ _), Nat.add_sub_cancel_left]; exact hk)
theorem D_left {w1 w2 : va_W} (h : va_D A (w1 ++ w2)) : va_D A w1 := by
  have key : ∀ (k : Nat) (q : Nat × va_E), w1[k]? = some q → (w1 ++ w2)[k]? = some q := fun k q hk => by rw [List.getElem?_append_left (List.getElem?_eq_some_iff.mp hk).1]; exact hk
  exact ⟨fun i j p q hi hj hpq => h.1 i j p q (key i p hi) (key j q hj) hpq, fun k q hk => h.2 k q (key k q hk)⟩
theorem zl_new (pc : Nat) (X : CCx p s m args c cc Ts own D C) (hA : ∀ q, s.heap.size ≤ q → A q) {Cn : String} {T : u_T} {N ci index : Nat} (hin : ∀ w ∈ u_ws Cn T N, w ∈ Ts) (ty : Nat → FieldType) (hty : ∀ k, k < N → parseFieldDescriptor (T k).2.2.1 = some (ty k)) (h1 : Cond.classLink own index Cn ∈ Ts) (h2 : Cond.instantiable Cn N ∈ Ts) (h3 : Cond.initialized Cn ∈ Ts) (hc : vwCl[ci]? = some (Cn, T, N)) {fs : List Value} (hfs : ∀ j, j < N → defaultValue (ty j) = vp_V fs j) (hcs : cells + 1 ≤ R.cells ∧ slots + N ≤ R.slots) (hd : decode cc pc = .ok (.new index, 3))
  (kk : ∀ q : Nat, ZZ p l e R s m args below meth c (cells + 1) (slots + N) Q A (LPw A D (ws ++ [(q, .inr (ci, fs))])) n lv (.ref q :: st) (pc + 3)) : ZZ p l e R s m args below meth c cells slots Q A (LPw A D ws) n lv st pc := fun H locs ls hP hS hl =>
  va_new X.1.1 X.1.2 X.2.1 hin ty hty X.2.2.1 (X.2.1 _ h1) (X.2.1 _ h2) (X.2.1 _ h3) X.2.2.2 hP.1 hP.2 hS hA hc hfs hcs.1 hcs.2 hd (fun q H1 hP1 hD1 hS1 => kk q H1 locs ls ⟨hP1, hD1⟩ hS1 hl)
theorem zl_newq (pc : Nat) (X : CCx p s m args c cc Ts own D C) (hA : ∀ q, s.heap.size ≤ q → A q) {Cn : String} {index : Nat} (t : Nat) (ht : (TY C)[t]? = some (C t, .object Cn)) (h1 : Cond.classLink own index Cn ∈ Ts) (hover : va_AO Cn s) {N' : Nat} (hN : N' < 2 ^ 31) (hbytes : N' * 4 ≤ 536870912) (hcs : cells + 1 ≤ R.cells ∧ slots + N' ≤ R.slots) (hd : decode cc pc = .ok (.anewarray index, 3))
  (kk : ∀ q : Nat, ZZ p l e R s m args below meth c (cells + 1) (slots + N') Q A (LPw A D (ws ++ [(q, .inl (C t, N', .inr (.inr (.inr (.inr (fun _ => none))))))])) n lv (.ref q :: st) (pc + 3)) : ZZ p l e R s m args below meth c cells slots Q A (LPw A D ws) n lv (.int (nI N') :: st) pc := fun H locs ls hP hS hl =>
  va_newq X.1.1 X.1.2 X.2.2.1 (X.2.1 _ h1) hover X.2.2.2 hP.1 hP.2 hS hA (fun z => by have := Int32.lt_iff_toInt_lt.mp z; rw [nI_toInt hN] at this; have e0 : (0 : Int32).toInt = 0 := rfl; omega) (nI_clamp hN) hbytes hcs.1 hcs.2 hd (fun q cA H1 hK1 hP1 hD1 hS1 => by
    have h1 := (hK1.2 (TY C).length (cA, .object Cn) (by rw [List.getElem?_append_right (Nat.le_refl _), Nat.sub_self]; rfl)).2
    have h2 := (X.2.2.2.2 t _ ht).2
    have e1 : cA = C t := RA_one h1 h2
    subst e1
    exact kk q H1 locs ls ⟨hP1, hD1⟩ hS1 hl)
theorem zl_callI (pc : Nat) (X : CCx p s m args c cc Ts own D C) (hml : c.maxLocals = n) (hA : ∀ q, s.heap.size ≤ q → A q) {y : MethodName} {bytes : ByteArray} {maxL mc ms index : Nat} {ws' : List Cond} {rm : Room} {σ : Type} {wI : σ → va_W} {q0 : Nat} {e0 : va_E}
  (hM : ∀ sz : Nat, Met l y ws' rm (va_Pc [.ref q0] (zz_E (fun _ U => va_P D vwCl [(q0, e0)] U.heap ∧ va_K D vwCl (TY C) U) sz)) (va_Qv (fun _ : σ => True) (fun u t => LPw (zz_A (fun q => q = q0) sz) D (wI u) t.heap) (zz_A (fun q => q = q0) sz)) mc ms (zz_A (fun q => q = q0) sz))
  (cw : CallB R s args own index y bytes maxL none ws' rm mc ms 0 ∧ y.name = "<init>" ∧ (Cond.instanceMethod y).before args s = true) (hwd : (st.map fun v => v.category).sum ≤ 8) (hf : cells + mc ≤ R.cells ∧ slots + ms ≤ R.slots) (hd : decode cc pc = .ok (.invokespecial index, 3))
  (kk : ∀ u : σ, ZZ p l e R s m args below meth c (cells + mc) (slots + ms) Q A (LPw A D (ws ++ wI u)) n lv st (pc + 3)) : ZZ p l e R s m args below meth c cells slots Q A (LPw A D (ws ++ [(q0, e0)])) n lv (.ref q0 :: st) pc := by
  intro H locs ls hP hS hl
  have hAq : A q0 := hP.2.2 ws.length (q0, e0) (by rw [List.getElem?_append_right (Nat.le_refl _), Nat.sub_self]; rfl)
  have hF : ∀ q, zz_A (fun q => q = q0) H.size q → A q := fun q h => h.elim (fun z => z ▸ hAq) (fun z => hA q (Nat.le_trans hS.1 z))
  have hne : ∀ (k : Nat) (x : Nat × va_E), ws[k]? = some x → x.1 < H.size ∧ x.1 ≠ q0 := fun k x hx => by
    have hk : k < ws.length := (List.getElem?_eq_some_iff.mp hx).1
    have h1 : (ws ++ [(q0, e0)])[k]? = some x := by rw [List.getElem?_append_left hk]; exact hx
    refine ⟨va_at.lt (hP.1 k x h1), fun z => ?_⟩
    have h2 := hP.2.1 k ws.length x (q0, e0) h1 (by rw [List.getElem?_append_right (Nat.le_refl _), Nat.sub_self]; rfl) z
    omega
  refine va_callv (va_runI (As := []) (rest := st) ⟨X.1.1, X.1.2, hml, X.2.2.1, X.2.1⟩ (hM H.size) cw ⟨fun a U g mk q => ⟨q.1, q.2.1, q.2.2.1, va_K.moved (u := U) (U := U.calling g mk a) (Vm.Alike.refl U.vm) q.2.2.2⟩, fun U hU hW => ⟨rfl, by rw [hU], by rw [hU]; exact P_right hP.1, va_K.moved hW.alike X.2.2.2⟩⟩ rfl rfl hl.1 rfl (lv_room hwd) hd hf) hS (fun q _ h => hF q h) hF (fun u t H1 locs1 ht hvm _ hB hz hk hS1 => ?_)
  subst ht
  refine kk u t.heap locs1 ls ⟨?_, ?_⟩ hS1 hl
  · exact (va_P.kept (P_left hP.1) (fun k q hq => hk q.1 (hne k q hq).1 (fun z => z.elim (hne k q hq).2 (fun z => absurd (hne k q hq).1 (Nat.not_lt.mpr z))))).app hB.1
  · refine va_D.app (D_left hP.2) (hB.2.weaken (fun _ q _ z => hF q.1 z)) (fun i j x y hx hy hxy => ?_)
    have h1 := hne i x hx
    have h2 := hB.2.2 j y hy
    rw [← hxy] at h2
    exact h2.elim h1.2 (fun z => absurd h1.1 (Nat.not_lt.mpr z))
theorem zl_callIN (pc : Nat) (X : CCx p s m args c cc Ts own D C) (hml : c.maxLocals = n) (hA : ∀ q, s.heap.size ≤ q → A q) {host : String} {y : MethodName} {bytes : ByteArray} {maxL mc ms index : Nat} {ws' : List Cond} {rm : Room} {σ : Type} {wI : σ → va_W} {q0 : Nat} {e0 : va_E}
  (hM : ∀ sz : Nat, Met l y ws' rm (va_Pc [.ref q0] (zz_E (fun _ U => va_P D vwCl [(q0, e0)] U.heap ∧ va_K D vwCl (TY C) U) sz)) (va_Qv (fun _ : σ => True) (fun u t => LPw (zz_A (fun q => q = q0) sz) D (wI u) t.heap) (zz_A (fun q => q = q0) sz)) mc ms (zz_A (fun q => q = q0) sz))
  (cw : va_CN R s args own index y host bytes maxL none ws' rm mc ms 0 ∧ y.name = "<init>" ∧ (Cond.instanceMethod y).before args s = true) (hwd : (st.map fun v => v.category).sum ≤ 8) (hf : cells + mc ≤ R.cells ∧ slots + ms ≤ R.slots) (hd : decode cc pc = .ok (.invokespecial index, 3))
  (kk : ∀ u : σ, ZZ p l e R s m args below meth c (cells + mc) (slots + ms) Q A (LPw A D (ws ++ wI u)) n lv st (pc + 3)) : ZZ p l e R s m args below meth c cells slots Q A (LPw A D (ws ++ [(q0, e0)])) n lv (.ref q0 :: st) pc := by
  intro H locs ls hP hS hl
  have hAq : A q0 := hP.2.2 ws.length (q0, e0) (by rw [List.getElem?_append_right (Nat.le_refl _), Nat.sub_self]; rfl)
  have hF : ∀ q, zz_A (fun q => q = q0) H.size q → A q := fun q h => h.elim (fun z => z ▸ hAq) (fun z => hA q (Nat.le_trans hS.1 z))
  have hne : ∀ (k : Nat) (x : Nat × va_E), ws[k]? = some x → x.1 < H.size ∧ x.1 ≠ q0 := fun k x hx => by
    have hk : k < ws.length := (List.getElem?_eq_some_iff.mp hx).1
    have h1 : (ws ++ [(q0, e0)])[k]? = some x := by rw [List.getElem?_append_left hk]; exact hx
    refine ⟨va_at.lt (hP.1 k x h1), fun z => ?_⟩
    have h2 := hP.2.1 k ws.length x (q0, e0) h1 (by rw [List.getElem?_append_right (Nat.le_refl _), Nat.sub_self]; rfl) z
    omega
  refine va_callv (va_runIN (As := []) (rest := st) ⟨X.1.1, X.1.2, hml, X.2.2.1, X.2.1⟩ (hM H.size) cw ⟨fun a U g mk q => ⟨q.1, q.2.1, q.2.2.1, va_K.moved (u := U) (U := U.calling g mk a) (Vm.Alike.refl U.vm) q.2.2.2⟩, fun U hU hW => ⟨rfl, by rw [hU], by rw [hU]; exact P_right hP.1, va_K.moved hW.alike X.2.2.2⟩⟩ rfl rfl hl.1 rfl (lv_room hwd) hd hf) hS (fun q _ h => hF q h) hF (fun u t H1 locs1 ht hvm _ hB hz hk hS1 => ?_)
  subst ht
  refine kk u t.heap locs1 ls ⟨?_, ?_⟩ hS1 hl
  · exact (va_P.kept (P_left hP.1) (fun k q hq => hk q.1 (hne k q hq).1 (fun z => z.elim (hne k q hq).2 (fun z => absurd (hne k q hq).1 (Nat.not_lt.mpr z))))).app hB.1
  · refine va_D.app (D_left hP.2) (hB.2.weaken (fun _ q _ z => hF q.1 z)) (fun i j x y hx hy hxy => ?_)
    have h1 := hne i x hx
    have h2 := hB.2.2 j y hy
    rw [← hxy] at h2
    exact h2.elim h1.2 (fun z => absurd h1.1 (Nat.not_lt.mpr z))
theorem zl_aast (pc : Nat) (X : CCx p s m args c cc Ts own D C) (q0 t qk ci : Nat) {r : vw_C} {a v N' i : Nat} {vs : List Value} {f : Nat → Option Nat} (he : ws[q0]? = some (a, .inl (C t, N', .inr (.inr (.inr (.inr f)))))) (ht : (TY C)[t]? = some (C t, .object r.1)) (hv : ws[qk]? = some (v, .inr (ci, vs))) (hc : vwCl[ci]? = some r) (hi : i < N') (hN : N' < 2 ^ 31) (hd : decode cc pc = .ok (.aastore, 1))
  (kk : ZZ p l e R s m args below meth c cells slots Q A (LPw A D (ws.set q0 (a, .inl (C t, N', .inr (.inr (.inr (.inr (va_up f i (some v))))))))) n lv st (pc + 1)) : ZZ p l e R s m args below meth c cells slots Q A (LPw A D ws) n lv (.ref v :: .int (nI i) :: .ref a :: st) pc := fun H locs ls hP hS hl =>
  va_astq X.1.1 X.1.2 X.2.2.2 hP.1 hP.2 hS q0 t qk ci he ht hv hc (vp_in_nI hi hN) hd (fun H1 locs1 hP1 hD1 hS1 => kk H1 locs1 ls (by rw [nI_clamp (Nat.lt_trans hi hN)] at hP1 hD1; exact ⟨hP1, hD1⟩) hS1 hl)
theorem rng_up {a : Nat → Nat} {k q : Nat} {x : va_E} : (List.range k).map (fun j => (a j, x)) ++ [(q, x)] = (List.range (k + 1)).map (fun j => (va_up a k q j, x)) := by
  rw [List.range_succ, List.map_append]
  congr 1
  · refine List.map_congr_left (fun j hj => ?_)
    have : j < k := List.mem_range.mp hj
    show (a j, x) = (va_up a k q j, x)
    unfold va_up
    rw [if_neg (by omega)]
  · show [(q, x)] = [(va_up a k q k, x)]
    unfold va_up
    rw [if_pos rfl]
/-- the first k places of a row of references are filled -/
def fil (a : Nat → Nat) (k : Nat) : Nat → Option Nat := fun j => if j < k then some (a j) else none
theorem fil_up {a : Nat → Nat} {k q : Nat} : va_up (fil a k) k (some q) = fil (va_up a k q) (k + 1) := by
  funext j
  unfold va_up fil
  by_cases h : j = k
  · subst h
    rw [if_pos rfl, if_pos (by omega)]
    show some q = some (if j = j then q else a j)
    rw [if_pos rfl]
  · rw [if_neg h]
    by_cases h2 : j < k
    · rw [if_pos h2, if_pos (by omega)]
      show some (a j) = some (if j = k then q else a j)
      rw [if_neg h]
    · rw [if_neg h2, if_neg (by omega)]
theorem fil_0 {a : Nat → Nat} : fil a 0 = fun _ => none := rfl
theorem rng_at {w1 : va_W} {a : Nat → Nat} {k q : Nat} {x y : va_E} : ((w1 ++ (List.range k).map (fun j => (a j, x))) ++ [(q, y)])[w1.length + k]? = some (q, y) := by
  rw [List.getElem?_append_right (by simp)]
  simp
end LWT
