/-! Objects and arrays made: worlds as lists. -/
theorem RA_one {U : State} {a b : ClassId} {ty : FieldType} (h1 : va_RA U a ty) (h2 : va_RA U b ty) : a = b := by
  cases ty with
  | object C =>
    obtain ⟨_, _, _, _, _, e1⟩ := h1
    obtain ⟨_, _, _, _, _, e2⟩ := h2
    exact Option.some.inj (e1.symm.trans e2)
  | _ => exact Option.some.inj (Eq.symm h1 |>.trans h2)
/-- a world as a list, its cells apart from each other -/
def LPw (A : Nat → Prop) (D : va_G) (ws : va_W) : Heap → Prop := fun H => va_P D vwCl ws H ∧ va_D A ws
section LWS
variable {p : Program} {l : Launch} {e : Env} {R : Room} {s : State} {m : MethodId} {args : Array Value} {below : List Frame} {meth : Method} {c : Code} {cells slots : Nat} {Q : State → Prop} {n : Nat} {lv lv' : List (Nat × Value)} {st st0 : List Value} {cc : ByteArray} {Ts : List Cond} {own : String} {D : va_G} {C : Nat → ClassId} {A : Nat → Prop} {ws : va_W}
theorem zl_init (pc : Nat) (X : CCx p s m args c cc Ts own D C) (hml : c.maxLocals = n) {idx : Nat} {P : Heap → Prop} (h1 : Cond.methodLink own idx Lib.objectInit ∈ Ts) (h2 : Cond.instanceMethod Lib.objectInit ∈ Ts) (h3 : Cond.code Lib.objectInit ⟨#[0xb1]⟩ 1 none ∈ Ts) {a : Nat} (hd : decode cc pc = .ok (.invokespecial idx, 3)) (hR : 1 ≤ R.frames ∧ (st.map fun v => v.category).sum + 12 ≤ R.locals) (kk : ZZ p l e R s m args below meth c cells slots Q A P n lv st (pc + 3)) : ZZ p l e R s m args below meth c cells slots Q A P n lv (.ref a :: st) pc := fun H locs ls hP hS hl =>
  W.objInit X.1.1 X.1.2 X.2.2.1 (X.2.1 _ h1) (X.2.1 _ h2) (X.2.1 _ h3) rfl (hl.1.trans hml.symm) rfl hd hR.1 (by show 2 * 0 + _ + 12 ≤ _; omega) (kk H locs ls hP hS hl)
theorem zl_newa (pc : Nat) (X : CCx p s m args c cc Ts own D C) (hA : ∀ q, s.heap.size ≤ q → A q) {atype : ArrayType} {ty : FieldType} (t : Nat) (ht : (TY C)[t]? = some (C t, ty)) (hty : newarray.typeOf atype = ty) (harr : Cond.arrayClass (newarray.typeOf atype) ∈ Ts) {N' : Nat} {a0 : vp_A} (ha : ∀ cA : ClassId, vp_cell cA a0 = arrV cA N' (fun _ => defaultValue ty)) (hN : N' < 2 ^ 31) (hbytes : N' * componentBytes ty ≤ 536870912) (hcs : cells + 1 ≤ R.cells ∧ slots + N' ≤ R.slots) (hd : decode cc pc = .ok (.newarray atype, 2))
  (kk : ∀ q : Nat, ZZ p l e R s m args below meth c (cells + 1) (slots + N') Q A (LPw A D (ws ++ [(q, .inl (C t, a0))])) n lv (.ref q :: st) (pc + 2)) : ZZ p l e R s m args below meth c cells slots Q A (LPw A D ws) n lv (.int (nI N') :: st) pc := fun H locs ls hP hS hl =>
  va_newa X.1.1 X.1.2 (X.2.1 _ harr) hty X.2.2.2 hP.1 hP.2 hS hA ha (fun z => by have := Int32.lt_iff_toInt_lt.mp z; rw [nI_toInt hN] at this; have e0 : (0 : Int32).toInt = 0 := rfl; omega) (nI_clamp hN) hbytes hcs.1 hcs.2 hd (fun q cA H1 hK1 hP1 hD1 hS1 => by
    have h1 := (hK1.2 (TY C).length (cA, ty) (by rw [List.getElem?_append_right (Nat.le_refl _), Nat.sub_self]; rfl)).2
    have h2 := (X.2.2.2.2 t _ ht).2
    have e1 : cA = C t := RA_one h1 h2
    subst e1
    exact kk q H1 locs ls ⟨hP1, hD1⟩ hS1 hl)
theorem zl_putF (pc : Nat) (X : CCx p s m args c cc Ts own D C) (hin2 : meth.name = "<init>") {T : u_T} {N ci : Nat} (hin : ∀ w ∈ u_ws own T N, w ∈ Ts) (ty0 : Nat → FieldType) (hty : ∀ k, k < N → parseFieldDescriptor (T k).2.2.1 = some (ty0 k)) (hnm : ∀ a, a < N → ∀ b, b < N → a ≠ b → (T a).2.1 ≠ (T b).2.1) (hc : vwCl[ci]? = some (own, T, N)) (q0 : Nat) {a : Nat} {fs : List Value} (he : ws[q0]? = some (a, .inr (ci, fs))) (k : Nat) (hk : k < N) {index : Nat} (hlk : Cond.fieldLink own index own (T k).2.1 (T k).2.2.1 ∈ Ts) (hsm : (T k).1 = own) (hfin : (T k).2.2.2 = true) {ty : FieldType} {v : Value} (hdd : parseFieldDescriptor (T k).2.2.1 = some ty) (hn : narrow ty v = v) (hfit : fits ty v = true) (hl2 : k < fs.length) (hd : decode cc pc = .ok (.putfield index, 3))
  (kk : ZZ p l e R s m args below meth c cells slots Q A (LPw A D (ws.set q0 (a, .inr (ci, fs.set k v)))) n lv st (pc + 3)) : ZZ p l e R s m args below meth c cells slots Q A (LPw A D ws) n lv (v :: .ref a :: st) pc := fun H locs ls hP hS hl =>
  va_putF (C := own) (T := T) (N := N) (ref := own) X.1.1 X.1.2 X.2.1 hin ty0 hty hnm X.2.2.1 X.2.2.2 hP.1 hP.2 hS q0 he hc k hk (X.2.1 _ hlk) (fun z h => by rw [hsm] at h; exact h) hfin hin2 hsm hdd hn hfit hl2 hd (fun H1 locs1 hP1 hD1 hS1 => kk H1 locs1 ls ⟨hP1, hD1⟩ hS1 hl)
theorem zl_put (pc : Nat) (X : CCx p s m args c cc Ts own D C) {T : u_T} {N ci : Nat} (hin : ∀ w ∈ u_ws own T N, w ∈ Ts) (ty0 : Nat → FieldType) (hty : ∀ k, k < N → parseFieldDescriptor (T k).2.2.1 = some (ty0 k)) (hnm : ∀ a, a < N → ∀ b, b < N → a ≠ b → (T a).2.1 ≠ (T b).2.1) (hc : vwCl[ci]? = some (own, T, N)) (q0 : Nat) {a : Nat} {fs : List Value} (he : ws[q0]? = some (a, .inr (ci, fs))) (k : Nat) (hk : k < N) {index : Nat} (hlk : Cond.fieldLink own index own (T k).2.1 (T k).2.2.1 ∈ Ts) (hsm : (T k).1 = own) (hfin : (T k).2.2.2 = false) {ty : FieldType} {v : Value} (hdd : parseFieldDescriptor (T k).2.2.1 = some ty) (hn : narrow ty v = v) (hfit : fits ty v = true) (hl2 : k < fs.length) (hd : decode cc pc = .ok (.putfield index, 3))
  (kk : ZZ p l e R s m args below meth c cells slots Q A (LPw A D (ws.set q0 (a, .inr (ci, fs.set k v)))) n lv st (pc + 3)) : ZZ p l e R s m args below meth c cells slots Q A (LPw A D ws) n lv (v :: .ref a :: st) pc := fun H locs ls hP hS hl =>
  va_put (C := own) (T := T) (N := N) (ref := own) X.1.1 X.1.2 X.2.1 hin ty0 hty hnm X.2.2.1 X.2.2.2 hP.1 hP.2 hS q0 he hc k hk (X.2.1 _ hlk) (fun z h => by rw [hsm] at h; exact h) hfin hdd hn hfit hl2 hd (fun H1 locs1 hP1 hD1 hS1 => kk H1 locs1 ls ⟨hP1, hD1⟩ hS1 hl)
theorem zl_get (pc : Nat) (X : CCx p s m args c cc Ts own D C) {T : u_T} {N ci : Nat} (hin : ∀ w ∈ u_ws own T N, w ∈ Ts) (hc : vwCl[ci]? = some (own, T, N)) (q0 : Nat) {a : Nat} {fs : List Value} (he : ws[q0]? = some (a, .inr (ci, fs))) (k : Nat) (hk : k < N) {index : Nat} (hlk : Cond.fieldLink own index own (T k).2.1 (T k).2.2.1 ∈ Ts) (hsm : (T k).1 = own) {v : Value} (hv : fs[k]? = some v) (hd : decode cc pc = .ok (.getfield index, 3))
  (kk : ZZ p l e R s m args below meth c cells slots Q A (LPw A D ws) n lv (v :: st) (pc + 3)) : ZZ p l e R s m args below meth c cells slots Q A (LPw A D ws) n lv (.ref a :: st) pc := fun H locs ls hP hS hl =>
  va_get (C := own) (T := T) (N := N) (ref := own) X.1.1 X.1.2 X.2.1 hin X.2.2.1 X.2.2.2 hP.1 q0 he hc k hk (X.2.1 _ hlk) (fun z h => by rw [hsm] at h; exact h) hv hd (kk H locs ls hP hS hl)
theorem zl_zast (pc : Nat) (X : CCx p s m args c cc Ts own D C) (q0 : Nat) {a N' i : Nat} {h : Nat → Bool} {b : Bool} (he : ws[q0]? = some (a, .inl (C 3, N', .inl (fun j => bI (h j))))) (hi : i < N') (hN : N' < 2 ^ 31) (hd : decode cc pc = .ok (.bastore, 1))
  (kk : ZZ p l e R s m args below meth c cells slots Q A (LPw A D (ws.set q0 (a, .inl (C 3, N', .inl (fun j => bI (va_up h i b j)))))) n lv st (pc + 1)) : ZZ p l e R s m args below meth c cells slots Q A (LPw A D ws) n lv (.int (bI b) :: .int (nI i) :: .ref a :: st) pc := fun H locs ls hP hS hl =>
  va_zast X.1.1 X.1.2 X.2.2.2 hP.1 hP.2 hS q0 3 he rfl (vp_in_nI hi hN) hd (fun H1 locs1 hP1 hD1 hS1 => kk H1 locs1 ls (by rw [nI_clamp (Nat.lt_trans hi hN), bI_vpn, bI_upd] at hP1 hD1; exact ⟨hP1, hD1⟩) hS1 hl)
theorem D_one {a : Nat} {x : va_E} (h : A a) : va_D A [(a, x)] := by
  refine ⟨fun i j p q hi hj _ => ?_, fun k q hk => ?_⟩
  · have h1 : i < 1 := (List.getElem?_eq_some_iff.mp hi).1
    have h2 : j < 1 := (List.getElem?_eq_some_iff.mp hj).1
    omega
  · have h1 : k < 1 := (List.getElem?_eq_some_iff.mp hk).1
    rw [show k = 0 by omega] at hk
    cases hk
    exact h
theorem D_addr {B : Nat → Prop} {ws' : va_W} (h : va_D A ws) (he : ws'.map Prod.fst = ws.map Prod.fst) (hB : ∀ q, A q → B q) : va_D B ws' := by
  have key : ∀ (k : Nat) (q : Nat × va_E), ws'[k]? = some q → ∃ q2, ws[k]? = some q2 ∧ q2.1 = q.1 := fun k q hk => by
    have h1 : (ws'.map Prod.fst)[k]? = some q.1 := by rw [List.getElem?_map, hk]; rfl
    rw [he, List.getElem?_map] at h1
    cases h2 : ws[k]? with
    | none => rw [h2] at h1; cases h1
    | some z => rw [h2] at h1; exact ⟨z, rfl, Option.some.inj h1⟩
  refine ⟨fun i j p q hi hj hpq => ?_, fun k q hk => ?_⟩
  · obtain ⟨p2, h1, h2⟩ := key i p hi
    obtain ⟨q2, h3, h4⟩ := key j q hj
    exact h.1 i j p2 q2 h1 h3 (by rw [h2, h4, hpq])
  · obtain ⟨q2, h1, h2⟩ := key k q hk
    exact h2 ▸ hB _ (h.2 k q2 h1)
end LWS
