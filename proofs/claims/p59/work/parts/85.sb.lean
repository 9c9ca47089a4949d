/-! Worlds as lists: contracts over some cells, calls that leave the rest as it is; what stays beside them. -/
/-- the addresses of a world -/
def ZW (w : va_W) : Nat → Prop := fun q => ∃ (k : Nat) (x : Nat × va_E), w[k]? = some x ∧ x.1 = q
/-- what a method may stand on beside its world -/
def NOk (N : (Nat → Prop) → State → Prop) : Prop := (∀ (Z : Nat → Prop) (U : State), N Z U → N (zz_A Z U.heap.size) U) ∧ (∀ (Z Y : Nat → Prop) (U : State), (∀ q, Y q → Z q) → N Z U → N Y U) ∧ (∀ (Z : Nat → Prop) (s U : State) (locs : List Loc), s.WarmedH U.vm → va_S Z s.heap U.heap locs → N Z s → N Z U) ∧ (∀ (Z : Nat → Prop) (U : State) (g : JFrame) (mk : MethodId) (a : Array Value), N Z U → N Z (U.calling g mk a))
/-- strings are kept as bytes -/
def COx (Z : Nat → Prop) (U : State) : Prop := va_Z "java/lang/String" "COMPACT_STRINGS" "Z" (.int 1) Z U U.heap
/-- a string that stays: where, its bytes -/
def STx (a v n : Nat) (f : Nat → Int32) (Z : Nat → Prop) (U : State) : Prop := (va_O "java/lang/String" a Z U U.heap ∧ va_OF "java/lang/String" "coder" "B" (.int 0) a Z U U.heap ∧ va_OF "java/lang/String" "value" "[B" (.ref v) a Z U U.heap ∧ va_T .byte v n (fun j => .int (f j)) Z U U.heap) ∧ COx Z U
def SSx (a v n : Nat) (f : Nat → Int32) (Z : Nat → Prop) (U : State) : Prop := STx a v n f Z U ∧ SIx Z U
def DCx (t1 t2 : Nat) (Z : Nat → Prop) (U : State) : Prop := DGx t1 t2 Z U ∧ COx Z U
def NNx (_ : Nat → Prop) (_ : State) : Prop := True
theorem NNx_ok : NOk NNx := ⟨fun _ _ _ => trivial, fun _ _ _ _ _ => trivial, fun _ _ _ _ _ _ _ => trivial, fun _ _ _ _ _ _ => trivial⟩
theorem COx_ok : NOk COx := ⟨fun _ _ h => va_Z.at h, fun _ _ _ hz h => va_Z.narrow h hz, fun _ _ _ _ hW hS h => va_Z.moved hW.alike (va_Z.kept h hS.2.1), fun _ U g mk a h => va_Z.moved (u := U) (U := U.calling g mk a) (Vm.Alike.refl U.vm) h⟩
theorem SIx_ok : NOk SIx := ⟨fun _ _ h => h.at, fun _ _ _ hz h => h.narrow hz, fun _ _ _ _ hW hS h => h.moved hW.alike hS, fun _ _ _ _ _ h => h.calling⟩
theorem DGx_ok {t1 t2 : Nat} : NOk (DGx t1 t2) := ⟨fun _ _ h => h.at, fun _ _ _ hz h => h.narrow hz, fun _ _ _ _ hW hS h => h.moved hW.alike hS, fun _ _ _ _ _ h => h.calling⟩
theorem NOk.and {N1 N2 : (Nat → Prop) → State → Prop} (h1 : NOk N1) (h2 : NOk N2) : NOk (fun Z U => N1 Z U ∧ N2 Z U) := ⟨fun Z U h => ⟨h1.1 Z U h.1, h2.1 Z U h.2⟩, fun Z Y U hz h => ⟨h1.2.1 Z Y U hz h.1, h2.2.1 Z Y U hz h.2⟩, fun Z s U L hW hS h => ⟨h1.2.2.1 Z s U L hW hS h.1, h2.2.2.1 Z s U L hW hS h.2⟩, fun Z U g mk a h => ⟨h1.2.2.2 Z U g mk a h.1, h2.2.2.2 Z U g mk a h.2⟩⟩
theorem STx_ok {a v n : Nat} {f : Nat → Int32} : NOk (STx a v n f) := by
  have h1 : NOk (fun Z U => va_O "java/lang/String" a Z U U.heap ∧ va_OF "java/lang/String" "coder" "B" (.int 0) a Z U U.heap ∧ va_OF "java/lang/String" "value" "[B" (.ref v) a Z U U.heap ∧ va_T .byte v n (fun j => .int (f j)) Z U U.heap) :=
    ⟨fun _ _ h => ⟨h.1.at, h.2.1.at, h.2.2.1.at, h.2.2.2.at⟩, fun _ _ _ hz h => ⟨h.1.narrow hz, h.2.1.narrow hz, h.2.2.1.narrow hz, h.2.2.2.narrow hz⟩, fun _ _ _ _ hW hS h => ⟨va_O.moved hW.alike (h.1.kept hS.2.1), va_OF.moved hW.alike (h.2.1.kept hS.2.1), va_OF.moved hW.alike (h.2.2.1.kept hS.2.1), va_T.moved hW.alike (h.2.2.2.kept hS.2.1)⟩,
     fun _ U g mk b h => ⟨va_O.moved (u := U) (U := U.calling g mk b) (Vm.Alike.refl U.vm) h.1, va_OF.moved (u := U) (U := U.calling g mk b) (Vm.Alike.refl U.vm) h.2.1, va_OF.moved (u := U) (U := U.calling g mk b) (Vm.Alike.refl U.vm) h.2.2.1, va_T.moved (u := U) (U := U.calling g mk b) (Vm.Alike.refl U.vm) h.2.2.2⟩⟩
  exact h1.and COx_ok
theorem SSx_ok {a v n : Nat} {f : Nat → Int32} : NOk (SSx a v n f) := STx_ok.and SIx_ok
theorem DCx_ok {t1 t2 : Nat} : NOk (DCx t1 t2) := DGx_ok.and COx_ok
theorem STx_of {L : Nat} {len : List Nat} {byt : List (List Int32)} {aK aV : Nat → Nat} {Z : Nat → Prop} {U : State} (h : vk_S L len byt aK aV Z U U.heap) (hc : COx Z U) {i : Nat} (hi : i < L) : STx (aK i) (aV i) (len.getD i 0) (fun j => (byt.getD i []).getD j 0) Z U := ⟨h.1 i hi, hc⟩
section SLS
variable {p : Program} {l : Launch} {e : Env} {R : Room} {s : State} {m : MethodId} {args : Array Value} {below : List Frame} {meth : Method} {c : Code} {cells slots : Nat} {Q : State → Prop} {n : Nat} {lv lv' : List (Nat × Value)} {st st0 : List Value} {cc : ByteArray} {Ts : List Cond} {own : String} {D : va_G} {C : Nat → ClassId} {A : Nat → Prop} {P : Heap → Prop} {ws : va_W} {N : (Nat → Prop) → State → Prop} {mc ms : Nat}
theorem D_right {k0 : Nat} {w1 w2 : va_W} (h : va_D A (w1 ++ w2)) : va_D (zz_A (ZW w2) k0) w2 := by
  have key : ∀ (k : Nat) (q : Nat × va_E), w2[k]? = some q → (w1 ++ w2)[w1.length + k]? = some q := fun k q hk => by rw [List.getElem?_append_right (Nat.le_add_right _ _), Nat.add_sub_cancel_left]; exact hk
  exact ⟨fun i j p q hi hj hpq => by have := h.1 _ _ p q (key i p hi) (key j q hj) hpq; omega, fun k q hk => Or.inl ⟨k, q, hk, rfl⟩⟩

theorem zz_acn (pc : Nat) (hc : p.tables.exec = Jvm.exec ∧ c.code = cc) (hd : decode cc pc = .ok (.aconst_null, 1)) (k : ZZ p l e R s m args below meth c cells slots Q A P n lv (.null :: st) (pc + 1)) : ZZ p l e R s m args below meth c cells slots Q A P n lv st pc := fun H locs ls hP hS hl => lv_null hc.1 hc.2 hd (k H locs ls hP hS hl)
theorem zz_ifnn (pc tgt : Nat) (hc : p.tables.exec = Jvm.exec ∧ c.code = cc) {x : Nat} {off : Int} (hd : decode cc pc = .ok (.ifnonnull off, 3)) (ht : (pc : Int) + off = (tgt : Int)) (k : ZZ p l e R s m args below meth c cells slots Q A P n lv st tgt) : ZZ p l e R s m args below meth c cells slots Q A P n lv (.ref x :: st) pc := fun H locs ls hP hS hl => lv_ifnonnull hc.1 hc.2 hd ht (k H locs ls hP hS hl)
theorem zz_dup_x1 (pc : Nat) (hc : p.tables.exec = Jvm.exec ∧ c.code = cc) {va vb : Value} (hd : decode cc pc = .ok (.dup_x1, 1)) (hva : va.category = 1) (hvb : vb.category = 1) (k : ZZ p l e R s m args below meth c cells slots Q A P n lv (va :: vb :: va :: st) (pc + 1)) : ZZ p l e R s m args below meth c cells slots Q A P n lv (va :: vb :: st) pc := fun H locs ls hP hS hl => lv_dup_x1 hc.1 hc.2 hd hva hvb (k H locs ls hP hS hl)

theorem ZW_in {R0 w0 : va_W} (h : va_D A (R0 ++ w0)) {q : Nat} (hq : ZW w0 q) : A q := by
  obtain ⟨k, x, hk, rfl⟩ := hq
  exact h.2 (R0.length + k) x (by rw [List.getElem?_append_right (Nat.le_add_right _ _), Nat.add_sub_cancel_left]; exact hk)
theorem ZW_not {R0 w0 : va_W} (h : va_D A (R0 ++ w0)) {k : Nat} {x : Nat × va_E} (hx : R0[k]? = some x) : ¬ ZW w0 x.1 := by
  rintro ⟨j, y, hy, hyx⟩
  have hk : k < R0.length := (List.getElem?_eq_some_iff.mp hx).1
  have := h.1 k (R0.length + j) x y (by rw [List.getElem?_append_left hk]; exact hx) (by rw [List.getElem?_append_right (Nat.le_add_right _ _), Nat.add_sub_cancel_left]; exact hy) hyx.symm
  omega
theorem zl_sub {pc0 : Nat} {ws' : va_W} (is : List Nat) (hs : is.filterMap (fun i => ws[i]?) = ws') (hn : va_nd is = true) (hs2 : is.map (fun i => ws[i]?) = ws'.map some) (k : ZZ p l e R s m args below meth c cells slots Q A (LPw A D ws') n lv st pc0) : ZZ p l e R s m args below meth c cells slots Q A (LPw A D ws) n lv st pc0 := zz_world (fun H h => ⟨h.1.sub is hs, h.2.sub is hn hs2⟩) k
theorem zl_getS (pc : Nat) (X : CCx p s m args c cc Ts own D C) {Cn ref : String} {T : u_T} {N0 ci : Nat} (hin : ∀ w ∈ u_ws Cn T N0, w ∈ Ts) (hc : vwCl[ci]? = some (Cn, T, N0)) (q0 : Nat) {a : Nat} {fs : List Value} (he : ws[q0]? = some (a, .inr (ci, fs))) (k : Nat) (hk : k < N0) {index : Nat} (hlk : Cond.fieldLink own index ref (T k).2.1 (T k).2.2.1 ∈ Ts) (hsm : (T k).1 = ref) {v : Value} (hv : fs[k]? = some v) (hd : decode cc pc = .ok (.getfield index, 3))
  (kk : ZZ p l e R s m args below meth c cells slots Q A (LPw A D ws) n lv (v :: st) (pc + 3)) : ZZ p l e R s m args below meth c cells slots Q A (LPw A D ws) n lv (.ref a :: st) pc := fun H locs ls hP hS hl =>
  va_get (C := Cn) (T := T) (N := N0) (ref := ref) X.1.1 X.1.2 X.2.1 hin X.2.2.1 X.2.2.2 hP.1 q0 he hc k hk (X.2.1 _ hlk) (fun z h => by rw [hsm] at h; exact h) hv hd (kk H locs ls hP hS hl)
theorem zl_putS (pc : Nat) (X : CCx p s m args c cc Ts own D C) {Cn ref : String} {T : u_T} {N0 ci a : Nat} {v : Value} {ty : FieldType} (hin : ∀ w ∈ u_ws Cn T N0, w ∈ Ts) (ty0 : Nat → FieldType) (hty : ∀ k, k < N0 → parseFieldDescriptor (T k).2.2.1 = some (ty0 k)) (hnm : ∀ a, a < N0 → ∀ b, b < N0 → a ≠ b → (T a).2.1 ≠ (T b).2.1) (hc : vwCl[ci]? = some (Cn, T, N0)) (q0 : Nat) {fs : List Value} (he : ws[q0]? = some (a, .inr (ci, fs))) (k : Nat) (hk : k < N0) {index : Nat} (hlk : Cond.fieldLink own index ref (T k).2.1 (T k).2.2.1 ∈ Ts) (hsm : (T k).1 = ref) (hfin : (T k).2.2.2 = false) (hdd : parseFieldDescriptor (T k).2.2.1 = some ty) (hn : narrow ty v = v) (hfit : fits ty v = true) (hl2 : k < fs.length) (hd : decode cc pc = .ok (.putfield index, 3))
  (kk : ZZ p l e R s m args below meth c cells slots Q A (LPw A D (ws.set q0 (a, .inr (ci, fs.set k v)))) n lv st (pc + 3)) : ZZ p l e R s m args below meth c cells slots Q A (LPw A D ws) n lv (v :: .ref a :: st) pc := fun H locs ls hP hS hl =>
  va_put (C := Cn) (T := T) (N := N0) (ref := ref) X.1.1 X.1.2 X.2.1 hin ty0 hty hnm X.2.2.1 X.2.2.2 hP.1 hP.2 hS q0 he hc k hk (X.2.1 _ hlk) (fun z h => by rw [hsm] at h; exact h) hfin hdd hn hfit hl2 hd (fun H1 locs1 hP1 hD1 hS1 => kk H1 locs1 ls ⟨hP1, hD1⟩ hS1 hl)
theorem zl_alen (pc : Nat) (X : CCx p s m args c cc Ts own D C) (q0 : Nat) {a N' : Nat} {f : Nat → Int32} (he : ws[q0]? = some (a, .inl (C 6, N', .inl f))) (hd : decode cc pc = .ok (.arraylength, 1)) (kk : ZZ p l e R s m args below meth c cells slots Q A (LPw A D ws) n lv (.int (nI N') :: st) (pc + 1)) : ZZ p l e R s m args below meth c cells slots Q A (LPw A D ws) n lv (.ref a :: st) pc := fun H locs ls hP hS hl =>
  va_alen X.1.1 X.1.2 X.2.2.2 hP.1 q0 6 he rfl rfl hd (kk H locs ls hP hS hl)
theorem zl_bast (pc : Nat) (X : CCx p s m args c cc Ts own D C) (q0 : Nat) {a N' i : Nat} {x : Int32} {f : Nat → Int32} (he : ws[q0]? = some (a, .inl (C 6, N', .inl f))) (hi : i < N') (hN : N' < 2 ^ 31) {y : Int32} (hy : vp_nar .byte x = y) (hd : decode cc pc = .ok (.bastore, 1))
  (kk : ZZ p l e R s m args below meth c cells slots Q A (LPw A D (ws.set q0 (a, .inl (C 6, N', .inl (upd f i y))))) n lv st (pc + 1)) : ZZ p l e R s m args below meth c cells slots Q A (LPw A D ws) n lv (.int x :: .int (nI i) :: .ref a :: st) pc := fun H locs ls hP hS hl =>
  va_bast X.1.1 X.1.2 X.2.2.2 hP.1 hP.2 hS q0 6 he rfl (vp_in_nI hi hN) hd (fun H1 locs1 hP1 hD1 hS1 => kk H1 locs1 ls (by rw [nI_clamp (Nat.lt_trans hi hN), hy] at hP1 hD1; exact ⟨hP1, hD1⟩) hS1 hl)
theorem zs_getsG (pc : Nat) (hc : p.tables.exec = Jvm.exec ∧ c.code = cc) {Cn nm d : String} {index : Nat} {v : Value} (hown : s.vm.findClass own = some m.cls) (hZ : va_Z Cn nm d v A s s.heap) (hlink : (Cond.fieldLink own index Cn nm d).before args s = true) (hd : decode cc pc = .ok (.getstatic index, 3)) (kk : ZZ p l e R s m args below meth c cells slots Q A P n lv (v :: st) (pc + 3)) : ZZ p l e R s m args below meth c cells slots Q A P n lv st pc := fun H locs ls hP hS hl => va_gets hc.1 hc.2 hZ hS hown hlink (fun _ h => h) hd (kk H locs ls hP hS hl)
theorem zl_copy (pc : Nat) (X : CCx p s m args c cc Ts own D C) (hml : c.maxLocals = n) (h1 : ∀ w ∈ [Cond.native arraycopyName, Cond.static arraycopyName, Cond.initialized "java/lang/System"], w ∈ Ts) {index : Nat} (hlk : Cond.methodLink own index arraycopyName ∈ Ts) (q0 q1 : Nat) {a0 a n0 n1 sp dp k : Nat} {f g : Nat → Int32} (he0 : ws[q0]? = some (a0, .inl (C 6, n0, .inl f))) (he1 : ws[q1]? = some (a, .inl (C 6, n1, .inl g))) (hb : sp < 2 ^ 31 ∧ dp < 2 ^ 31 ∧ k < 2 ^ 31) (h4 : sp + k ≤ n0) (h5 : dp + k ≤ n1) (hfit : ∀ i, i < k → fits .byte (.int (f (sp + i))) = true) (hR : 1 ≤ R.frames ∧ (st.map fun v => v.category).sum + (nativeFrameWords "java/lang/System" "arraycopy" 5 + 11) ≤ R.locals) (hd : decode cc pc = .ok (.invokestatic index, 3))
  (kk : ZZ p l e R s m args below meth c cells slots Q A (LPw A D (ws.set q1 (a, .inl (C 6, n1, .inl (va_cpy f g sp dp k))))) n lv st (pc + 3)) : ZZ p l e R s m args below meth c cells slots Q A (LPw A D ws) n lv (.int (nI k) :: .int (nI dp) :: .ref a :: .int (nI sp) :: .ref a0 :: st) pc := fun H locs ls hP hS hl => by
  have nn : ∀ z, z < 2 ^ 31 → ¬ nI z < 0 := fun z hz h => by
    have h2 := Int32.lt_iff_toInt_lt.mp h
    rw [nI_toInt hz] at h2
    have e0 : (0 : Int32).toInt = 0 := rfl
    omega
  refine va_copyi X.1.1 X.1.2 (hml.trans hl.1.symm) X.2.2.1 (X.2.1 _ hlk) (X.2.1 _ (h1 _ (by simp))) (X.2.1 _ (h1 _ (by simp))) (X.2.1 _ (h1 _ (by simp))) X.2.2.2 hP.1 hP.2 hS q0 q1 6 6 he0 he1 rfl rfl rfl (nn sp hb.1) (nn dp hb.2.1) (nn k hb.2.2) ?_ ?_ ?_ hR.1 hR.2 hd (fun H1 locs1 hP1 hD1 hS1 => ?_)
  · rw [nI_clamp hb.1, nI_clamp hb.2.2]; exact h4
  · rw [nI_clamp hb.2.1, nI_clamp hb.2.2]; exact h5
  · rw [nI_clamp hb.1, nI_clamp hb.2.2]; exact hfit
  · rw [nI_clamp hb.1, nI_clamp hb.2.1, nI_clamp hb.2.2] at hP1 hD1
    exact kk H1 locs1 ls ⟨hP1, hD1⟩ hS1 hl
theorem zl_copyt (pc : Nat) (X : CCx p s m args c cc Ts own D C) (hml : c.maxLocals = n) (h1 : ∀ w ∈ [Cond.native arraycopyName, Cond.static arraycopyName, Cond.initialized "java/lang/System"], w ∈ Ts) {index : Nat} (hlk : Cond.methodLink own index arraycopyName ∈ Ts) {b0 : Nat} (q1 : Nat) {a n0 n1 sp dp k : Nat} {f g : Nat → Int32} (hT : va_T .byte b0 n0 (fun j => .int (f j)) A s s.heap) (he1 : ws[q1]? = some (a, .inl (C 6, n1, .inl g))) (hb : sp < 2 ^ 31 ∧ dp < 2 ^ 31 ∧ k < 2 ^ 31) (h4 : sp + k ≤ n0) (h5 : dp + k ≤ n1) (hfit : ∀ i, i < k → fits .byte (.int (f (sp + i))) = true) (hR : 1 ≤ R.frames ∧ (st.map fun v => v.category).sum + (nativeFrameWords "java/lang/System" "arraycopy" 5 + 11) ≤ R.locals) (hd : decode cc pc = .ok (.invokestatic index, 3))
  (kk : ZZ p l e R s m args below meth c cells slots Q A (LPw A D (ws.set q1 (a, .inl (C 6, n1, .inl (va_cpy f g sp dp k))))) n lv st (pc + 3)) : ZZ p l e R s m args below meth c cells slots Q A (LPw A D ws) n lv (.int (nI k) :: .int (nI dp) :: .ref a :: .int (nI sp) :: .ref b0 :: st) pc := fun H locs ls hP hS hl => by
  have nn : ∀ z, z < 2 ^ 31 → ¬ nI z < 0 := fun z hz h => by
    have h2 := Int32.lt_iff_toInt_lt.mp h
    rw [nI_toInt hz] at h2
    have e0 : (0 : Int32).toInt = 0 := rfl
    omega
  refine vk_copyt X.1.1 X.1.2 (hml.trans hl.1.symm) X.2.2.1 (X.2.1 _ hlk) (X.2.1 _ (h1 _ (by simp))) (X.2.1 _ (h1 _ (by simp))) (X.2.1 _ (h1 _ (by simp))) X.2.2.2 hP.1 hP.2 hS hT q1 6 he1 rfl (nn sp hb.1) (nn dp hb.2.1) (nn k hb.2.2) ?_ ?_ ?_ hR.1 hR.2 hd (fun H1 locs1 hP1 hD1 hS1 => ?_)
  · rw [nI_clamp hb.1, nI_clamp hb.2.2]; exact h4
  · rw [nI_clamp hb.2.1, nI_clamp hb.2.2]; exact h5
  · rw [nI_clamp hb.1, nI_clamp hb.2.2]; exact hfit
  · rw [nI_clamp hb.1, nI_clamp hb.2.1, nI_clamp hb.2.2] at hP1 hD1
    exact kk H1 locs1 ls ⟨hP1, hD1⟩ hS1 hl
/-- a contract without a world: it stands on what stays -/
def NSi (l : Launch) (y : MethodName) (ws : List Cond) (rm : Room) (N : (Nat → Prop) → State → Prop) (As : List Value) (post : Int32 → Prop) : Prop := ∀ sz : Nat, Met l y ws rm (va_Pc As (zz_E (fun _ U => N (fun _ => False) U) sz)) (va_Qi (fun r (_ : Unit) => post r) (fun _ _ => True) (zz_A (fun _ => False) sz)) 0 0 (zz_A (fun _ => False) sz)
def NSv (l : Launch) (y : MethodName) (ws : List Cond) (rm : Room) (N : (Nat → Prop) → State → Prop) (As : List Value) (post : Prop) : Prop := ∀ sz : Nat, Met l y ws rm (va_Pc As (zz_E (fun _ U => N (fun _ => False) U) sz)) (va_Qv (fun (_ : Unit) => post) (fun _ _ => True) (zz_A (fun _ => False) sz)) 0 0 (zz_A (fun _ => False) sz)
theorem NSi_of {y : MethodName} {ws ws' : List Cond} {rm : Room} {As : List Value} {post : Int32 → Prop} {maxL : Nat} {ret : Option FieldType} (hOk : NOk N) (hw : ws = Cond.code y cc maxL ret :: ws') (hy : plainName y.cls = true) (hn : (lg_sl As).length ≤ maxL) (hlv : lv_args 0 As = lv)
  (body : ∀ (p : Program) (e : Env) (s : State) (m : MethodId) (args : Array Value) (below : List Frame) (meth : Method) (c : Code), (p.tables.exec = Jvm.exec ∧ c.code = cc) → (∀ w ∈ ws, w.before args s = true) → s.vm.findClass y.cls = some m.cls → N (zz_A (fun _ => False) s.heap.size) s → c.maxLocals = maxL → meth.sig.returnType = ret → meth.locks = false → ZZ p l e rm s m args below meth c 0 0 (MQ below (va_Qi (fun r (_ : Unit) => post r) (fun _ _ => True) (zz_A (fun _ => False) s.heap.size)) args s 0 0 (zz_A (fun _ => False) s.heap.size)) (zz_A (fun _ => False) s.heap.size) (fun _ => True) maxL lv [] 0) : NSi l y ws rm N As post := by
  intro sz
  refine Met.ofW (cc := cc) (maxL := maxL) (ret := ret) hy hw ?_
  intro p e s m args below meth c s₁ B hml hv
  obtain ⟨rfl, rfl, hA⟩ := hv
  exact zz_enter (P := fun _ => True) As maxL hn hlv trivial (body p e s m _ below meth c ⟨B.exec, B.bytes⟩ (atoms_spec (ws := ws) B.pre) (findClass_of_methodNamed B.named) (hOk.1 _ _ hA) hml B.returns B.notSynchronized)
theorem zz_callSNi (pc : Nat) {own : String} (hOk : NOk N) (hB : N A s) (hx : CallFix p m c cc n s args Ts own) (hA : ∀ q, s.heap.size ≤ q → A q) (hkeep : ∀ H H1 : Heap, P H → H.size ≤ H1.size → (∀ q : Nat, q < H.size → H1[q]? = H[q]?) → P H1) {y : MethodName} {ws ws' : List Cond} {rm : Room} {As : List Value} {post : Int32 → Prop} {maxL index na : Nat} {ret : Option FieldType} {bytes : ByteArray} (hM : NSi l y ws rm N As post) (g : GoodIn Ts (va_wsS own index y ws)) (hw : ws = Cond.code y bytes maxL ret :: ws') (hr : rm.cells = 0 ∧ rm.slots = 0)
  (hd1 : y.cls ≠ "java/lang/invoke/MethodHandle" ∧ y.cls ≠ "java/lang/invoke/VarHandle" ∧ (parseMethodDescriptor y.desc).map (fun d => d.parameters.length) = some na) (hR : rm.frames + 1 ≤ R.frames ∧ 8 + (maxL + 11) + rm.locals ≤ R.locals) (hn : As.length = na) (hs0 : st0 = As.reverse ++ st) (hwd : (st.map fun v => v.category).sum ≤ 8) (hf : cells ≤ R.cells ∧ slots ≤ R.slots) (hd : decode cc pc = .ok (.invokestatic index, 3)) (kk : ∀ r, post r → ZZ p l e R s m args below meth c cells slots Q A P n lv (.int r :: st) (pc + 3)) : ZZ p l e R s m args below meth c cells slots Q A P n lv st0 pc := by
  subst hs0
  intro H locs ls hP hS hl
  have hF : ∀ q, zz_A (fun _ => False) H.size q → A q := fun q h => h.elim (fun h => h.elim) (fun h => hA q (Nat.le_trans hS.1 h))
  refine va_calli (va_runS hx (hM H.size) (va_cwS na hx.2.2.2.2 g hw hr.1 hr.2 hd1 hR) ⟨fun a U g mk q => ⟨q.1, q.2.1, hOk.2.2.2 _ _ _ _ _ q.2.2⟩, fun U hU hW => ⟨rfl, by rw [hU], hOk.2.1 _ _ _ (fun q h => h.elim) (hOk.2.2.1 _ _ _ locs hW (by rw [hU]; exact hS) hB)⟩⟩ rfl hn hl.1 rfl (lv_room hwd) hd hf) hS (fun q _ h => hF q h) hF (fun r u t H1 locs1 ht hvm hpo hB hz hk hS1 => ?_)
  subst ht
  exact kk r hpo t.heap locs1 ls (hkeep H t.heap hP hz (fun q hq => hk q hq (fun z => z.elim (fun z => z) (fun z => absurd hq (Nat.not_lt.mpr z))))) hS1 hl
theorem NSv_of {y : MethodName} {ws ws' : List Cond} {rm : Room} {As : List Value} {post : Prop} {maxL : Nat} {ret : Option FieldType} (hOk : NOk N) (hw : ws = Cond.code y cc maxL ret :: ws') (hy : plainName y.cls = true) (hn : (lg_sl As).length ≤ maxL) (hlv : lv_args 0 As = lv)
  (body : ∀ (p : Program) (e : Env) (s : State) (m : MethodId) (args : Array Value) (below : List Frame) (meth : Method) (c : Code), (p.tables.exec = Jvm.exec ∧ c.code = cc) → (∀ w ∈ ws, w.before args s = true) → s.vm.findClass y.cls = some m.cls → N (zz_A (fun _ => False) s.heap.size) s → c.maxLocals = maxL → meth.sig.returnType = ret → meth.locks = false → ZZ p l e rm s m args below meth c 0 0 (MQ below (va_Qv (fun (_ : Unit) => post) (fun _ _ => True) (zz_A (fun _ => False) s.heap.size)) args s 0 0 (zz_A (fun _ => False) s.heap.size)) (zz_A (fun _ => False) s.heap.size) (fun _ => True) maxL lv [] 0) : NSv l y ws rm N As post := by
  intro sz
  refine Met.ofW (cc := cc) (maxL := maxL) (ret := ret) hy hw ?_
  intro p e s m args below meth c s₁ B hml hv
  obtain ⟨rfl, rfl, hA⟩ := hv
  exact zz_enter (P := fun _ => True) As maxL hn hlv trivial (body p e s m _ below meth c ⟨B.exec, B.bytes⟩ (atoms_spec (ws := ws) B.pre) (findClass_of_methodNamed B.named) (hOk.1 _ _ hA) hml B.returns B.notSynchronized)
theorem zz_callSNv (pc : Nat) {own : String} (hOk : NOk N) (hB : N A s) (hx : CallFix p m c cc n s args Ts own) (hA : ∀ q, s.heap.size ≤ q → A q) (hkeep : ∀ H H1 : Heap, P H → H.size ≤ H1.size → (∀ q : Nat, q < H.size → H1[q]? = H[q]?) → P H1) {y : MethodName} {ws ws' : List Cond} {rm : Room} {As : List Value} {post : Prop} {maxL index na : Nat} {ret : Option FieldType} {bytes : ByteArray} (hM : NSv l y ws rm N As post) (g : GoodIn Ts (va_wsS own index y ws)) (hw : ws = Cond.code y bytes maxL ret :: ws') (hr : rm.cells = 0 ∧ rm.slots = 0)
  (hd1 : y.cls ≠ "java/lang/invoke/MethodHandle" ∧ y.cls ≠ "java/lang/invoke/VarHandle" ∧ (parseMethodDescriptor y.desc).map (fun d => d.parameters.length) = some na) (hR : rm.frames + 1 ≤ R.frames ∧ 8 + (maxL + 11) + rm.locals ≤ R.locals) (hn : As.length = na) (hs0 : st0 = As.reverse ++ st) (hwd : (st.map fun v => v.category).sum ≤ 8) (hf : cells ≤ R.cells ∧ slots ≤ R.slots) (hd : decode cc pc = .ok (.invokestatic index, 3)) (kk : post → ZZ p l e R s m args below meth c cells slots Q A P n lv st (pc + 3)) : ZZ p l e R s m args below meth c cells slots Q A P n lv st0 pc := by
  subst hs0
  intro H locs ls hP hS hl
  have hF : ∀ q, zz_A (fun _ => False) H.size q → A q := fun q h => h.elim (fun h => h.elim) (fun h => hA q (Nat.le_trans hS.1 h))
  refine va_callv (va_runS hx (hM H.size) (va_cwS na hx.2.2.2.2 g hw hr.1 hr.2 hd1 hR) ⟨fun a U g mk q => ⟨q.1, q.2.1, hOk.2.2.2 _ _ _ _ _ q.2.2⟩, fun U hU hW => ⟨rfl, by rw [hU], hOk.2.1 _ _ _ (fun q h => h.elim) (hOk.2.2.1 _ _ _ locs hW (by rw [hU]; exact hS) hB)⟩⟩ rfl hn hl.1 rfl (lv_room hwd) hd hf) hS (fun q _ h => hF q h) hF (fun u t H1 locs1 ht hvm hpo hB hz hk hS1 => ?_)
  subst ht
  exact kk hpo t.heap locs1 ls (hkeep H t.heap hP hz (fun q hq => hk q hq (fun z => z.elim (fun z => z) (fun z => absurd hq (Nat.not_lt.mpr z))))) hS1 hl
theorem zz_callVNi (pc : Nat) {own : String} (hOk : NOk N) (hB : N A s) (hx : CallFix p m c cc n s args Ts own) (hA : ∀ q, s.heap.size ≤ q → A q) (hkeep : ∀ H H1 : Heap, P H → H.size ≤ H1.size → (∀ q : Nat, q < H.size → H1[q]? = H[q]?) → P H1) {y : MethodName} {ws ws' : List Cond} {rm : Room} {b : Nat} {As : List Value} {post : Int32 → Prop} {maxL index na : Nat} {ret : Option FieldType} {bytes : ByteArray} {Cn : String} (hM : NSi l y ws rm N (.ref b :: As) post) (hO : va_O Cn b A s s.heap) (g : GoodIn Ts (wsV own index Cn y ws)) (hw : ws = Cond.code y bytes maxL ret :: ws') (hr : rm.cells = 0 ∧ rm.slots = 0)
  (hd1 : y.cls = Cn ∧ y.cls ≠ "java/lang/invoke/MethodHandle" ∧ y.cls ≠ "java/lang/invoke/VarHandle" ∧ (parseMethodDescriptor y.desc).map (fun d => d.parameters.length) = some na) (hR : rm.frames + 1 ≤ R.frames ∧ 8 + (maxL + 11) + rm.locals ≤ R.locals) (hn : As.length = na) (hs0 : st0 = As.reverse ++ .ref b :: st) (hwd : (st.map fun v => v.category).sum ≤ 8) (hf : cells ≤ R.cells ∧ slots ≤ R.slots) (hd : decode cc pc = .ok (.invokevirtual index, 3)) (kk : ∀ r, post r → ZZ p l e R s m args below meth c cells slots Q A P n lv (.int r :: st) (pc + 3)) : ZZ p l e R s m args below meth c cells slots Q A P n lv st0 pc := by
  subst hs0
  intro H locs ls hP hS hl
  have hF : ∀ q, zz_A (fun _ => False) H.size q → A q := fun q h => h.elim (fun h => h.elim) (fun h => hA q (Nat.le_trans hS.1 h))
  refine va_calli (va_runV hx (hM H.size) (cwV na hx.2.2.2.2 g hw hr.1 hr.2 hd1 hR) ⟨fun a U g mk q => ⟨q.1, q.2.1, hOk.2.2.2 _ _ _ _ _ q.2.2⟩, (by obtain ⟨cell, h1, h2, h3, -⟩ := hO.kept hS.2.1; exact ⟨cell, h1, h2, h3⟩), fun U hU hW => ⟨rfl, by rw [hU], hOk.2.1 _ _ _ (fun q h => h.elim) (hOk.2.2.1 _ _ _ locs hW (by rw [hU]; exact hS) hB)⟩⟩ rfl hn hl.1 rfl (lv_room hwd) hd hf) hS (fun q _ h => hF q h) hF (fun r u t H1 locs1 ht hvm hpo hB hz hk hS1 => ?_)
  subst ht
  exact kk r hpo t.heap locs1 ls (hkeep H t.heap hP hz (fun q hq => hk q hq (fun z => z.elim (fun z => z) (fun z => absurd hq (Nat.not_lt.mpr z))))) hS1 hl
theorem LPw_keep (H H1 : Heap) (h : LPw A D ws H) (_ : H.size ≤ H1.size) (hk : ∀ q : Nat, q < H.size → H1[q]? = H[q]?) : LPw A D ws H1 := ⟨va_P.kept h.1 (fun k z hz => hk z.1 (va_at.lt (h.1 k z hz))), h.2⟩
/-- what a contract over a list asks of its start -/
def SLE (D : va_G) (C : Nat → ClassId) (N : (Nat → Prop) → State → Prop) (w0 : va_W) (sz : Nat) : State → Prop := fun U => LPw (zz_A (ZW w0) sz) D w0 U.heap ∧ va_K D vwCl (TY C) U ∧ N (ZW w0) U
def SLv {σ : Type} (l : Launch) (y : MethodName) (ws : List Cond) (rm : Room) (D : va_G) (C : Nat → ClassId) (N : (Nat → Prop) → State → Prop) (mc ms : Nat) (As : List Value) (w0 : va_W) (wI : σ → va_W) (post : σ → Prop) : Prop := ∀ sz : Nat, Met l y ws rm (va_Pc As (zz_E (SLE D C N w0) sz)) (va_Qv post (fun u t => LPw (zz_A (ZW w0) sz) D (wI u) t.heap) (zz_A (ZW w0) sz)) mc ms (zz_A (ZW w0) sz)
theorem SLv_of {σ : Type} {y : MethodName} {ws ws' : List Cond} {rm : Room} {As : List Value} {w0 : va_W} {wI : σ → va_W} {post : σ → Prop} {maxL : Nat} {ret : Option FieldType} (hOk : NOk N) (hw : ws = Cond.code y cc maxL ret :: ws') (hy : plainName y.cls = true) (hn : (lg_sl As).length ≤ maxL) (hlv : lv_args 0 As = lv)
  (body : ∀ (p : Program) (e : Env) (s : State) (m : MethodId) (args : Array Value) (below : List Frame) (meth : Method) (c : Code), CCx p s m args c cc ws y.cls D C → N (zz_A (ZW w0) s.heap.size) s → meth.name = y.name → c.maxLocals = maxL → meth.sig.returnType = ret → meth.locks = false → ZZ p l e rm s m args below meth c 0 0 (MQ below (va_Qv post (fun u t => LPw (zz_A (ZW w0) s.heap.size) D (wI u) t.heap) (zz_A (ZW w0) s.heap.size)) args s mc ms (zz_A (ZW w0) s.heap.size)) (zz_A (ZW w0) s.heap.size) (LPw (zz_A (ZW w0) s.heap.size) D w0) maxL lv [] 0) : SLv l y ws rm D C N mc ms As w0 wI post := by
  intro sz
  refine Met.ofW (cc := cc) (maxL := maxL) (ret := ret) hy hw ?_
  intro p e s m args below meth c s₁ B hml hv
  obtain ⟨rfl, rfl, hP, hK, hA⟩ := hv
  exact zz_enter As maxL hn hlv hP (body p e s m _ below meth c ⟨⟨B.exec, B.bytes⟩, atoms_spec (ws := ws) B.pre, findClass_of_methodNamed B.named, hK⟩ (hOk.1 _ _ hA) (name_of_methodNamed B.named B.method).1 hml B.returns B.notSynchronized)
theorem sl_afterv {σ : Type} {R0 w0 : va_W} {wI : σ → va_W} {post : σ → Prop} {H : Heap} {locs : List Loc} {ls : Array Slot} {pc : Nat} {args' : Array Value} (hA : ∀ q, s.heap.size ≤ q → A q) (hr : va_Run p l e R s m args below meth c H locs cells slots mc ms (F0 m pc ls st0) st ((va_Qv post (fun u t => LPw (zz_A (ZW w0) H.size) D (wI u) t.heap) (zz_A (ZW w0) H.size)) args') (zz_A (ZW w0) H.size)) (hP : LPw A D (R0 ++ w0) H) (hS : va_S A s.heap H locs) (kk : ∀ (u : σ), post u → ∀ (H1 : Heap) (locs1 : List Loc), LPw A D (R0 ++ wI u) H1 → va_S A s.heap H1 locs1 → W p l e R s m args below meth c H1 locs1 (cells + mc) (slots + ms) Q (F0 m (pc + 3) ls st)) : W p l e R s m args below meth c H locs cells slots Q (F0 m pc ls st0) := by
  have hF : ∀ q, zz_A (ZW w0) H.size q → A q := fun q h => h.elim (fun z => ZW_in hP.2 z) (fun z => hA q (Nat.le_trans hS.1 z))
  have hne : ∀ (k : Nat) (x : Nat × va_E), R0[k]? = some x → x.1 < H.size ∧ ¬ ZW w0 x.1 := fun k x hx => ⟨va_at.lt (P_left hP.1 k x hx), ZW_not hP.2 hx⟩
  refine va_callv hr hS (fun q _ h => hF q h) hF (fun u t H1 locs1 ht hvm hpo hB hz hk hS1 => ?_)
  subst ht
  refine kk u hpo t.heap locs1 ⟨?_, ?_⟩ hS1
  · exact (va_P.kept (P_left hP.1) (fun k q hq => hk q.1 (hne k q hq).1 (fun z => z.elim (hne k q hq).2 (fun z => absurd (hne k q hq).1 (Nat.not_lt.mpr z))))).app hB.1
  · refine va_D.app (D_left hP.2) (hB.2.weaken (fun _ q _ z => hF q.1 z)) (fun i j x y hx hy hxy => ?_)
    have h1 := hne i x hx
    have h2 := hB.2.2 j y hy
    rw [← hxy] at h2
    exact h2.elim h1.2 (fun z => absurd h1.1 (Nat.not_lt.mpr z))
theorem sl_callVv {σ : Type} (pc : Nat) (X : CCx p s m args c cc Ts own D C) (hml : c.maxLocals = n) (hA : ∀ q, s.heap.size ≤ q → A q) (hOk : NOk N) (hN : N A s) {R0 w0 : va_W} {wI : σ → va_W} {post : σ → Prop} {y : MethodName} {ws ws' : List Cond} {rm : Room} {b : Nat} {As : List Value} {maxL index na : Nat} {ret : Option FieldType} {bytes : ByteArray} {Cn : String} (hM : SLv l y ws rm D C N mc ms (.ref b :: As) w0 wI post) (g : GoodIn Ts (wsV own index Cn y ws)) (hw : ws = Cond.code y bytes maxL ret :: ws') (hrm : rm.cells = mc ∧ rm.slots = ms) (hd1 : y.cls = Cn ∧ y.cls ≠ "java/lang/invoke/MethodHandle" ∧ y.cls ≠ "java/lang/invoke/VarHandle" ∧ (parseMethodDescriptor y.desc).map (fun d => d.parameters.length) = some na) (hR : rm.frames + 1 ≤ R.frames ∧ 8 + (maxL + 11) + rm.locals ≤ R.locals)
  (hrecv : ∀ (H : Heap) (locs : List Loc), LPw A D (R0 ++ w0) H → va_S A s.heap H locs → ∃ cellB : Cell, H[b]? = some cellB ∧ cellB.vm.isStatics = false ∧ s.vm.findClass Cn = some cellB.cls) (hn : As.length = na) (hs0 : st0 = As.reverse ++ .ref b :: st) (hwd : (st.map fun v => v.category).sum ≤ 8) (hf : cells + mc ≤ R.cells ∧ slots + ms ≤ R.slots) (hd : decode cc pc = .ok (.invokevirtual index, 3)) (kk : ∀ (u : σ), post u → ZZ p l e R s m args below meth c (cells + mc) (slots + ms) Q A (LPw A D (R0 ++ wI u)) n lv st (pc + 3)) : ZZ p l e R s m args below meth c cells slots Q A (LPw A D (R0 ++ w0)) n lv st0 pc := by
  subst hs0
  intro H locs ls hP hS hl
  exact sl_afterv hA (va_runV ⟨X.1.1, X.1.2, hml, X.2.2.1, X.2.1⟩ (hM H.size) (cwV na X.2.1 g hw hrm.1 hrm.2 hd1 hR) ⟨fun a U g mk q => ⟨q.1, q.2.1, q.2.2.1, va_K.moved (u := U) (U := U.calling g mk a) (Vm.Alike.refl U.vm) q.2.2.2.1, hOk.2.2.2 _ _ _ _ _ q.2.2.2.2⟩, hrecv H locs hP hS, fun U hU hW => ⟨rfl, by rw [hU], by rw [hU]; exact ⟨P_right hP.1, D_right hP.2⟩, va_K.moved hW.alike X.2.2.2, hOk.2.1 _ _ _ (fun q h => ZW_in hP.2 h) (hOk.2.2.1 _ _ _ locs hW (by rw [hU]; exact hS) hN)⟩⟩ rfl hn hl.1 rfl (lv_room hwd) hd hf) hP hS (fun u hu H1 locs1 hP1 hS1 => kk u hu H1 locs1 ls hP1 hS1 hl)
theorem sl_callUv {σ : Type} (pc : Nat) (X : CCx p s m args c cc Ts own D C) (hml : c.maxLocals = n) (hA : ∀ q, s.heap.size ≤ q → A q) (hOk : NOk N) (hN : N A s) {R0 w0 : va_W} {wI : σ → va_W} {post : σ → Prop} {y : MethodName} {ws ws' : List Cond} {rm : Room} {b : Nat} {As : List Value} {maxL index na : Nat} {ret : Option FieldType} {bytes : ByteArray} {Cn owner : String} {yx : MethodName} (hM : SLv l y ws rm D C N mc ms (.ref b :: As) w0 wI post) (g : GoodIn Ts (va_wsU own index Cn owner yx y ws)) (hw : ws = Cond.code y bytes maxL ret :: ws') (hrm : rm.cells = mc ∧ rm.slots = ms) (hyx : y = ⟨owner, yx.name, yx.desc⟩) (hd1 : owner ≠ "java/lang/invoke/MethodHandle" ∧ owner ≠ "java/lang/invoke/VarHandle" ∧ (parseMethodDescriptor yx.desc).map (fun d => d.parameters.length) = some na) (hR : rm.frames + 1 ≤ R.frames ∧ 8 + (maxL + 11) + rm.locals ≤ R.locals)
  (hrecv : ∀ (H : Heap) (locs : List Loc), LPw A D (R0 ++ w0) H → va_S A s.heap H locs → ∃ cellB : Cell, H[b]? = some cellB ∧ cellB.vm.isStatics = false ∧ s.vm.findClass Cn = some cellB.cls) (hn : As.length = na) (hs0 : st0 = As.reverse ++ .ref b :: st) (hwd : (st.map fun v => v.category).sum ≤ 8) (hf : cells + mc ≤ R.cells ∧ slots + ms ≤ R.slots) (hd : decode cc pc = .ok (.invokevirtual index, 3)) (kk : ∀ (u : σ), post u → ZZ p l e R s m args below meth c (cells + mc) (slots + ms) Q A (LPw A D (R0 ++ wI u)) n lv st (pc + 3)) : ZZ p l e R s m args below meth c cells slots Q A (LPw A D (R0 ++ w0)) n lv st0 pc := by
  subst hs0
  intro H locs ls hP hS hl
  exact sl_afterv hA (va_runU ⟨X.1.1, X.1.2, hml, X.2.2.1, X.2.1⟩ (hM H.size) (va_cwU na X.2.1 g hw hrm.1 hrm.2 hyx hd1 hR) ⟨fun a U g mk q => ⟨q.1, q.2.1, q.2.2.1, va_K.moved (u := U) (U := U.calling g mk a) (Vm.Alike.refl U.vm) q.2.2.2.1, hOk.2.2.2 _ _ _ _ _ q.2.2.2.2⟩, hrecv H locs hP hS, fun U hU hW => ⟨rfl, by rw [hU], by rw [hU]; exact ⟨P_right hP.1, D_right hP.2⟩, va_K.moved hW.alike X.2.2.2, hOk.2.1 _ _ _ (fun q h => ZW_in hP.2 h) (hOk.2.2.1 _ _ _ locs hW (by rw [hU]; exact hS) hN)⟩⟩ rfl hn hl.1 rfl (lv_room hwd) hd hf) hP hS (fun u hu H1 locs1 hP1 hS1 => kk u hu H1 locs1 ls hP1 hS1 hl)
theorem sl_callSv {σ : Type} (pc : Nat) (X : CCx p s m args c cc Ts own D C) (hml : c.maxLocals = n) (hA : ∀ q, s.heap.size ≤ q → A q) (hOk : NOk N) (hN : N A s) {R0 w0 : va_W} {wI : σ → va_W} {post : σ → Prop} {y : MethodName} {ws ws' : List Cond} {rm : Room} {As : List Value} {maxL index na : Nat} {ret : Option FieldType} {bytes : ByteArray}  (hM : SLv l y ws rm D C N mc ms As w0 wI post) (g : GoodIn Ts (va_wsS own index y ws)) (hw : ws = Cond.code y bytes maxL ret :: ws') (hrm : rm.cells = mc ∧ rm.slots = ms) (hd1 : y.cls ≠ "java/lang/invoke/MethodHandle" ∧ y.cls ≠ "java/lang/invoke/VarHandle" ∧ (parseMethodDescriptor y.desc).map (fun d => d.parameters.length) = some na) (hR : rm.frames + 1 ≤ R.frames ∧ 8 + (maxL + 11) + rm.locals ≤ R.locals)
  (hn : As.length = na) (hs0 : st0 = As.reverse ++ st) (hwd : (st.map fun v => v.category).sum ≤ 8) (hf : cells + mc ≤ R.cells ∧ slots + ms ≤ R.slots) (hd : decode cc pc = .ok (.invokestatic index, 3)) (kk : ∀ (u : σ), post u → ZZ p l e R s m args below meth c (cells + mc) (slots + ms) Q A (LPw A D (R0 ++ wI u)) n lv st (pc + 3)) : ZZ p l e R s m args below meth c cells slots Q A (LPw A D (R0 ++ w0)) n lv st0 pc := by
  subst hs0
  intro H locs ls hP hS hl
  exact sl_afterv hA (va_runS ⟨X.1.1, X.1.2, hml, X.2.2.1, X.2.1⟩ (hM H.size) (va_cwS na X.2.1 g hw hrm.1 hrm.2 hd1 hR) ⟨fun a U g mk q => ⟨q.1, q.2.1, q.2.2.1, va_K.moved (u := U) (U := U.calling g mk a) (Vm.Alike.refl U.vm) q.2.2.2.1, hOk.2.2.2 _ _ _ _ _ q.2.2.2.2⟩, fun U hU hW => ⟨rfl, by rw [hU], by rw [hU]; exact ⟨P_right hP.1, D_right hP.2⟩, va_K.moved hW.alike X.2.2.2, hOk.2.1 _ _ _ (fun q h => ZW_in hP.2 h) (hOk.2.2.1 _ _ _ locs hW (by rw [hU]; exact hS) hN)⟩⟩ rfl hn hl.1 rfl (lv_room hwd) hd hf) hP hS (fun u hu H1 locs1 hP1 hS1 => kk u hu H1 locs1 ls hP1 hS1 hl)
theorem sl_callIv {σ : Type} (pc : Nat) (X : CCx p s m args c cc Ts own D C) (hml : c.maxLocals = n) (hA : ∀ q, s.heap.size ≤ q → A q) (hOk : NOk N) (hN : N A s) {R0 w0 : va_W} {wI : σ → va_W} {post : σ → Prop} {y : MethodName} {ws : List Cond} {rm : Room} {b : Nat} {As : List Value} {maxL index na : Nat} {bytes : ByteArray}  (hM : SLv l y ws rm D C N mc ms (.ref b :: As) w0 wI post) (cw : CallB R s args own index y bytes maxL none ws rm mc ms na ∧ y.name = "<init>" ∧ (Cond.instanceMethod y).before args s = true)
  (hn : As.length = na) (hs0 : st0 = As.reverse ++ .ref b :: st) (hwd : (st.map fun v => v.category).sum ≤ 8) (hf : cells + mc ≤ R.cells ∧ slots + ms ≤ R.slots) (hd : decode cc pc = .ok (.invokespecial index, 3)) (kk : ∀ (u : σ), post u → ZZ p l e R s m args below meth c (cells + mc) (slots + ms) Q A (LPw A D (R0 ++ wI u)) n lv st (pc + 3)) : ZZ p l e R s m args below meth c cells slots Q A (LPw A D (R0 ++ w0)) n lv st0 pc := by
  subst hs0
  intro H locs ls hP hS hl
  exact sl_afterv hA (va_runI ⟨X.1.1, X.1.2, hml, X.2.2.1, X.2.1⟩ (hM H.size) cw ⟨fun a U g mk q => ⟨q.1, q.2.1, q.2.2.1, va_K.moved (u := U) (U := U.calling g mk a) (Vm.Alike.refl U.vm) q.2.2.2.1, hOk.2.2.2 _ _ _ _ _ q.2.2.2.2⟩, fun U hU hW => ⟨rfl, by rw [hU], by rw [hU]; exact ⟨P_right hP.1, D_right hP.2⟩, va_K.moved hW.alike X.2.2.2, hOk.2.1 _ _ _ (fun q h => ZW_in hP.2 h) (hOk.2.2.1 _ _ _ locs hW (by rw [hU]; exact hS) hN)⟩⟩ rfl hn hl.1 rfl (lv_room hwd) hd hf) hP hS (fun u hu H1 locs1 hP1 hS1 => kk u hu H1 locs1 ls hP1 hS1 hl)
def SLi {σ : Type} (l : Launch) (y : MethodName) (ws : List Cond) (rm : Room) (D : va_G) (C : Nat → ClassId) (N : (Nat → Prop) → State → Prop) (mc ms : Nat) (As : List Value) (w0 : va_W) (wI : σ → va_W) (post : Int32 → σ → Prop) : Prop := ∀ sz : Nat, Met l y ws rm (va_Pc As (zz_E (SLE D C N w0) sz)) (va_Qi post (fun u t => LPw (zz_A (ZW w0) sz) D (wI u) t.heap) (zz_A (ZW w0) sz)) mc ms (zz_A (ZW w0) sz)
theorem SLi_of {σ : Type} {y : MethodName} {ws ws' : List Cond} {rm : Room} {As : List Value} {w0 : va_W} {wI : σ → va_W} {post : Int32 → σ → Prop} {maxL : Nat} {ret : Option FieldType} (hOk : NOk N) (hw : ws = Cond.code y cc maxL ret :: ws') (hy : plainName y.cls = true) (hn : (lg_sl As).length ≤ maxL) (hlv : lv_args 0 As = lv)
  (body : ∀ (p : Program) (e : Env) (s : State) (m : MethodId) (args : Array Value) (below : List Frame) (meth : Method) (c : Code), CCx p s m args c cc ws y.cls D C → N (zz_A (ZW w0) s.heap.size) s → meth.name = y.name → c.maxLocals = maxL → meth.sig.returnType = ret → meth.locks = false → ZZ p l e rm s m args below meth c 0 0 (MQ below (va_Qi post (fun u t => LPw (zz_A (ZW w0) s.heap.size) D (wI u) t.heap) (zz_A (ZW w0) s.heap.size)) args s mc ms (zz_A (ZW w0) s.heap.size)) (zz_A (ZW w0) s.heap.size) (LPw (zz_A (ZW w0) s.heap.size) D w0) maxL lv [] 0) : SLi l y ws rm D C N mc ms As w0 wI post := by
  intro sz
  refine Met.ofW (cc := cc) (maxL := maxL) (ret := ret) hy hw ?_
  intro p e s m args below meth c s₁ B hml hv
  obtain ⟨rfl, rfl, hP, hK, hA⟩ := hv
  exact zz_enter As maxL hn hlv hP (body p e s m _ below meth c ⟨⟨B.exec, B.bytes⟩, atoms_spec (ws := ws) B.pre, findClass_of_methodNamed B.named, hK⟩ (hOk.1 _ _ hA) (name_of_methodNamed B.named B.method).1 hml B.returns B.notSynchronized)
theorem sl_afteri {σ : Type} {R0 w0 : va_W} {wI : σ → va_W} {post : Int32 → σ → Prop} {H : Heap} {locs : List Loc} {ls : Array Slot} {pc : Nat} {args' : Array Value} (hA : ∀ q, s.heap.size ≤ q → A q) (hr : va_Run p l e R s m args below meth c H locs cells slots mc ms (F0 m pc ls st0) st ((va_Qi post (fun u t => LPw (zz_A (ZW w0) H.size) D (wI u) t.heap) (zz_A (ZW w0) H.size)) args') (zz_A (ZW w0) H.size)) (hP : LPw A D (R0 ++ w0) H) (hS : va_S A s.heap H locs) (kk : ∀ (r : Int32) (u : σ), post r u → ∀ (H1 : Heap) (locs1 : List Loc), LPw A D (R0 ++ wI u) H1 → va_S A s.heap H1 locs1 → W p l e R s m args below meth c H1 locs1 (cells + mc) (slots + ms) Q (F0 m (pc + 3) ls (.int r :: st))) : W p l e R s m args below meth c H locs cells slots Q (F0 m pc ls st0) := by
  have hF : ∀ q, zz_A (ZW w0) H.size q → A q := fun q h => h.elim (fun z => ZW_in hP.2 z) (fun z => hA q (Nat.le_trans hS.1 z))
  have hne : ∀ (k : Nat) (x : Nat × va_E), R0[k]? = some x → x.1 < H.size ∧ ¬ ZW w0 x.1 := fun k x hx => ⟨va_at.lt (P_left hP.1 k x hx), ZW_not hP.2 hx⟩
  refine va_calli hr hS (fun q _ h => hF q h) hF (fun r u t H1 locs1 ht hvm hpo hB hz hk hS1 => ?_)
  subst ht
  refine kk r u hpo t.heap locs1 ⟨?_, ?_⟩ hS1
  · exact (va_P.kept (P_left hP.1) (fun k q hq => hk q.1 (hne k q hq).1 (fun z => z.elim (hne k q hq).2 (fun z => absurd (hne k q hq).1 (Nat.not_lt.mpr z))))).app hB.1
  · refine va_D.app (D_left hP.2) (hB.2.weaken (fun _ q _ z => hF q.1 z)) (fun i j x y hx hy hxy => ?_)
    have h1 := hne i x hx
    have h2 := hB.2.2 j y hy
    rw [← hxy] at h2
    exact h2.elim h1.2 (fun z => absurd h1.1 (Nat.not_lt.mpr z))
theorem sl_callVi {σ : Type} (pc : Nat) (X : CCx p s m args c cc Ts own D C) (hml : c.maxLocals = n) (hA : ∀ q, s.heap.size ≤ q → A q) (hOk : NOk N) (hN : N A s) {R0 w0 : va_W} {wI : σ → va_W} {post : Int32 → σ → Prop} {y : MethodName} {ws ws' : List Cond} {rm : Room} {b : Nat} {As : List Value} {maxL index na : Nat} {ret : Option FieldType} {bytes : ByteArray} {Cn : String} (hM : SLi l y ws rm D C N mc ms (.ref b :: As) w0 wI post) (g : GoodIn Ts (wsV own index Cn y ws)) (hw : ws = Cond.code y bytes maxL ret :: ws') (hrm : rm.cells = mc ∧ rm.slots = ms) (hd1 : y.cls = Cn ∧ y.cls ≠ "java/lang/invoke/MethodHandle" ∧ y.cls ≠ "java/lang/invoke/VarHandle" ∧ (parseMethodDescriptor y.desc).map (fun d => d.parameters.length) = some na) (hR : rm.frames + 1 ≤ R.frames ∧ 8 + (maxL + 11) + rm.locals ≤ R.locals)
  (hrecv : ∀ (H : Heap) (locs : List Loc), LPw A D (R0 ++ w0) H → va_S A s.heap H locs → ∃ cellB : Cell, H[b]? = some cellB ∧ cellB.vm.isStatics = false ∧ s.vm.findClass Cn = some cellB.cls) (hn : As.length = na) (hs0 : st0 = As.reverse ++ .ref b :: st) (hwd : (st.map fun v => v.category).sum ≤ 8) (hf : cells + mc ≤ R.cells ∧ slots + ms ≤ R.slots) (hd : decode cc pc = .ok (.invokevirtual index, 3)) (kk : ∀ (r : Int32) (u : σ), post r u → ZZ p l e R s m args below meth c (cells + mc) (slots + ms) Q A (LPw A D (R0 ++ wI u)) n lv (.int r :: st) (pc + 3)) : ZZ p l e R s m args below meth c cells slots Q A (LPw A D (R0 ++ w0)) n lv st0 pc := by
  subst hs0
  intro H locs ls hP hS hl
  exact sl_afteri hA (va_runV ⟨X.1.1, X.1.2, hml, X.2.2.1, X.2.1⟩ (hM H.size) (cwV na X.2.1 g hw hrm.1 hrm.2 hd1 hR) ⟨fun a U g mk q => ⟨q.1, q.2.1, q.2.2.1, va_K.moved (u := U) (U := U.calling g mk a) (Vm.Alike.refl U.vm) q.2.2.2.1, hOk.2.2.2 _ _ _ _ _ q.2.2.2.2⟩, hrecv H locs hP hS, fun U hU hW => ⟨rfl, by rw [hU], by rw [hU]; exact ⟨P_right hP.1, D_right hP.2⟩, va_K.moved hW.alike X.2.2.2, hOk.2.1 _ _ _ (fun q h => ZW_in hP.2 h) (hOk.2.2.1 _ _ _ locs hW (by rw [hU]; exact hS) hN)⟩⟩ rfl hn hl.1 rfl (lv_room hwd) hd hf) hP hS (fun r u hu H1 locs1 hP1 hS1 => kk r u hu H1 locs1 ls hP1 hS1 hl)
theorem sl_callUi {σ : Type} (pc : Nat) (X : CCx p s m args c cc Ts own D C) (hml : c.maxLocals = n) (hA : ∀ q, s.heap.size ≤ q → A q) (hOk : NOk N) (hN : N A s) {R0 w0 : va_W} {wI : σ → va_W} {post : Int32 → σ → Prop} {y : MethodName} {ws ws' : List Cond} {rm : Room} {b : Nat} {As : List Value} {maxL index na : Nat} {ret : Option FieldType} {bytes : ByteArray} {Cn owner : String} {yx : MethodName} (hM : SLi l y ws rm D C N mc ms (.ref b :: As) w0 wI post) (g : GoodIn Ts (va_wsU own index Cn owner yx y ws)) (hw : ws = Cond.code y bytes maxL ret :: ws') (hrm : rm.cells = mc ∧ rm.slots = ms) (hyx : y = ⟨owner, yx.name, yx.desc⟩) (hd1 : owner ≠ "java/lang/invoke/MethodHandle" ∧ owner ≠ "java/lang/invoke/VarHandle" ∧ (parseMethodDescriptor yx.desc).map (fun d => d.parameters.length) = some na) (hR : rm.frames + 1 ≤ R.frames ∧ 8 + (maxL + 11) + rm.locals ≤ R.locals)
  (hrecv : ∀ (H : Heap) (locs : List Loc), LPw A D (R0 ++ w0) H → va_S A s.heap H locs → ∃ cellB : Cell, H[b]? = some cellB ∧ cellB.vm.isStatics = false ∧ s.vm.findClass Cn = some cellB.cls) (hn : As.length = na) (hs0 : st0 = As.reverse ++ .ref b :: st) (hwd : (st.map fun v => v.category).sum ≤ 8) (hf : cells + mc ≤ R.cells ∧ slots + ms ≤ R.slots) (hd : decode cc pc = .ok (.invokevirtual index, 3)) (kk : ∀ (r : Int32) (u : σ), post r u → ZZ p l e R s m args below meth c (cells + mc) (slots + ms) Q A (LPw A D (R0 ++ wI u)) n lv (.int r :: st) (pc + 3)) : ZZ p l e R s m args below meth c cells slots Q A (LPw A D (R0 ++ w0)) n lv st0 pc := by
  subst hs0
  intro H locs ls hP hS hl
  exact sl_afteri hA (va_runU ⟨X.1.1, X.1.2, hml, X.2.2.1, X.2.1⟩ (hM H.size) (va_cwU na X.2.1 g hw hrm.1 hrm.2 hyx hd1 hR) ⟨fun a U g mk q => ⟨q.1, q.2.1, q.2.2.1, va_K.moved (u := U) (U := U.calling g mk a) (Vm.Alike.refl U.vm) q.2.2.2.1, hOk.2.2.2 _ _ _ _ _ q.2.2.2.2⟩, hrecv H locs hP hS, fun U hU hW => ⟨rfl, by rw [hU], by rw [hU]; exact ⟨P_right hP.1, D_right hP.2⟩, va_K.moved hW.alike X.2.2.2, hOk.2.1 _ _ _ (fun q h => ZW_in hP.2 h) (hOk.2.2.1 _ _ _ locs hW (by rw [hU]; exact hS) hN)⟩⟩ rfl hn hl.1 rfl (lv_room hwd) hd hf) hP hS (fun r u hu H1 locs1 hP1 hS1 => kk r u hu H1 locs1 ls hP1 hS1 hl)
theorem sl_callSi {σ : Type} (pc : Nat) (X : CCx p s m args c cc Ts own D C) (hml : c.maxLocals = n) (hA : ∀ q, s.heap.size ≤ q → A q) (hOk : NOk N) (hN : N A s) {R0 w0 : va_W} {wI : σ → va_W} {post : Int32 → σ → Prop} {y : MethodName} {ws ws' : List Cond} {rm : Room} {As : List Value} {maxL index na : Nat} {ret : Option FieldType} {bytes : ByteArray}  (hM : SLi l y ws rm D C N mc ms As w0 wI post) (g : GoodIn Ts (va_wsS own index y ws)) (hw : ws = Cond.code y bytes maxL ret :: ws') (hrm : rm.cells = mc ∧ rm.slots = ms) (hd1 : y.cls ≠ "java/lang/invoke/MethodHandle" ∧ y.cls ≠ "java/lang/invoke/VarHandle" ∧ (parseMethodDescriptor y.desc).map (fun d => d.parameters.length) = some na) (hR : rm.frames + 1 ≤ R.frames ∧ 8 + (maxL + 11) + rm.locals ≤ R.locals)
  (hn : As.length = na) (hs0 : st0 = As.reverse ++ st) (hwd : (st.map fun v => v.category).sum ≤ 8) (hf : cells + mc ≤ R.cells ∧ slots + ms ≤ R.slots) (hd : decode cc pc = .ok (.invokestatic index, 3)) (kk : ∀ (r : Int32) (u : σ), post r u → ZZ p l e R s m args below meth c (cells + mc) (slots + ms) Q A (LPw A D (R0 ++ wI u)) n lv (.int r :: st) (pc + 3)) : ZZ p l e R s m args below meth c cells slots Q A (LPw A D (R0 ++ w0)) n lv st0 pc := by
  subst hs0
  intro H locs ls hP hS hl
  exact sl_afteri hA (va_runS ⟨X.1.1, X.1.2, hml, X.2.2.1, X.2.1⟩ (hM H.size) (va_cwS na X.2.1 g hw hrm.1 hrm.2 hd1 hR) ⟨fun a U g mk q => ⟨q.1, q.2.1, q.2.2.1, va_K.moved (u := U) (U := U.calling g mk a) (Vm.Alike.refl U.vm) q.2.2.2.1, hOk.2.2.2 _ _ _ _ _ q.2.2.2.2⟩, fun U hU hW => ⟨rfl, by rw [hU], by rw [hU]; exact ⟨P_right hP.1, D_right hP.2⟩, va_K.moved hW.alike X.2.2.2, hOk.2.1 _ _ _ (fun q h => ZW_in hP.2 h) (hOk.2.2.1 _ _ _ locs hW (by rw [hU]; exact hS) hN)⟩⟩ rfl hn hl.1 rfl (lv_room hwd) hd hf) hP hS (fun r u hu H1 locs1 hP1 hS1 => kk r u hu H1 locs1 ls hP1 hS1 hl)
theorem sl_callOi {σ : Type} (pc : Nat) (X : CCx p s m args c cc Ts own D C) (hml : c.maxLocals = n) (hA : ∀ q, s.heap.size ≤ q → A q) (hOk : NOk N) (hN : N A s) {R0 w0 : va_W} {wI : σ → va_W} {post : Int32 → σ → Prop} {y : MethodName} {ws ws' : List Cond} {rm : Room} {b : Nat} {As : List Value} {maxL index na : Nat} {ret : Option FieldType} {bytes : ByteArray} {Cn owner : String} {yx : MethodName} {b9 : ByteArray} {m9 : Nat} {r9 : Option FieldType} (hM : SLi l y ws rm D C N mc ms (.ref b :: As) w0 wI post) (g : GoodIn Ts (va_wsO own index Cn owner yx y ws)) (hw : ws = Cond.code y bytes maxL ret :: ws') (hrm : rm.cells = mc ∧ rm.slots = ms) (h0 : Cond.code ⟨owner, yx.name, yx.desc⟩ b9 m9 r9 ∈ Ts) (hd1 : owner ≠ "java/lang/invoke/MethodHandle" ∧ owner ≠ "java/lang/invoke/VarHandle" ∧ (parseMethodDescriptor yx.desc).map (fun d => d.parameters.length) = some na) (hR : rm.frames + 1 ≤ R.frames ∧ 8 + (maxL + 11) + rm.locals ≤ R.locals)
  (hrecv : ∀ (H : Heap) (locs : List Loc), LPw A D (R0 ++ w0) H → va_S A s.heap H locs → ∃ cellB : Cell, H[b]? = some cellB ∧ cellB.vm.isStatics = false ∧ s.vm.findClass Cn = some cellB.cls) (hn : As.length = na) (hs0 : st0 = As.reverse ++ .ref b :: st) (hwd : (st.map fun v => v.category).sum ≤ 8) (hf : cells + mc ≤ R.cells ∧ slots + ms ≤ R.slots) (hd : decode cc pc = .ok (.invokevirtual index, 3)) (kk : ∀ (r : Int32) (u : σ), post r u → ZZ p l e R s m args below meth c (cells + mc) (slots + ms) Q A (LPw A D (R0 ++ wI u)) n lv (.int r :: st) (pc + 3)) : ZZ p l e R s m args below meth c cells slots Q A (LPw A D (R0 ++ w0)) n lv st0 pc := by
  subst hs0
  intro H locs ls hP hS hl
  exact sl_afteri hA (va_runU ⟨X.1.1, X.1.2, hml, X.2.2.1, X.2.1⟩ (hM H.size) (va_cwO na X.2.1 g hw hrm.1 hrm.2 h0 hd1 hR) ⟨fun a U g mk q => ⟨q.1, q.2.1, q.2.2.1, va_K.moved (u := U) (U := U.calling g mk a) (Vm.Alike.refl U.vm) q.2.2.2.1, hOk.2.2.2 _ _ _ _ _ q.2.2.2.2⟩, hrecv H locs hP hS, fun U hU hW => ⟨rfl, by rw [hU], by rw [hU]; exact ⟨P_right hP.1, D_right hP.2⟩, va_K.moved hW.alike X.2.2.2, hOk.2.1 _ _ _ (fun q h => ZW_in hP.2 h) (hOk.2.2.1 _ _ _ locs hW (by rw [hU]; exact hS) hN)⟩⟩ rfl hn hl.1 rfl (lv_room hwd) hd hf) hP hS (fun r u hu H1 locs1 hP1 hS1 => kk r u hu H1 locs1 ls hP1 hS1 hl)
theorem sl_callSUi {σ : Type} (pc : Nat) (X : CCx p s m args c cc Ts own D C) (hml : c.maxLocals = n) (hA : ∀ q, s.heap.size ≤ q → A q) (hOk : NOk N) (hN : N A s) {R0 w0 : va_W} {wI : σ → va_W} {post : Int32 → σ → Prop} {y : MethodName} {ws ws' : List Cond} {rm : Room} {b : Nat} {As : List Value} {maxL index na : Nat} {ret : Option FieldType} {bytes : ByteArray} {Cn : String} {cC : ClassId} (hat : ClassAt s Cn cC) (hM : SLi l y ws rm D C N mc ms (.ref b :: As) w0 wI post) (g : GoodIn Ts (va_wsSU own index y ws)) (hw : ws = Cond.code y bytes maxL ret :: ws') (hrm : rm.cells = mc ∧ rm.slots = ms) (hd1 : y.name ≠ "<init>" ∧ (parseMethodDescriptor y.desc).map (fun d => d.parameters.length) = some na) (hR : rm.frames + 1 ≤ R.frames ∧ 8 + (maxL + 11) + rm.locals ≤ R.locals)
  (hrecv : ∀ (H : Heap) (locs : List Loc), LPw A D (R0 ++ w0) H → va_S A s.heap H locs → ∃ cellB : Cell, H[b]? = some cellB ∧ cellB.vm.isStatics = false ∧ s.vm.findClass Cn = some cellB.cls) (hn : As.length = na) (hs0 : st0 = As.reverse ++ .ref b :: st) (hwd : (st.map fun v => v.category).sum ≤ 8) (hf : cells + mc ≤ R.cells ∧ slots + ms ≤ R.slots) (hd : decode cc pc = .ok (.invokespecial index, 3)) (kk : ∀ (r : Int32) (u : σ), post r u → ZZ p l e R s m args below meth c (cells + mc) (slots + ms) Q A (LPw A D (R0 ++ wI u)) n lv (.int r :: st) (pc + 3)) : ZZ p l e R s m args below meth c cells slots Q A (LPw A D (R0 ++ w0)) n lv st0 pc := by
  subst hs0
  intro H locs ls hP hS hl
  exact sl_afteri hA (va_runSU hat ⟨X.1.1, X.1.2, hml, X.2.2.1, X.2.1⟩ (hM H.size) (va_cwSU na X.2.1 g hw hrm.1 hrm.2 hd1 hR) ⟨fun a U g mk q => ⟨q.1, q.2.1, q.2.2.1, va_K.moved (u := U) (U := U.calling g mk a) (Vm.Alike.refl U.vm) q.2.2.2.1, hOk.2.2.2 _ _ _ _ _ q.2.2.2.2⟩, hrecv H locs hP hS, fun U hU hW => ⟨rfl, by rw [hU], by rw [hU]; exact ⟨P_right hP.1, D_right hP.2⟩, va_K.moved hW.alike X.2.2.2, hOk.2.1 _ _ _ (fun q h => ZW_in hP.2 h) (hOk.2.2.1 _ _ _ locs hW (by rw [hU]; exact hS) hN)⟩⟩ rfl hn hl.1 rfl (lv_room hwd) hd hf) hP hS (fun r u hu H1 locs1 hP1 hS1 => kk r u hu H1 locs1 ls hP1 hS1 hl)
def SLr {σ : Type} (l : Launch) (y : MethodName) (ws : List Cond) (rm : Room) (D : va_G) (C : Nat → ClassId) (N : (Nat → Prop) → State → Prop) (mc ms : Nat) (As : List Value) (w0 : va_W) (wI : σ → va_W) (ra : σ → Nat) (post : σ → Prop) : Prop := ∀ sz : Nat, Met l y ws rm (va_Pc As (zz_E (SLE D C N w0) sz)) (va_Qr post (fun u r t => r = ra u ∧ LPw (zz_A (ZW w0) sz) D (wI u) t.heap) (zz_A (ZW w0) sz)) mc ms (zz_A (ZW w0) sz)
theorem SLr_of {σ : Type} {y : MethodName} {ws ws' : List Cond} {rm : Room} {As : List Value} {w0 : va_W} {wI : σ → va_W} {ra : σ → Nat} {post : σ → Prop} {maxL : Nat} {ret : Option FieldType} (hOk : NOk N) (hw : ws = Cond.code y cc maxL ret :: ws') (hy : plainName y.cls = true) (hn : (lg_sl As).length ≤ maxL) (hlv : lv_args 0 As = lv)
  (body : ∀ (p : Program) (e : Env) (s : State) (m : MethodId) (args : Array Value) (below : List Frame) (meth : Method) (c : Code), CCx p s m args c cc ws y.cls D C → N (zz_A (ZW w0) s.heap.size) s → meth.name = y.name → c.maxLocals = maxL → meth.sig.returnType = ret → meth.locks = false → ZZ p l e rm s m args below meth c 0 0 (MQ below (va_Qr post (fun u r t => r = ra u ∧ LPw (zz_A (ZW w0) s.heap.size) D (wI u) t.heap) (zz_A (ZW w0) s.heap.size)) args s mc ms (zz_A (ZW w0) s.heap.size)) (zz_A (ZW w0) s.heap.size) (LPw (zz_A (ZW w0) s.heap.size) D w0) maxL lv [] 0) : SLr l y ws rm D C N mc ms As w0 wI ra post := by
  intro sz
  refine Met.ofW (cc := cc) (maxL := maxL) (ret := ret) hy hw ?_
  intro p e s m args below meth c s₁ B hml hv
  obtain ⟨rfl, rfl, hP, hK, hA⟩ := hv
  exact zz_enter As maxL hn hlv hP (body p e s m _ below meth c ⟨⟨B.exec, B.bytes⟩, atoms_spec (ws := ws) B.pre, findClass_of_methodNamed B.named, hK⟩ (hOk.1 _ _ hA) (name_of_methodNamed B.named B.method).1 hml B.returns B.notSynchronized)
theorem sl_afterr {σ : Type} {R0 w0 : va_W} {wI : σ → va_W} {ra : σ → Nat} {post : σ → Prop} {H : Heap} {locs : List Loc} {ls : Array Slot} {pc : Nat} {args' : Array Value} (hA : ∀ q, s.heap.size ≤ q → A q) (hr : va_Run p l e R s m args below meth c H locs cells slots mc ms (F0 m pc ls st0) st ((va_Qr post (fun u r t => r = ra u ∧ LPw (zz_A (ZW w0) H.size) D (wI u) t.heap) (zz_A (ZW w0) H.size)) args') (zz_A (ZW w0) H.size)) (hP : LPw A D (R0 ++ w0) H) (hS : va_S A s.heap H locs) (kk : ∀ (u : σ), post u → ∀ (H1 : Heap) (locs1 : List Loc), LPw A D (R0 ++ wI u) H1 → va_S A s.heap H1 locs1 → W p l e R s m args below meth c H1 locs1 (cells + mc) (slots + ms) Q (F0 m (pc + 3) ls (.ref (ra u) :: st))) : W p l e R s m args below meth c H locs cells slots Q (F0 m pc ls st0) := by
  have hF : ∀ q, zz_A (ZW w0) H.size q → A q := fun q h => h.elim (fun z => ZW_in hP.2 z) (fun z => hA q (Nat.le_trans hS.1 z))
  have hne : ∀ (k : Nat) (x : Nat × va_E), R0[k]? = some x → x.1 < H.size ∧ ¬ ZW w0 x.1 := fun k x hx => ⟨va_at.lt (P_left hP.1 k x hx), ZW_not hP.2 hx⟩
  refine va_callr hr hS (fun q _ h => hF q h) hF (fun u rr t H1 locs1 ht hvm hpo hB hz hk hS1 => ?_)
  subst ht
  obtain ⟨rfl, hB⟩ := hB
  refine kk u hpo t.heap locs1 ⟨?_, ?_⟩ hS1
  · exact (va_P.kept (P_left hP.1) (fun k q hq => hk q.1 (hne k q hq).1 (fun z => z.elim (hne k q hq).2 (fun z => absurd (hne k q hq).1 (Nat.not_lt.mpr z))))).app hB.1
  · refine va_D.app (D_left hP.2) (hB.2.weaken (fun _ q _ z => hF q.1 z)) (fun i j x y hx hy hxy => ?_)
    have h1 := hne i x hx
    have h2 := hB.2.2 j y hy
    rw [← hxy] at h2
    exact h2.elim h1.2 (fun z => absurd h1.1 (Nat.not_lt.mpr z))
theorem sl_callVr {σ : Type} (pc : Nat) (X : CCx p s m args c cc Ts own D C) (hml : c.maxLocals = n) (hA : ∀ q, s.heap.size ≤ q → A q) (hOk : NOk N) (hN : N A s) {R0 w0 : va_W} {wI : σ → va_W} {ra : σ → Nat} {post : σ → Prop} {y : MethodName} {ws ws' : List Cond} {rm : Room} {b : Nat} {As : List Value} {maxL index na : Nat} {ret : Option FieldType} {bytes : ByteArray} {Cn : String} (hM : SLr l y ws rm D C N mc ms (.ref b :: As) w0 wI ra post) (g : GoodIn Ts (wsV own index Cn y ws)) (hw : ws = Cond.code y bytes maxL ret :: ws') (hrm : rm.cells = mc ∧ rm.slots = ms) (hd1 : y.cls = Cn ∧ y.cls ≠ "java/lang/invoke/MethodHandle" ∧ y.cls ≠ "java/lang/invoke/VarHandle" ∧ (parseMethodDescriptor y.desc).map (fun d => d.parameters.length) = some na) (hR : rm.frames + 1 ≤ R.frames ∧ 8 + (maxL + 11) + rm.locals ≤ R.locals)
  (hrecv : ∀ (H : Heap) (locs : List Loc), LPw A D (R0 ++ w0) H → va_S A s.heap H locs → ∃ cellB : Cell, H[b]? = some cellB ∧ cellB.vm.isStatics = false ∧ s.vm.findClass Cn = some cellB.cls) (hn : As.length = na) (hs0 : st0 = As.reverse ++ .ref b :: st) (hwd : (st.map fun v => v.category).sum ≤ 8) (hf : cells + mc ≤ R.cells ∧ slots + ms ≤ R.slots) (hd : decode cc pc = .ok (.invokevirtual index, 3)) (kk : ∀ (u : σ), post u → ZZ p l e R s m args below meth c (cells + mc) (slots + ms) Q A (LPw A D (R0 ++ wI u)) n lv (.ref (ra u) :: st) (pc + 3)) : ZZ p l e R s m args below meth c cells slots Q A (LPw A D (R0 ++ w0)) n lv st0 pc := by
  subst hs0
  intro H locs ls hP hS hl
  exact sl_afterr hA (va_runV ⟨X.1.1, X.1.2, hml, X.2.2.1, X.2.1⟩ (hM H.size) (cwV na X.2.1 g hw hrm.1 hrm.2 hd1 hR) ⟨fun a U g mk q => ⟨q.1, q.2.1, q.2.2.1, va_K.moved (u := U) (U := U.calling g mk a) (Vm.Alike.refl U.vm) q.2.2.2.1, hOk.2.2.2 _ _ _ _ _ q.2.2.2.2⟩, hrecv H locs hP hS, fun U hU hW => ⟨rfl, by rw [hU], by rw [hU]; exact ⟨P_right hP.1, D_right hP.2⟩, va_K.moved hW.alike X.2.2.2, hOk.2.1 _ _ _ (fun q h => ZW_in hP.2 h) (hOk.2.2.1 _ _ _ locs hW (by rw [hU]; exact hS) hN)⟩⟩ rfl hn hl.1 rfl (lv_room hwd) hd hf) hP hS (fun u hu H1 locs1 hP1 hS1 => kk u hu H1 locs1 ls hP1 hS1 hl)
theorem sl_callUr {σ : Type} (pc : Nat) (X : CCx p s m args c cc Ts own D C) (hml : c.maxLocals = n) (hA : ∀ q, s.heap.size ≤ q → A q) (hOk : NOk N) (hN : N A s) {R0 w0 : va_W} {wI : σ → va_W} {ra : σ → Nat} {post : σ → Prop} {y : MethodName} {ws ws' : List Cond} {rm : Room} {b : Nat} {As : List Value} {maxL index na : Nat} {ret : Option FieldType} {bytes : ByteArray} {Cn owner : String} {yx : MethodName} (hM : SLr l y ws rm D C N mc ms (.ref b :: As) w0 wI ra post) (g : GoodIn Ts (va_wsU own index Cn owner yx y ws)) (hw : ws = Cond.code y bytes maxL ret :: ws') (hrm : rm.cells = mc ∧ rm.slots = ms) (hyx : y = ⟨owner, yx.name, yx.desc⟩) (hd1 : owner ≠ "java/lang/invoke/MethodHandle" ∧ owner ≠ "java/lang/invoke/VarHandle" ∧ (parseMethodDescriptor yx.desc).map (fun d => d.parameters.length) = some na) (hR : rm.frames + 1 ≤ R.frames ∧ 8 + (maxL + 11) + rm.locals ≤ R.locals)
  (hrecv : ∀ (H : Heap) (locs : List Loc), LPw A D (R0 ++ w0) H → va_S A s.heap H locs → ∃ cellB : Cell, H[b]? = some cellB ∧ cellB.vm.isStatics = false ∧ s.vm.findClass Cn = some cellB.cls) (hn : As.length = na) (hs0 : st0 = As.reverse ++ .ref b :: st) (hwd : (st.map fun v => v.category).sum ≤ 8) (hf : cells + mc ≤ R.cells ∧ slots + ms ≤ R.slots) (hd : decode cc pc = .ok (.invokevirtual index, 3)) (kk : ∀ (u : σ), post u → ZZ p l e R s m args below meth c (cells + mc) (slots + ms) Q A (LPw A D (R0 ++ wI u)) n lv (.ref (ra u) :: st) (pc + 3)) : ZZ p l e R s m args below meth c cells slots Q A (LPw A D (R0 ++ w0)) n lv st0 pc := by
  subst hs0
  intro H locs ls hP hS hl
  exact sl_afterr hA (va_runU ⟨X.1.1, X.1.2, hml, X.2.2.1, X.2.1⟩ (hM H.size) (va_cwU na X.2.1 g hw hrm.1 hrm.2 hyx hd1 hR) ⟨fun a U g mk q => ⟨q.1, q.2.1, q.2.2.1, va_K.moved (u := U) (U := U.calling g mk a) (Vm.Alike.refl U.vm) q.2.2.2.1, hOk.2.2.2 _ _ _ _ _ q.2.2.2.2⟩, hrecv H locs hP hS, fun U hU hW => ⟨rfl, by rw [hU], by rw [hU]; exact ⟨P_right hP.1, D_right hP.2⟩, va_K.moved hW.alike X.2.2.2, hOk.2.1 _ _ _ (fun q h => ZW_in hP.2 h) (hOk.2.2.1 _ _ _ locs hW (by rw [hU]; exact hS) hN)⟩⟩ rfl hn hl.1 rfl (lv_room hwd) hd hf) hP hS (fun u hu H1 locs1 hP1 hS1 => kk u hu H1 locs1 ls hP1 hS1 hl)
theorem sl_callSr {σ : Type} (pc : Nat) (X : CCx p s m args c cc Ts own D C) (hml : c.maxLocals = n) (hA : ∀ q, s.heap.size ≤ q → A q) (hOk : NOk N) (hN : N A s) {R0 w0 : va_W} {wI : σ → va_W} {ra : σ → Nat} {post : σ → Prop} {y : MethodName} {ws ws' : List Cond} {rm : Room} {As : List Value} {maxL index na : Nat} {ret : Option FieldType} {bytes : ByteArray}  (hM : SLr l y ws rm D C N mc ms As w0 wI ra post) (g : GoodIn Ts (va_wsS own index y ws)) (hw : ws = Cond.code y bytes maxL ret :: ws') (hrm : rm.cells = mc ∧ rm.slots = ms) (hd1 : y.cls ≠ "java/lang/invoke/MethodHandle" ∧ y.cls ≠ "java/lang/invoke/VarHandle" ∧ (parseMethodDescriptor y.desc).map (fun d => d.parameters.length) = some na) (hR : rm.frames + 1 ≤ R.frames ∧ 8 + (maxL + 11) + rm.locals ≤ R.locals)
  (hn : As.length = na) (hs0 : st0 = As.reverse ++ st) (hwd : (st.map fun v => v.category).sum ≤ 8) (hf : cells + mc ≤ R.cells ∧ slots + ms ≤ R.slots) (hd : decode cc pc = .ok (.invokestatic index, 3)) (kk : ∀ (u : σ), post u → ZZ p l e R s m args below meth c (cells + mc) (slots + ms) Q A (LPw A D (R0 ++ wI u)) n lv (.ref (ra u) :: st) (pc + 3)) : ZZ p l e R s m args below meth c cells slots Q A (LPw A D (R0 ++ w0)) n lv st0 pc := by
  subst hs0
  intro H locs ls hP hS hl
  exact sl_afterr hA (va_runS ⟨X.1.1, X.1.2, hml, X.2.2.1, X.2.1⟩ (hM H.size) (va_cwS na X.2.1 g hw hrm.1 hrm.2 hd1 hR) ⟨fun a U g mk q => ⟨q.1, q.2.1, q.2.2.1, va_K.moved (u := U) (U := U.calling g mk a) (Vm.Alike.refl U.vm) q.2.2.2.1, hOk.2.2.2 _ _ _ _ _ q.2.2.2.2⟩, fun U hU hW => ⟨rfl, by rw [hU], by rw [hU]; exact ⟨P_right hP.1, D_right hP.2⟩, va_K.moved hW.alike X.2.2.2, hOk.2.1 _ _ _ (fun q h => ZW_in hP.2 h) (hOk.2.2.1 _ _ _ locs hW (by rw [hU]; exact hS) hN)⟩⟩ rfl hn hl.1 rfl (lv_room hwd) hd hf) hP hS (fun u hu H1 locs1 hP1 hS1 => kk u hu H1 locs1 ls hP1 hS1 hl)
theorem sl_callSUr {σ : Type} (pc : Nat) (X : CCx p s m args c cc Ts own D C) (hml : c.maxLocals = n) (hA : ∀ q, s.heap.size ≤ q → A q) (hOk : NOk N) (hN : N A s) {R0 w0 : va_W} {wI : σ → va_W} {ra : σ → Nat} {post : σ → Prop} {y : MethodName} {ws ws' : List Cond} {rm : Room} {b : Nat} {As : List Value} {maxL index na : Nat} {ret : Option FieldType} {bytes : ByteArray} {Cn : String} {cC : ClassId} (hat : ClassAt s Cn cC) (hM : SLr l y ws rm D C N mc ms (.ref b :: As) w0 wI ra post) (g : GoodIn Ts (va_wsSU own index y ws)) (hw : ws = Cond.code y bytes maxL ret :: ws') (hrm : rm.cells = mc ∧ rm.slots = ms) (hd1 : y.name ≠ "<init>" ∧ (parseMethodDescriptor y.desc).map (fun d => d.parameters.length) = some na) (hR : rm.frames + 1 ≤ R.frames ∧ 8 + (maxL + 11) + rm.locals ≤ R.locals)
  (hrecv : ∀ (H : Heap) (locs : List Loc), LPw A D (R0 ++ w0) H → va_S A s.heap H locs → ∃ cellB : Cell, H[b]? = some cellB ∧ cellB.vm.isStatics = false ∧ s.vm.findClass Cn = some cellB.cls) (hn : As.length = na) (hs0 : st0 = As.reverse ++ .ref b :: st) (hwd : (st.map fun v => v.category).sum ≤ 8) (hf : cells + mc ≤ R.cells ∧ slots + ms ≤ R.slots) (hd : decode cc pc = .ok (.invokespecial index, 3)) (kk : ∀ (u : σ), post u → ZZ p l e R s m args below meth c (cells + mc) (slots + ms) Q A (LPw A D (R0 ++ wI u)) n lv (.ref (ra u) :: st) (pc + 3)) : ZZ p l e R s m args below meth c cells slots Q A (LPw A D (R0 ++ w0)) n lv st0 pc := by
  subst hs0
  intro H locs ls hP hS hl
  exact sl_afterr hA (va_runSU hat ⟨X.1.1, X.1.2, hml, X.2.2.1, X.2.1⟩ (hM H.size) (va_cwSU na X.2.1 g hw hrm.1 hrm.2 hd1 hR) ⟨fun a U g mk q => ⟨q.1, q.2.1, q.2.2.1, va_K.moved (u := U) (U := U.calling g mk a) (Vm.Alike.refl U.vm) q.2.2.2.1, hOk.2.2.2 _ _ _ _ _ q.2.2.2.2⟩, hrecv H locs hP hS, fun U hU hW => ⟨rfl, by rw [hU], by rw [hU]; exact ⟨P_right hP.1, D_right hP.2⟩, va_K.moved hW.alike X.2.2.2, hOk.2.1 _ _ _ (fun q h => ZW_in hP.2 h) (hOk.2.2.1 _ _ _ locs hW (by rw [hU]; exact hS) hN)⟩⟩ rfl hn hl.1 rfl (lv_room hwd) hd hf) hP hS (fun u hu H1 locs1 hP1 hS1 => kk u hu H1 locs1 ls hP1 hS1 hl)
end SLS
/-! texts -/
/-- a row of bytes: n letters, then nothing -/
def tx (t : Nat → Nat) (n : Nat) : Nat → Int32 := fun j => if j < n then nI (t j) else 0
def cat (t : Nat → Nat) (n : Nat) (u : Nat → Nat) : Nat → Nat := fun j => if j < n then t j else u (j - n)
/-- n letters, then of w letters those from k on -/
def px (t : Nat → Nat) (n w : Nat) (u : Nat → Nat) (k : Nat) : Nat → Int32 := fun j => if j < n then nI (t j) else if n + k ≤ j ∧ j < n + w then nI (u (j - n)) else 0
theorem bt_nar : ∀ x, x < 128 → vp_nar .byte (nI x) = nI x := by decide +kernel
theorem bt_fit : ∀ x, x < 128 → fits .byte (.int (nI x)) = true := by decide +kernel
theorem tx_zero : (fun (_ : Nat) => (0 : Int32)) = tx (fun _ => 0) 0 := by
  funext j
  unfold tx
  rw [if_neg (Nat.not_lt_zero j)]
theorem tx_fit {t : Nat → Nat} {n i : Nat} (h : ∀ j, t j < 128) : fits .byte (.int (tx t n i)) = true := by
  unfold tx
  split
  · exact bt_fit _ (h i)
  · rfl
theorem tx_cpy {t : Nat → Nat} {n m : Nat} (h : n ≤ m) : va_cpy (tx t n) (fun _ => 0) 0 0 m = tx t n := by
  funext j
  unfold va_cpy tx
  by_cases hj : j < m
  · rw [if_pos ⟨Nat.zero_le _, by omega⟩, Nat.sub_zero, Nat.zero_add]
  · rw [if_neg (by omega), if_neg (by omega)]
theorem tx_cpn {t : Nat → Nat} {n : Nat} : va_cpy (tx t n) (fun _ => 0) 0 0 n = tx t n := tx_cpy (Nat.le_refl _)
theorem tx_app {t u : Nat → Nat} {n w : Nat} {f : Nat → Int32} (h : ∀ j, j < w → f j = nI (u j)) : va_cpy f (tx t n) 0 n w = tx (cat t n u) (n + w) := by
  funext j
  unfold va_cpy tx cat
  by_cases h1 : n ≤ j ∧ j < n + w
  · rw [if_pos h1, if_pos h1.2, if_neg (by omega), Nat.zero_add, h _ (by omega)]
  · rw [if_neg h1]
    by_cases h2 : j < n
    · rw [if_pos h2, if_pos (by omega), if_pos h2]
    · rw [if_neg h2, if_neg (by omega)]
theorem tx_put {t : Nat → Nat} {n x : Nat} : upd (tx t n) n (nI x) = tx (cat t n (fun _ => x)) (n + 1) := by
  funext j
  unfold upd tx cat
  by_cases h1 : j = n
  · subst h1
    simp
  · rw [if_neg h1]
    by_cases h2 : j < n
    · rw [if_pos h2, if_pos (by omega), if_pos h2]
    · rw [if_neg h2, if_neg (by omega)]
theorem px_w {t u : Nat → Nat} {n w : Nat} : tx t n = px t n w u w := by
  funext j
  unfold tx px
  by_cases h : j < n
  · rw [if_pos h, if_pos h]
  · rw [if_neg h, if_neg h, if_neg (by omega)]
theorem px_0 {t u : Nat → Nat} {n w : Nat} : px t n w u 0 = tx (cat t n u) (n + w) := by
  funext j
  unfold tx px cat
  by_cases h : j < n
  · rw [if_pos h, if_pos (by omega), if_pos h]
  · rw [if_neg h]
    by_cases h2 : j < n + w
    · rw [if_pos ⟨by omega, h2⟩, if_pos h2, if_neg h]
    · rw [if_neg (by omega), if_neg h2]
theorem px_up {t u : Nat → Nat} {n w k x : Nat} (hk : k < w) (hx : x = u k) : upd (px t n w u (k + 1)) (n + k) (nI x) = px t n w u k := by
  subst hx
  funext j
  unfold upd px
  by_cases h1 : j = n + k
  · subst h1
    rw [if_pos rfl, if_neg (by omega), if_pos ⟨by omega, by omega⟩, show n + k - n = k by omega]
  · rw [if_neg h1]
    by_cases h2 : j < n
    · rw [if_pos h2, if_pos h2]
    · rw [if_neg h2, if_neg h2]
      by_cases h3 : n + k ≤ j ∧ j < n + w
      · rw [if_pos ⟨by omega, h3.2⟩, if_pos h3]
      · rw [if_neg (by omega), if_neg h3]
/-- the digits of a number, w of them -/
def dgt (v w : Nat) : Nat → Nat := fun k => 48 + v / 10 ^ (w - 1 - k) % 10
theorem dgt_lt {v w k : Nat} : dgt v w k < 128 := by
  unfold dgt
  have : v / 10 ^ (w - 1 - k) % 10 < 10 := Nat.mod_lt _ (by decide)
  omega
theorem cat_lt {t u : Nat → Nat} {n : Nat} (h1 : ∀ j, t j < 128) (h2 : ∀ j, u j < 128) : ∀ j, cat t n u j < 128 := fun j => by
  unfold cat
  split
  · exact h1 j
  · exact h2 _
theorem ch_255 : ∀ x, x < 128 → nI x &&& nI 255 = nI x := by decide +kernel
theorem ch_i2c : ∀ x, x < 128 → ((nI x).toUInt32 % 65536).toInt32 = nI x := by decide +kernel
theorem ch_i2b : ∀ x, x < 128 → (nI x).toInt8.toInt32 = nI x := by decide +kernel
theorem ch_nar : ∀ x, x < 128 → narrow .char (.int (nI x)) = .int (nI x) := by decide +kernel
theorem sh_r0 (x : Int32) : x >>> (nI 0 &&& 31) = x := by
  rw [show nI 0 &&& 31 = 0 from by decide]
  exact Int32.shiftRight_zero
theorem sh_l0 (x : Int32) : x <<< (nI 0 &&& 31) = x := by
  rw [show nI 0 &&& 31 = 0 from by decide]
  exact Int32.shiftLeft_zero
theorem gc_neg : ∀ v, v < 1024 → (-(nI v)).toInt = -((v : Nat) : Int) := by decide +kernel
theorem gc_nn : ∀ v, v < 1024 → -(-(nI v)) = nI v := by decide +kernel
theorem gc_div : ∀ v, v < 1024 → -(nI v) / nI 100 = -(nI (v / 100)) := by decide +kernel
theorem gc_rem : ∀ v, v < 1024 → -(nI (v / 100)) * nI 100 - -(nI v) = nI (v % 100) := by decide +kernel

