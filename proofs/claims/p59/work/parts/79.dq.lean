/-! One set alone: two cells. -/
section DQS
variable {p : Program} {l : Launch} {e : Env} {R : Room} {s : State} {m : MethodId} {args : Array Value} {below : List Frame} {meth : Method} {c : Code} {cells slots : Nat} {Q : State → Prop} {n : Nat} {lv lv' : List (Nat × Value)} {st st0 : List Value} {cc : ByteArray} {Ts : List Cond} {own : String} {D : va_G} {C : Nat → ClassId} {K : Nat → Nat} {F : Nat → Int32} {hs : Nat → Bool} {W : Nat → Nat → Int64} {G T : Nat → Nat → Int32} {s0 : Nat}
def DQW (s0 : Nat) (C : Nat → ClassId) (K : Nat → Nat) (W : Nat → Nat → Int64) : va_W := [(K (20 + s0), .inr (0, [.ref (K (30 + s0))])), (K (30 + s0), .inl (C 2, 16, .inr (.inl (W s0))))]
def DQ (s0 : Nat) (D : va_G) (C : Nat → ClassId) (K : Nat → Nat) (_ : Nat → Int32) (W : Nat → Nat → Int64) (_ _ : Nat → Nat → Int32) : Heap → Prop := va_P D vwCl (DQW s0 C K W)
def DQd (s0 : Nat) (K : Nat → Nat) : Nat → Prop := fun q => q = K (20 + s0) ∨ q = K (30 + s0)
def DQp (s0 : Nat) (K : Nat → Nat) : Prop := K (20 + s0) ≠ K (30 + s0)
theorem DQ_D (h : DQp s0 K) (sz : Nat) : va_D (zz_A (DQd s0 K) sz) (DQW s0 C K W) := by
  refine ⟨fun i j p q hi hj hpq => ?_, fun k q hk => ?_⟩
  · have h1 : i < 2 := (List.getElem?_eq_some_iff.mp hi).1
    have h2 : j < 2 := (List.getElem?_eq_some_iff.mp hj).1
    rcases (show i = 0 ∨ i = 1 by omega) with rfl | rfl <;> rcases (show j = 0 ∨ j = 1 by omega) with rfl | rfl <;> cases hi <;> cases hj
    · rfl
    · exact absurd hpq h
    · exact absurd hpq.symm h
    · rfl
  · have h1 : k < 2 := (List.getElem?_eq_some_iff.mp hk).1
    rcases (show k = 0 ∨ k = 1 by omega) with rfl | rfl <;> cases hk
    · exact Or.inl (Or.inl rfl)
    · exact Or.inl (Or.inr rfl)
def DEQ (s0 : Nat) (D : va_G) (C : Nat → ClassId) (K : Nat → Nat) (F : Nat → Int32) (hs : Nat → Bool) (G T : Nat → Nat → Int32) (_ : Nat) : State → Prop := fun U => DQ s0 D C K F (WH hs) G T U.heap ∧ va_K D vwCl (TY C) U
def DQB (s0 : Nat) (D : va_G) (C : Nat → ClassId) (K : Nat → Nat) : CSt → State → Prop := fun u t => DQ s0 D C K u.1 (WH u.2.1) u.2.2.1 u.2.2.2 t.heap
theorem dq_getM (pc : Nat) (X : CCx p s m args c cc Ts own D C) (hin : ∀ w ∈ wsX00, w ∈ Ts) {i : Nat} (hi : i = s0) {index : Nat} (hl : Cond.fieldLink own index RX0 (TX0 0).2.1 (TX0 0).2.2.1 ∈ Ts) (hd : decode cc pc = .ok (.getfield index, 3)) (kk : ZZ p l e R s m args below meth c cells slots Q (zz_A (DQd s0 K) s.heap.size) (DQ s0 D C K F W G T) n lv (.ref (K (30 + i)) :: st) (pc + 3)) : ZZ p l e R s m args below meth c cells slots Q (zz_A (DQd s0 K) s.heap.size) (DQ s0 D C K F W G T) n lv (.ref (K (20 + i)) :: st) (pc) := by
  subst hi
  exact fun H locs ls hP hS hlv => va_get (D := D) (ci := 0) (C := RX0) (T := TX0) (N := 1) (ref := RX0) X.1.1 X.1.2 X.2.1 hin X.2.2.1 X.2.2.2 hP 0 rfl rfl 0 (by decide) (X.2.1 _ hl) (fun x h => h) rfl hd (kk H locs ls hP hS hlv)
theorem dq_lld (pc : Nat) (X : CCx p s m args c cc Ts own D C) {i k : Nat} (hi : i = s0) (hk : k < 16) (hd : decode cc pc = .ok (.laload, 1)) (kk : ZZ p l e R s m args below meth c cells slots Q (zz_A (DQd s0 K) s.heap.size) (DQ s0 D C K F W G T) n lv (.long (W i k) :: st) (pc + 1)) : ZZ p l e R s m args below meth c cells slots Q (zz_A (DQd s0 K) s.heap.size) (DQ s0 D C K F W G T) n lv (.int (nI k) :: .ref (K (30 + i)) :: st) (pc) := by
  subst hi
  exact fun H locs ls hP hS hlv => va_lald X.1.1 X.1.2 X.2.2.2 hP 1 2 rfl rfl (vp_in_nI hk (by decide)) hd (by rw [nI_clamp (Nat.lt_trans hk (by decide))]; exact kk H locs ls hP hS hlv)
theorem dq_lst (pc : Nat) (hAp : DQp s0 K) (X : CCx p s m args c cc Ts own D C) {i k : Nat} {x : Int64} (hi : i = s0) (hk : k < 16) (hd : decode cc pc = .ok (.lastore, 1)) (kk : ZZ p l e R s m args below meth c cells slots Q (zz_A (DQd s0 K) s.heap.size) (DQ s0 D C K F (va_up W i (vp_updL (W i) k x)) G T) n lv (st) (pc + 1)) : ZZ p l e R s m args below meth c cells slots Q (zz_A (DQd s0 K) s.heap.size) (DQ s0 D C K F W G T) n lv (.long x :: .int (nI k) :: .ref (K (30 + i)) :: st) (pc) := by
  subst hi
  exact fun H locs ls hP hS hlv => va_last X.1.1 X.1.2 X.2.2.2 hP (DQ_D hAp _) hS 1 2 rfl rfl (vp_in_nI hk (by decide)) hd (fun H1 locs1 hP1 _ hS1 => kk H1 locs1 ls (by
    rw [nI_clamp (Nat.lt_trans hk (by decide))] at hP1
    unfold DQ DQW
    rw [show va_up W i (vp_updL (W i) k x) i = vp_updL (W i) k x by unfold va_up; rw [if_pos rfl]]
    exact hP1) hS1 hlv)
theorem dq_W {pc : Nat} {W' : Nat → Nat → Int64} (hs8 : s0 < 8) (hw : ∀ i, i < 8 → ∀ k, k < 16 → W i k = W' i k) (k : ZZ p l e R s m args below meth c cells slots Q (zz_A (DQd s0 K) s.heap.size) (DQ s0 D C K F W' G T) n lv (st) (pc)) : ZZ p l e R s m args below meth c cells slots Q (zz_A (DQd s0 K) s.heap.size) (DQ s0 D C K F W G T) n lv (st) (pc) := zz_world (fun H h => fun j q hj => by
  have h1 : j < 2 := (List.getElem?_eq_some_iff.mp hj).1
  rcases (show j = 0 ∨ j = 1 by omega) with rfl | rfl <;> cases hj
  · exact h 0 _ rfl
  · have h2 := h 1 _ rfl
    have e : vp_cell (C 2) (16, .inr (.inl (W' s0))) = vp_cell (C 2) (16, .inr (.inl (W s0))) := by
      show arrV (C 2) 16 (fun j => .long (W' s0 j)) = arrV (C 2) 16 (fun j => .long (W s0 j))
      unfold arrV
      congr 1
      refine congrArg _ (funext fun j => ?_)
      show Value.long (W' s0 j.val) = Value.long (W s0 j.val)
      rw [hw s0 hs8 j.val j.isLt]
    show H[K (30 + s0)]? = some (vp_cell (C 2) (16, .inr (.inl (W' s0))))
    rw [e]
    exact h2) k
theorem dq_hs {hs' : Nat → Bool} (h : hs = hs') (H : Heap) (q : DQ s0 D C K F (WH hs) G T H) : DQ s0 D C K F (WH hs') G T H := h ▸ q
theorem DQ_keep (H H1 : Heap) (h : DQ s0 D C K F W G T H) (_ : H.size ≤ H1.size) (hk : ∀ q : Nat, q < H.size → H1[q]? = H[q]?) : DQ s0 D C K F W G T H1 := va_P.kept h (fun k q hq => hk q.1 (va_at.lt (h k q hq)))
def QMv (s0 : Nat) (l : Launch) (y : MethodName) (ws : List Cond) (rm : Room) (D : va_G) (C : Nat → ClassId) (K : Nat → Nat) (th : Nat) (As : List Value) (F : Nat → Int32) (hs : Nat → Bool) (G T : Nat → Nat → Int32) (post : CSt → Prop) : Prop := ∀ sz : Nat, Met l y ws rm (va_Pc (.ref (K th) :: As) (zz_E (DEQ s0 D C K F hs G T) sz)) (va_Qv post (DQB s0 D C K) (zz_A (DQd s0 K) sz)) 0 0 (zz_A (DQd s0 K) sz)
theorem QMv_of {y : MethodName} {ws ws' : List Cond} {rm : Room} {th : Nat} {As : List Value} {post : CSt → Prop} {maxL : Nat} {ret : Option FieldType} (hw : ws = Cond.code y cc maxL ret :: ws') (hy : plainName y.cls = true) (hn : (lg_sl (.ref (K th) :: As)).length ≤ maxL) (hlv : lv_args 0 (.ref (K th) :: As) = lv)
  (body : ∀ (p : Program) (e : Env) (s : State) (m : MethodId) (args : Array Value) (below : List Frame) (meth : Method) (c : Code), CCx p s m args c cc ws y.cls D C → c.maxLocals = maxL → meth.sig.returnType = ret → meth.locks = false → ZZ p l e rm s m args below meth c 0 0 (MQ below (va_Qv post (DQB s0 D C K) (zz_A (DQd s0 K) s.heap.size)) args s 0 0 (zz_A (DQd s0 K) s.heap.size)) (zz_A (DQd s0 K) s.heap.size) (DQ s0 D C K F (WH hs) G T) maxL lv [] 0) : QMv s0 l y ws rm D C K th As F hs G T post := by
  intro sz
  refine Met.ofW (cc := cc) (maxL := maxL) (ret := ret) hy hw ?_
  intro p e s m args below meth c s₁ B hml hv
  obtain ⟨rfl, rfl, hP, hK⟩ := hv
  exact zz_enter (.ref (K th) :: As) maxL hn hlv hP (body p e s m _ below meth c ⟨⟨B.exec, B.bytes⟩, atoms_spec (ws := ws) B.pre, findClass_of_methodNamed B.named, hK⟩ hml B.returns B.notSynchronized)
end DQS
set_option maxHeartbeats 4000000 in
set_option maxRecDepth 100000 in
theorem kq_X0_includeOne (l : Launch) (s0 : Nat) (D : va_G) (C : Nat → ClassId) (K : Nat → Nat) (hAp : DQp s0 K) (F : Nat → Int32) (hs : Nat → Bool) (G T : Nat → Nat → Int32) (i0 : Nat) (hs0 : s0 < 8) (hi0 : i0 < 1024) : QMv s0 l yX0_includeOne wsX0_includeOne rm_X0_includeOne D C K (20 + s0) [.int (nI i0)] F hs G T (fun (u : CSt) => u = (F, sS hs s0 (p1 (hM hs s0) i0 true), G, T)) := by
  refine QMv_of (lv := [(0, .ref (K (20 + s0))), (1, .int (nI i0))]) (cc := cX0_includeOne) (maxL := 2) (ret := none) rfl (by decide +kernel) (Nat.le_of_ble_eq_true rfl) rfl ?_
  intro p e s m args below meth c X hml hr hlk
  generalize hQ : MQ below _ args s 0 0 _ = Q
  refine zz_iload_n 0 X.1 1 dX0_includeOne_0 rfl ?_
  refine zz_if_lt 1 29 X.1 (nI_toInt (by omega)) dX0_includeOne_1 (by decide) (fun h1 => ?_) (fun h1 => ?_)
  · exfalso; omega
  · skip
    refine zz_iload_n 4 X.1 1 dX0_includeOne_4 rfl ?_
    refine zz_sipush 5 X.1 (v := nI 1024) dX0_includeOne_5 rfl ?_
    refine zz_icmp_ge 8 29 X.1 (nI_toInt (by omega)) (nI_toInt (by omega)) dX0_includeOne_8 (by decide) (fun h8 => ?_) (fun h8 => ?_)
    · exfalso; omega
    · skip
      refine zz_aload_n 11 X.1 0 dX0_includeOne_11 rfl ?_
      refine dq_getM 12 X (by decide +kernel) (i := s0) rfl (by decide +kernel) dX0_includeOne_12 ?_
      refine zz_iload_n 15 X.1 1 dX0_includeOne_15 rfl ?_
      refine zz_bipush 16 X.1 (v := nI 6) dX0_includeOne_16 rfl ?_
      refine zz_ishr 18 X.1 (v := (nI (i0 / 64))) dX0_includeOne_18 (zn_shr6 (by omega)) ?_
      refine zz_dup2 19 X.1 dX0_includeOne_19 rfl rfl ?_
      refine dq_lld 20 X (i := s0) (k := i0 / 64) rfl (by omega) dX0_includeOne_20 ?_
      refine zz_lconst 21 X.1 (v := 1) dX0_includeOne_21 (by decide) ?_
      refine zz_iload_n 22 X.1 1 dX0_includeOne_22 rfl ?_
      refine zz_bipush 23 X.1 (v := nI 63) dX0_includeOne_23 rfl ?_
      refine zz_iand 25 X.1 (v := (nI (i0 % 64))) dX0_includeOne_25 (zn_and63 (by omega)) ?_
      refine zz_lshl 26 X.1 (v := 1 <<< ((nI (i0 % 64)).toInt64 &&& 63)) dX0_includeOne_26 rfl ?_
      refine zz_lor 27 X.1 (v := wd (p1 (hM hs s0) i0 true) (i0 / 64)) dX0_includeOne_27 wd_or1 ?_
      refine dq_lst 28 hAp X (i := s0) (k := i0 / 64) rfl (by omega) dX0_includeOne_28 ?_
      refine dq_W (W' := WH (vS hs s0 (i0 / 64) (p1 (hM hs s0) i0 true))) hs0 (vS_W (rfl)) ?_
      refine zz_world (P' := (DQ s0 D C K F (WH (sS hs s0 (p1 (hM hs s0) i0 true))) G T)) (dq_hs (sS_p1 (by omega) rfl)) ?_
      rw [← hQ]
      refine zz_vret 29 X.1 hr hlk (F, sS hs s0 (p1 (hM hs s0) i0 true), G, T) ?_ (fun _ h _ => h) dX0_includeOne_29
      exact rfl
set_option maxHeartbeats 4000000 in
set_option maxRecDepth 100000 in
theorem kq_X0_include (l : Launch) (s0 : Nat) (D : va_G) (C : Nat → ClassId) (K : Nat → Nat) (hAp : DQp s0 K) (F : Nat → Int32) (hs : Nat → Bool) (G T : Nat → Nat → Int32) (f : Nat) (t : Nat) (hs0 : s0 < 8) (hft : f < 2 ^ 31 ∧ t < 2 ^ 31) : QMv s0 l yX0_include wsX0_include rm_X0_include D C K (20 + s0) [.int (nI f), .int (nI t)] F hs G T (fun (u : CSt) => u = (F, sS hs s0 (pR (hM hs s0) f t true), G, T)) := by
  refine QMv_of (lv := [(0, .ref (K (20 + s0))), (1, .int (nI f)), (2, .int (nI t))]) (cc := cX0_include) (maxL := 4) (ret := none) rfl (by decide +kernel) (Nat.le_of_ble_eq_true rfl) rfl ?_
  intro p e s m args below meth c X hml hr hlk
  generalize hQ : MQ below _ args s 0 0 _ = Q
  refine zz_iconst 0 X.1 (v := nI 0) dX0_include_0 rfl ?_
  refine zz_istore_n 1 X.1 (lv' := [(3, .int (nI 0)), (0, .ref (K (20 + s0))), (1, .int (nI f)), (2, .int (nI t))]) dX0_include_1 (by decide) rfl ?_
  have C2 : ∀ (d : Nat) (k : Nat) (hs1 : Nat → Bool) (hk : k ≤ 16) (hh : hs1 = sF hs s0 (pR (hM hs s0) f t true) (64 * k)) (hd : 16 - k < d), ZZ p l e rm_X0_include s m args below meth c 0 0 Q (zz_A (DQd s0 K) s.heap.size) (DQ s0 D C K F (WH hs1) G T) 4 [(0, .ref (K (20 + s0))), (1, .int (nI f)), (2, .int (nI t)), (3, .int (nI k))] [] 2 := by
    intro d
    induction d with
    | zero => intro k hs1 hk hh hd; exact absurd hd (Nat.not_lt_zero _)
    | succ d ih2 =>
      intro k hs1 hk hh hd
      refine zz_iload_n 2 X.1 3 dX0_include_2 rfl ?_
      refine zz_bipush 3 X.1 (v := nI 16) dX0_include_3 rfl ?_
      refine zz_icmp_ge 5 29 X.1 (nI_toInt (by omega)) (nI_toInt (by omega)) dX0_include_5 (by decide) (fun h5 => ?_) (fun h5 => ?_)
      · skip
        refine zz_world (P' := (DQ s0 D C K F (WH (sS hs s0 (pR (hM hs s0) f t true))) G T)) (dq_hs (hh.trans (by rw [show k = 16 by omega]; rfl))) ?_
        rw [← hQ]
        refine zz_vret 29 X.1 hr hlk (F, sS hs s0 (pR (hM hs s0) f t true), G, T) ?_ (fun _ h _ => h) dX0_include_29
        exact rfl
      · skip
        refine zz_aload_n 8 X.1 0 dX0_include_8 rfl ?_
        refine dq_getM 9 X (by decide +kernel) (i := s0) rfl (by decide +kernel) dX0_include_9 ?_
        refine zz_iload_n 12 X.1 3 dX0_include_12 rfl ?_
        refine zz_dup2 13 X.1 dX0_include_13 rfl rfl ?_
        refine dq_lld 14 X (i := s0) (k := k) rfl (by omega) dX0_include_14 ?_
        refine zz_iload_n 15 X.1 3 dX0_include_15 rfl ?_
        refine zz_iload_n 16 X.1 1 dX0_include_16 rfl ?_
        refine zz_iload_n 17 X.1 2 dX0_include_17 rfl ?_
        refine zz_callS0l 18 ⟨X.1.1, X.1.2, hml, X.2.2.1, X.2.1⟩ (fun q h => Or.inr h) DQ_keep (As := [.int (nI k), .int (nI f), .int (nI t)]) (kt_X0_bitsIn l k f t (by first | rfl | assumption | omega) (by first | rfl | assumption | omega)) gX0_include_X0_bitsIn rfl ⟨rfl, rfl⟩ yd_X0_bitsIn.2 ⟨Nat.le_of_ble_eq_true rfl, Nat.le_of_ble_eq_true rfl⟩ rfl rfl (Nat.le_of_ble_eq_true rfl) ⟨Nat.zero_le _, Nat.zero_le _⟩ dX0_include_18 ?_
        intro r1 hu1
        obtain rfl := hu1
        refine zz_lor 21 X.1 (v := wd (fun i => hM hs1 s0 i || pI f t i) k) dX0_include_21 wd_or ?_
        refine dq_lst 22 hAp X (i := s0) (k := k) rfl (by omega) dX0_include_22 ?_
        refine dq_W (W' := WH (vS hs1 s0 k (fun i => hM hs1 s0 i || pI f t i))) hs0 (vS_W (rfl)) ?_
        refine zz_iinc 23 X.1 3 (v := (nI (k + 1))) (lv' := [(3, .int (nI (k + 1))), (0, .ref (K (20 + s0))), (1, .int (nI f)), (2, .int (nI t))]) dX0_include_23 rfl (nI_add k 1) (by decide) rfl ?_
        refine zz_goto 26 2 X.1 dX0_include_26 (by decide) ?_
        refine zz_lvs [1, 2, 3, 0] rfl ?_
        exact ih2 (k + 1) (vS hs1 s0 k (fun i => hM hs1 s0 i || pI f t i)) (by omega) (st_inc hh (by omega)) (by omega)
  refine zz_lvs [1, 2, 3, 0] rfl ?_
  exact C2 (16 - 0 + 1) 0 hs (by omega) (sF_0.symm) (Nat.lt_succ_self _)
