/-! The law's own object beside the desk. -/
abbrev LSt : Type := Int32 × CSt × (Nat → Bool)
def LWc (C : Nat → ClassId) (K : Nat → Nat) (kL kH : Nat) (x : Int32) (b : Nat → Bool) : va_W := [(kL, .inr (7, [.int x, .ref (K 0), .ref kH])), (kH, .inl (C 3, 3072, .inl (fun j => bI (b j))))]
def LW (C : Nat → ClassId) (K : Nat → Nat) (kL kH : Nat) (q : LSt) : va_W := DW C K q.2.1.1 (WH q.2.1.2.1) q.2.1.2.2.1 q.2.1.2.2.2 ++ LWc C K kL kH q.1 q.2.2
def LPo (D : va_G) (C : Nat → ClassId) (K : Nat → Nat) (kL kH : Nat) (q : LSt) : Heap → Prop := va_P D vwCl (LW C K kL kH q)
def LZ (K : Nat → Nat) (kL kH : Nat) : Nat → Prop := fun q => DAd K q ∨ (q = kL ∨ q = kH)
def LAp (K : Nat → Nat) (kL kH : Nat) : Prop := DAp K ∧ ¬ DAd K kL ∧ ¬ DAd K kH ∧ kL ≠ kH ∧ KU K
/-- the law's strings, by their places -/
def lsb : List (List Int32) := [[38, 124, 126, 33], [102, 61, 97, 59, 102], [98, 59, 32, 102, 94], [46, 46], [59, 102, 43], [59]]
def lsn : List Nat := [4, 5, 5, 2, 3, 1]
def BSx (ad : Nat → Nat) (Z : Nat → Prop) (U : State) : Prop := vk_S 6 lsn lsb (fun i => ad (20 + i)) (fun i => ad (30 + i)) Z U U.heap ∧ (vk_R RL 208 "&|~!" (ad 20) U ∧ vk_R RL 213 "f=a;f" (ad 21) U ∧ vk_R RL 221 "b; f^" (ad 22) U ∧ vk_R RL 226 ".." (ad 23) U ∧ vk_R RL 228 ";f+" (ad 24) U ∧ vk_R RL 230 ";" (ad 25) U)
/-- the digits' tables -/
def DGx (t1 t2 : Nat) (Z : Nat → Prop) (U : State) : Prop := va_Z RJ6 "DigitOnes" "[B" (.ref t1) Z U U.heap ∧ va_T .byte t1 100 (fun j => .int (nI (48 + j % 10))) Z U U.heap ∧ va_Z RJ6 "DigitTens" "[B" (.ref t2) Z U U.heap ∧ va_T .byte t2 100 (fun j => .int (nI (48 + j / 10))) Z U U.heap
def SIx (Z : Nat → Prop) (U : State) : Prop := va_Zq "jdk/internal/util/Preconditions" "SIOOBE_FORMATTER" "Ljava/util/function/BiFunction;" Z U U.heap
/-- what the law's methods stand on beside their world -/
def LAm (ad : Nat → Nat) (Z : Nat → Prop) (U : State) : Prop := AM Z U ∧ ASx (fun _ => ad 0) (fun _ => ad 1) Z U ∧ BSx ad Z U ∧ DGx (ad 40) (ad 41) Z U ∧ SIx Z U
theorem va_T.at {ty : FieldType} {t N : Nat} {f : Nat → Value} {Z : Nat → Prop} {U : State} {H : Heap} (h : va_T ty t N f Z U H) : va_T ty t N f (zz_A Z H.size) U H := by
  obtain ⟨d1, d2, d3, d4, d5, d6, d7, d8⟩ := h
  exact ⟨d1, d2, d3, d4, d5, d6, d7, al_in d2 d8⟩
theorem va_Z.at {C n d : String} {v : Value} {Z : Nat → Prop} {U : State} {H : Heap} (h : va_Z C n d v Z U H) : va_Z C n d v (zz_A Z H.size) U H := by
  obtain ⟨cf, kf, fi, f, a, ce, e1, e2, e3, e4, e5, e6, e7, e8⟩ := h
  exact ⟨cf, kf, fi, f, a, ce, e1, e2, e3, e4, e5, e6, e7, al_in e5 e8⟩
theorem va_Zq.at {C n d : String} {Z : Nat → Prop} {U : State} {H : Heap} (h : va_Zq C n d Z U H) : va_Zq C n d (zz_A Z H.size) U H := h.elim (fun h => Or.inl h.at) (fun ⟨t, h⟩ => Or.inr ⟨t, h.at⟩)
theorem va_O.at {E : String} {t : Nat} {Z : Nat → Prop} {U : State} {H : Heap} (h : va_O E t Z U H) : va_O E t (zz_A Z H.size) U H := by
  obtain ⟨d1, d2, d3, d4, d5⟩ := h
  exact ⟨d1, d2, d3, d4, al_in d2 d5⟩
theorem va_OF.at {o n d : String} {v : Value} {t : Nat} {Z : Nat → Prop} {U : State} {H : Heap} (h : va_OF o n d v t Z U H) : va_OF o n d v t (zz_A Z H.size) U H := by
  obtain ⟨d1, d2, d3, d4, d5, d6, d7, d8, d9, d10, d11⟩ := h
  exact ⟨d1, d2, d3, d4, d5, d6, d7, d8, d9, d10, al_in d8 d11⟩
theorem vk_S.at {N : Nat} {len : List Nat} {byt : List (List Int32)} {aK aV : Nat → Nat} {Z : Nat → Prop} {U : State} (h : vk_S N len byt aK aV Z U U.heap) : vk_S N len byt aK aV (zz_A Z U.heap.size) U U.heap := ⟨fun i hi => ⟨(h.1 i hi).1.at, (h.1 i hi).2.1.at, (h.1 i hi).2.2.1.at, (h.1 i hi).2.2.2.at⟩, h.2⟩
section LAS
variable {ad : Nat → Nat} {s U : State} {Z Y : Nat → Prop} {locs : List Loc} {t1 t2 : Nat} {g : JFrame} {mk : MethodId} {a : Array Value}
theorem DGx.at (h : DGx t1 t2 Z U) : DGx t1 t2 (zz_A Z U.heap.size) U := ⟨h.1.at, h.2.1.at, h.2.2.1.at, h.2.2.2.at⟩
theorem DGx.narrow (h : DGx t1 t2 Z U) (hz : ∀ q, Y q → Z q) : DGx t1 t2 Y U := ⟨h.1.narrow hz, h.2.1.narrow hz, h.2.2.1.narrow hz, h.2.2.2.narrow hz⟩
theorem DGx.moved (hW : s.vm.Alike U.vm) (hS : va_S Z s.heap U.heap locs) (h : DGx t1 t2 Z s) : DGx t1 t2 Z U := ⟨va_Z.moved hW (h.1.kept hS.2.1), va_T.moved hW (h.2.1.kept hS.2.1), va_Z.moved hW (h.2.2.1.kept hS.2.1), va_T.moved hW (h.2.2.2.kept hS.2.1)⟩
theorem DGx.calling (h : DGx t1 t2 Z U) : DGx t1 t2 Z (U.calling g mk a) := ⟨va_Z.moved (u := U) (U := U.calling g mk a) (Vm.Alike.refl U.vm) h.1, va_T.moved (u := U) (U := U.calling g mk a) (Vm.Alike.refl U.vm) h.2.1, va_Z.moved (u := U) (U := U.calling g mk a) (Vm.Alike.refl U.vm) h.2.2.1, va_T.moved (u := U) (U := U.calling g mk a) (Vm.Alike.refl U.vm) h.2.2.2⟩
theorem SIx.at (h : SIx Z U) : SIx (zz_A Z U.heap.size) U := va_Zq.at h
theorem SIx.narrow (h : SIx Z U) (hz : ∀ q, Y q → Z q) : SIx Y U := va_Zq.narrow h hz
theorem SIx.moved (hW : s.vm.Alike U.vm) (hS : va_S Z s.heap U.heap locs) (h : SIx Z s) : SIx Z U := va_Zq.moved hW (va_Zq.kept h hS.2.1)
theorem SIx.calling (h : SIx Z U) : SIx Z (U.calling g mk a) := va_Zq.moved (u := U) (U := U.calling g mk a) (Vm.Alike.refl U.vm) h
theorem BSx.at (h : BSx ad Z U) : BSx ad (zz_A Z U.heap.size) U := ⟨h.1.at, h.2⟩
theorem BSx.narrow (h : BSx ad Z U) (hz : ∀ q, Y q → Z q) : BSx ad Y U := ⟨h.1.narrow hz, h.2⟩
theorem BSx.moved (hW : s.WarmedH U.vm) (hS : va_S Z s.heap U.heap locs) (h : BSx ad Z s) : BSx ad Z U := ⟨vk_S.moved hW.alike (h.1.kept hS.2.1), vk_R.warm hW h.2.1, vk_R.warm hW h.2.2.1, vk_R.warm hW h.2.2.2.1, vk_R.warm hW h.2.2.2.2.1, vk_R.warm hW h.2.2.2.2.2.1, vk_R.warm hW h.2.2.2.2.2.2⟩
theorem BSx.calling (h : BSx ad Z U) : BSx ad Z (U.calling g mk a) := ⟨vk_S.moved (u := U) (U := U.calling g mk a) (Vm.Alike.refl U.vm) h.1, vk_R.same (u := U) (U := U.calling g mk a) rfl h.2.1, vk_R.same (u := U) (U := U.calling g mk a) rfl h.2.2.1, vk_R.same (u := U) (U := U.calling g mk a) rfl h.2.2.2.1, vk_R.same (u := U) (U := U.calling g mk a) rfl h.2.2.2.2.1, vk_R.same (u := U) (U := U.calling g mk a) rfl h.2.2.2.2.2.1, vk_R.same (u := U) (U := U.calling g mk a) rfl h.2.2.2.2.2.2⟩
theorem LAm.at (h : LAm ad Z U) : LAm ad (zz_A Z U.heap.size) U := ⟨h.1.at, h.2.1.at, h.2.2.1.at, h.2.2.2.1.at, h.2.2.2.2.at⟩
theorem LAm.narrow (h : LAm ad Z U) (hz : ∀ q, Y q → Z q) : LAm ad Y U := ⟨h.1.narrow hz, h.2.1.narrow hz, h.2.2.1.narrow hz, h.2.2.2.1.narrow hz, h.2.2.2.2.narrow hz⟩
theorem LAm.moved (hW : s.WarmedH U.vm) (hS : va_S Z s.heap U.heap locs) (h : LAm ad Z s) : LAm ad Z U := ⟨h.1.moved hW hS, h.2.1.moved hW hS, h.2.2.1.moved hW hS, h.2.2.2.1.moved hW.alike hS, h.2.2.2.2.moved hW.alike hS⟩
theorem LAm.calling (h : LAm ad Z U) : LAm ad Z (U.calling g mk a) := ⟨h.1.calling, h.2.1.calling, h.2.2.1.calling, h.2.2.2.1.calling, h.2.2.2.2.calling⟩
end LAS
section LLS
variable {p : Program} {l : Launch} {e : Env} {R : Room} {s : State} {m : MethodId} {args : Array Value} {below : List Frame} {meth : Method} {c : Code} {cells slots : Nat} {Q : State → Prop} {n : Nat} {lv lv' : List (Nat × Value)} {st st0 : List Value} {cc : ByteArray} {Ts : List Cond} {own : String} {D : va_G} {C : Nat → ClassId} {K ad : Nat → Nat} {kL kH : Nat} {x : Int32} {u : CSt} {b : Nat → Bool} {q : LSt} {F : Nat → Int32} {hs : Nat → Bool} {G T : Nat → Nat → Int32} {mc ms : Nat}
theorem LW_0 : (LW C K kL kH q)[129]? = some (kL, .inr (7, [.int q.1, .ref (K 0), .ref kH])) := by
  unfold LW
  rw [List.getElem?_append_right (by rw [DW_len]; exact Nat.le_refl _), DW_len]
  rfl
theorem LW_1 : (LW C K kL kH q)[130]? = some (kH, .inl (C 3, 3072, .inl (fun j => bI (q.2.2 j)))) := by
  unfold LW
  rw [List.getElem?_append_right (by rw [DW_len]; decide), DW_len]
  rfl
theorem LW_set0 {y : Int32} : (LW C K kL kH q).set 129 (kL, .inr (7, ([.int q.1, .ref (K 0), .ref kH] : List Value).set 0 (.int y))) = LW C K kL kH (y, q.2) := by
  unfold LW
  rw [List.set_append_right _ _ (by rw [DW_len]; exact Nat.le_refl _), DW_len]
  rfl
theorem LW_set1 {y : Nat → Bool} : (LW C K kL kH q).set 130 (kH, .inl (C 3, 3072, .inl (fun j => bI (y j)))) = LW C K kL kH (q.1, q.2.1, y) := by
  unfold LW
  rw [List.set_append_right _ _ (by rw [DW_len]; decide), DW_len]
  rfl
theorem LWc_key {k : Nat} {z : Nat × va_E} (hk : (LWc C K kL kH x b)[k]? = some z) : (k = 0 ∧ z.1 = kL) ∨ (k = 1 ∧ z.1 = kH) := by
  match k, hk with
  | 0, hk => cases hk; exact Or.inl ⟨rfl, rfl⟩
  | 1, hk => cases hk; exact Or.inr ⟨rfl, rfl⟩
  | k + 2, hk => exact absurd hk (by simp [LWc])
theorem LWc_D (hne : kL ≠ kH) {A : Nat → Prop} (h1 : A kL) (h2 : A kH) : va_D A (LWc C K kL kH x b) := by
  refine ⟨fun i j y z hi hj hyz => ?_, fun k z hk => ?_⟩
  · rcases LWc_key hi with ⟨a1, a2⟩ | ⟨a1, a2⟩ <;> rcases LWc_key hj with ⟨a3, a4⟩ | ⟨a3, a4⟩
    · omega
    · exact absurd (a2.symm.trans (hyz.trans a4)) hne
    · exact absurd (a4.symm.trans (hyz.symm.trans a2)) hne
    · omega
  · rcases LWc_key hk with ⟨_, a2⟩ | ⟨_, a2⟩ <;> rw [a2] <;> assumption
theorem LW_D (h : LAp K kL kH) (sz : Nat) : va_D (zz_A (LZ K kL kH) sz) (LW C K kL kH q) := by
  refine va_D.app ((h.1 C _ _ _ _).weaken (fun _ _ hk _ => Or.inl (Or.inl (DW_ad hk)))) (LWc_D h.2.2.2.1 (Or.inl (Or.inr (Or.inl rfl))) (Or.inl (Or.inr (Or.inr rfl)))) (fun i j y z hy hz hyz => ?_)
  have h1 := DW_ad hy
  rw [hyz] at h1
  rcases LWc_key hz with ⟨_, a2⟩ | ⟨_, a2⟩ <;> rw [a2] at h1
  · exact h.2.1 h1
  · exact h.2.2.1 h1
theorem LWc_kept {H H1 : Heap} (h : LAp K kL kH) (hP : va_P D vwCl (LWc C K kL kH x b) H) (hk : ∀ q : Nat, q < H.size → ¬ zz_A (DAd K) H.size q → H1[q]? = H[q]?) : va_P D vwCl (LWc C K kL kH x b) H1 := va_P.kept hP (fun k z hz => by
  have hlt := va_at.lt (hP k z hz)
  refine hk z.1 hlt (fun w => w.elim (fun w => ?_) (fun w => absurd hlt (Nat.not_lt.mpr w)))
  rcases LWc_key hz with ⟨_, a2⟩ | ⟨_, a2⟩ <;> rw [a2] at w
  · exact h.2.1 w
  · exact h.2.2.1 w)
theorem LP_keep (H H1 : Heap) (h : LPo D C K kL kH q H) (_ : H.size ≤ H1.size) (hk : ∀ q : Nat, q < H.size → H1[q]? = H[q]?) : LPo D C K kL kH q H1 := va_P.kept h (fun k z hz => hk z.1 (va_at.lt (h k z hz)))
theorem ll_get (pc : Nat) (X : CCx p s m args c cc Ts own D C) (hin : ∀ w ∈ wsL0, w ∈ Ts) (k : Nat) (hk : k < 3) {v : Value} (hv : ([.int x, .ref (K 0), .ref kH] : List Value)[k]? = some v) {index : Nat} (hl : Cond.fieldLink own index RL (TL k).2.1 (TL k).2.2.1 ∈ Ts) (hsm : (TL k).1 = RL) (hd : decode cc pc = .ok (.getfield index, 3)) (kk : ZZ p l e R s m args below meth c cells slots Q (zz_A (LZ K kL kH) s.heap.size) (LPo D C K kL kH (x, u, b)) n lv (v :: st) (pc + 3)) : ZZ p l e R s m args below meth c cells slots Q (zz_A (LZ K kL kH) s.heap.size) (LPo D C K kL kH (x, u, b)) n lv (.ref kL :: st) pc := fun H locs ls hP hS hlv =>
  va_get (D := D) (ci := 7) (C := RL) (T := TL) (N := 3) (ref := RL) X.1.1 X.1.2 X.2.1 hin X.2.2.1 X.2.2.2 hP 129 LW_0 rfl k hk (X.2.1 _ hl) (fun z h => by rw [hsm] at h; exact h) hv hd (kk H locs ls hP hS hlv)
theorem ll_putx (pc : Nat) (hAp : LAp K kL kH) (X : CCx p s m args c cc Ts own D C) (hin : ∀ w ∈ wsL0, w ∈ Ts) {y : Int32} {index : Nat} (hl : Cond.fieldLink own index RL (TL 0).2.1 (TL 0).2.2.1 ∈ Ts) (hsm : (TL 0).1 = RL ∧ (TL 0).2.2.2 = false) (hty : parseFieldDescriptor (TL 0).2.2.1 = some .int) (hd : decode cc pc = .ok (.putfield index, 3)) (kk : ZZ p l e R s m args below meth c cells slots Q (zz_A (LZ K kL kH) s.heap.size) (LPo D C K kL kH (y, u, b)) n lv st (pc + 3)) : ZZ p l e R s m args below meth c cells slots Q (zz_A (LZ K kL kH) s.heap.size) (LPo D C K kL kH (x, u, b)) n lv (.int y :: .ref kL :: st) pc := fun H locs ls hP hS hlv =>
  va_put (D := D) (ci := 7) (C := RL) (T := TL) (N := 3) (ref := RL) X.1.1 X.1.2 X.2.1 hin tyL tyL_ok nmL X.2.2.1 X.2.2.2 hP (LW_D hAp _) hS 129 LW_0 rfl 0 (by decide) (X.2.1 _ hl) (fun z h => by rw [hsm.1] at h; exact h) hsm.2 hty rfl rfl (show 0 < 3 by decide) hd (fun H1 locs1 hP1 _ hS1 => kk H1 locs1 ls (by rw [LW_set0] at hP1; exact hP1) hS1 hlv)
theorem ll_bald (pc : Nat) (X : CCx p s m args c cc Ts own D C) {i : Nat} (hi : i < 3072) (hd : decode cc pc = .ok (.baload, 1)) (kk : ZZ p l e R s m args below meth c cells slots Q (zz_A (LZ K kL kH) s.heap.size) (LPo D C K kL kH (x, u, b)) n lv (.int (bI (b i)) :: st) (pc + 1)) : ZZ p l e R s m args below meth c cells slots Q (zz_A (LZ K kL kH) s.heap.size) (LPo D C K kL kH (x, u, b)) n lv (.int (nI i) :: .ref kH :: st) pc := fun H locs ls hP hS hlv =>
  va_zald (n := 3072) (f := fun j => bI (b j)) X.1.1 X.1.2 X.2.2.2 hP 130 3 LW_1 rfl (vp_in_nI hi (by decide)) hd (by rw [nI_clamp (Nat.lt_trans hi (by decide))]; exact kk H locs ls hP hS hlv)
theorem ll_bast (pc : Nat) (hAp : LAp K kL kH) (X : CCx p s m args c cc Ts own D C) {i : Nat} {y : Bool} (hi : i < 3072) (hd : decode cc pc = .ok (.bastore, 1)) (kk : ZZ p l e R s m args below meth c cells slots Q (zz_A (LZ K kL kH) s.heap.size) (LPo D C K kL kH (x, u, va_up b i y)) n lv st (pc + 1)) : ZZ p l e R s m args below meth c cells slots Q (zz_A (LZ K kL kH) s.heap.size) (LPo D C K kL kH (x, u, b)) n lv (.int (bI y) :: .int (nI i) :: .ref kH :: st) pc := fun H locs ls hP hS hlv =>
  va_zast (n := 3072) (f := fun j => bI (b j)) X.1.1 X.1.2 X.2.2.2 hP (LW_D hAp _) hS 130 3 LW_1 rfl (vp_in_nI hi (by decide)) hd (fun H1 locs1 hP1 _ hS1 => kk H1 locs1 ls (by rw [nI_clamp (Nat.lt_trans hi (by decide)), bI_vpn, bI_upd, LW_set1] at hP1; exact hP1) hS1 hlv)
theorem lr_L (X : CCx p s m args c cc Ts own D C) (H : Heap) (hP : LPo D C K kL kH q H) : ∃ cellB : Cell, H[kL]? = some cellB ∧ cellB.vm.isStatics = false ∧ s.vm.findClass RL = some cellB.cls := va_recv X.2.2.2 hP (ci := 7) (q0 := 129) rfl LW_0
def LEP (D : va_G) (C : Nat → ClassId) (K : Nat → Nat) (kL kH : Nat) (ad : Nat → Nat) (q : LSt) (_ : Nat) : State → Prop := fun U => LPo D C K kL kH q U.heap ∧ va_K D vwCl (TY C) U ∧ LAm ad (LZ K kL kH) U
def LWB (D : va_G) (C : Nat → ClassId) (K : Nat → Nat) (kL kH : Nat) : LSt → State → Prop := fun q t => LPo D C K kL kH q t.heap
theorem ll_callDi (pc : Nat) (X : CCx p s m args c cc Ts own D C) (hml : c.maxLocals = n) (hAp : LAp K kL kH) {y : MethodName} {ws ws' : List Cond} {rm : Room} {As : List Value} {post : Int32 → CSt → Prop} {maxL index na : Nat} {ret : Option FieldType} {bytes : ByteArray} (hM : CMi l y ws rm D C K 0 As F hs G T post) (g : GoodIn Ts (wsV own index RX6 y ws)) (hw : ws = Cond.code y bytes maxL ret :: ws') (hr : rm.cells = 0 ∧ rm.slots = 0)
  (hd1 : y.cls = RX6 ∧ y.cls ≠ "java/lang/invoke/MethodHandle" ∧ y.cls ≠ "java/lang/invoke/VarHandle" ∧ (parseMethodDescriptor y.desc).map (fun d => d.parameters.length) = some na) (hR : rm.frames + 1 ≤ R.frames ∧ 8 + (maxL + 11) + rm.locals ≤ R.locals) (hn : As.length = na) (hs0 : st0 = As.reverse ++ .ref (K 0) :: st) (hwd : (st.map fun v => v.category).sum ≤ 8) (hf : cells ≤ R.cells ∧ slots ≤ R.slots) (hd : decode cc pc = .ok (.invokevirtual index, 3))
  (kk : ∀ (r : Int32) (q : CSt), post r q → ZZ p l e R s m args below meth c cells slots Q (zz_A (LZ K kL kH) s.heap.size) (LPo D C K kL kH (x, q, b)) n lv (.int r :: st) (pc + 3)) : ZZ p l e R s m args below meth c cells slots Q (zz_A (LZ K kL kH) s.heap.size) (LPo D C K kL kH (x, (F, hs, G, T), b)) n lv st0 pc :=
  zz_callVi (nL := 0) (P' := fun q => LPo D C K kL kH (x, q, b)) pc ⟨X.1.1, X.1.2, hml, X.2.2.1, X.2.1⟩ hM (cwV na X.2.1 g hw hr.1 hr.2 hd1 hR) (fun H h => dr_0 X H (P_left h))
    (fun sz U g mk a q => ⟨q.1, va_K.moved (u := U) (U := U.calling g mk a) (Vm.Alike.refl U.vm) q.2⟩) (fun H locs U hP hS hU hA => ⟨by rw [hU]; exact P_left hP, va_K.moved hA X.2.2.2⟩) (fun q h => Or.inl (Or.inl h)) (fun q h => Or.inr h) (fun q H t hP hB _ _ hk => va_P.app hB (LWc_kept hAp (P_right hP) hk)) hn hs0 hwd hf hd kk
theorem ll_callDl (pc : Nat) (X : CCx p s m args c cc Ts own D C) (hml : c.maxLocals = n) (hAp : LAp K kL kH) {y : MethodName} {ws ws' : List Cond} {rm : Room} {As : List Value} {post : Int64 → CSt → Prop} {maxL index na : Nat} {ret : Option FieldType} {bytes : ByteArray} (hM : CMl l y ws rm D C K 0 As F hs G T post) (g : GoodIn Ts (wsV own index RX6 y ws)) (hw : ws = Cond.code y bytes maxL ret :: ws') (hr : rm.cells = 0 ∧ rm.slots = 0)
  (hd1 : y.cls = RX6 ∧ y.cls ≠ "java/lang/invoke/MethodHandle" ∧ y.cls ≠ "java/lang/invoke/VarHandle" ∧ (parseMethodDescriptor y.desc).map (fun d => d.parameters.length) = some na) (hR : rm.frames + 1 ≤ R.frames ∧ 8 + (maxL + 11) + rm.locals ≤ R.locals) (hn : As.length = na) (hs0 : st0 = As.reverse ++ .ref (K 0) :: st) (hwd : (st.map fun v => v.category).sum ≤ 8) (hf : cells ≤ R.cells ∧ slots ≤ R.slots) (hd : decode cc pc = .ok (.invokevirtual index, 3))
  (kk : ∀ (r : Int64) (q : CSt), post r q → ZZ p l e R s m args below meth c cells slots Q (zz_A (LZ K kL kH) s.heap.size) (LPo D C K kL kH (x, q, b)) n lv (.long r :: st) (pc + 3)) : ZZ p l e R s m args below meth c cells slots Q (zz_A (LZ K kL kH) s.heap.size) (LPo D C K kL kH (x, (F, hs, G, T), b)) n lv st0 pc :=
  zz_callVl (nL := 0) (P' := fun q => LPo D C K kL kH (x, q, b)) pc ⟨X.1.1, X.1.2, hml, X.2.2.1, X.2.1⟩ hM (cwV na X.2.1 g hw hr.1 hr.2 hd1 hR) (fun H h => dr_0 X H (P_left h))
    (fun sz U g mk a q => ⟨q.1, va_K.moved (u := U) (U := U.calling g mk a) (Vm.Alike.refl U.vm) q.2⟩) (fun H locs U hP hS hU hA => ⟨by rw [hU]; exact P_left hP, va_K.moved hA X.2.2.2⟩) (fun q h => Or.inl (Or.inl h)) (fun q h => Or.inr h) (fun q H t hP hB _ _ hk => va_P.app hB (LWc_kept hAp (P_right hP) hk)) hn hs0 hwd hf hd kk
theorem ll_callDA (pc : Nat) (X : CCx p s m args c cc Ts own D C) (hLA : LAm ad (zz_A (LZ K kL kH) s.heap.size) s) (hml : c.maxLocals = n) (hAp : LAp K kL kH) {y : MethodName} {ws ws' : List Cond} {rm : Room} {As : List Value} {post : Int32 → CSt → Prop} {maxL index na : Nat} {ret : Option FieldType} {bytes : ByteArray} (hM : CAi l y ws rm D C K (fun _ => ad 0) (fun _ => ad 1) 0 As F hs G T post) (g : GoodIn Ts (wsV own index RX6 y ws)) (hw : ws = Cond.code y bytes maxL ret :: ws') (hr : rm.cells = 0 ∧ rm.slots = 0)
  (hd1 : y.cls = RX6 ∧ y.cls ≠ "java/lang/invoke/MethodHandle" ∧ y.cls ≠ "java/lang/invoke/VarHandle" ∧ (parseMethodDescriptor y.desc).map (fun d => d.parameters.length) = some na) (hR : rm.frames + 1 ≤ R.frames ∧ 8 + (maxL + 11) + rm.locals ≤ R.locals) (hn : As.length = na) (hs0 : st0 = As.reverse ++ .ref (K 0) :: st) (hwd : (st.map fun v => v.category).sum ≤ 8) (hf : cells ≤ R.cells ∧ slots ≤ R.slots) (hd : decode cc pc = .ok (.invokevirtual index, 3))
  (kk : ∀ (r : Int32) (q : CSt), post r q → ZZ p l e R s m args below meth c cells slots Q (zz_A (LZ K kL kH) s.heap.size) (LPo D C K kL kH (x, q, b)) n lv (.int r :: st) (pc + 3)) : ZZ p l e R s m args below meth c cells slots Q (zz_A (LZ K kL kH) s.heap.size) (LPo D C K kL kH (x, (F, hs, G, T), b)) n lv st0 pc :=
  zz_callViW (nL := 0) (P' := fun q => LPo D C K kL kH (x, q, b)) pc ⟨X.1.1, X.1.2, hml, X.2.2.1, X.2.1⟩ hM (cwV na X.2.1 g hw hr.1 hr.2 hd1 hR) (fun H h => dr_0 X H (P_left h))
    (fun sz U g mk a q => ⟨⟨q.1.1, va_K.moved (u := U) (U := U.calling g mk a) (Vm.Alike.refl U.vm) q.1.2⟩, q.2.calling⟩) (fun H locs U hP hS hU hW => ⟨⟨by rw [hU]; exact P_left hP, va_K.moved hW.alike X.2.2.2⟩, (hLA.2.1.moved hW (by rw [hU]; exact hS)).narrow (fun q h => Or.inl (Or.inl h))⟩) (fun q h => Or.inl (Or.inl h)) (fun q h => Or.inr h) (fun q H t hP hB _ _ hk => va_P.app hB (LWc_kept hAp (P_right hP) hk)) hn hs0 hwd hf hd kk
theorem ll_callDX {E : String} {u0 : CSt} (pc : Nat) (X : CCx p s m args c cc Ts own D C) (hLA : LAm ad (zz_A (LZ K kL kH) s.heap.size) s) (hml : c.maxLocals = n) (hAp : LAp K kL kH) {y : MethodName} {ws ws' : List Cond} {rm : Room} {As : List Value} {maxL index na : Nat} {ret : Option FieldType} {bytes : ByteArray} (hM : CX l y ws rm D C K 0 As F hs G T E u0) (g : GoodIn Ts (wsV own index RX6 y ws)) (hw : ws = Cond.code y bytes maxL ret :: ws') (hr : rm.cells = 1 ∧ rm.slots = 6)
  (hd1 : y.cls = RX6 ∧ y.cls ≠ "java/lang/invoke/MethodHandle" ∧ y.cls ≠ "java/lang/invoke/VarHandle" ∧ (parseMethodDescriptor y.desc).map (fun d => d.parameters.length) = some na) (hR : rm.frames + 1 ≤ R.frames ∧ 8 + (maxL + 11) + rm.locals ≤ R.locals) (hn : As.length = na) (hs0 : st0 = As.reverse ++ .ref (K 0) :: st) (hwd : (st.map fun v => v.category).sum ≤ 8) (hf : cells + 1 ≤ R.cells ∧ slots + 6 ≤ R.slots) (hd : decode cc pc = .ok (.invokevirtual index, 3))
  (pre : List ExceptionTableEntry) (z : ExceptionTableEntry) (suf : List ExceptionTableEntry) (hsplit : c.exceptionTable.toList = pre ++ z :: suf) (hpass : ∀ z ∈ pre, covers z pc = false ∨ (z.catchType ≠ 0 ∧ ∃ nm : String, (Cond.classLink own z.catchType nm).before args s = true ∧ va_Nc E nm s)) (hx : covers z pc = true) (h0 : z.catchType ≠ 0) {name : String} (hlink : Cond.classLink own z.catchType name ∈ Ts) (hcast : Cond.castable E name ∈ xDc) {hpc : Nat} (hh : z.handlerPc = hpc)
  (kk : ∀ q9 : Nat, ZZ p l e R s m args below meth c (cells + 1) (slots + 6) Q (zz_A (LZ K kL kH) s.heap.size) (LPo D C K kL kH (x, u0, b)) n lv [.ref q9] hpc) : ZZ p l e R s m args below meth c cells slots Q (zz_A (LZ K kL kH) s.heap.size) (LPo D C K kL kH (x, (F, hs, G, T), b)) n lv st0 pc := by
  subst hs0
  intro H locs ls hP hS hlv
  have hF : ∀ q, zz_A (DAd K) H.size q → (zz_A (LZ K kL kH) s.heap.size) q := fun q h => h.elim (fun h => Or.inl (Or.inl h)) (fun h => Or.inr (Nat.le_trans hS.1 h))
  refine vx_callv (vx_runV ⟨X.1.1, X.1.2, hml, X.2.2.1, X.2.1⟩ (hM H.size) (cwV na X.2.1 g hw hr.1 hr.2 hd1 hR) ⟨fun a U g mk q => ⟨q.1, q.2.1, ⟨q.2.2.1.1, va_K.moved (u := U) (U := U.calling g mk a) (Vm.Alike.refl U.vm) q.2.2.1.2⟩, q.2.2.2.calling⟩, dr_0 X H (P_left hP), fun U hU hW => ⟨rfl, by rw [hU], ⟨by rw [hU]; exact P_left hP, va_K.moved hW.alike X.2.2.2⟩, (hLA.1.moved hW (by rw [hU]; exact hS)).narrow (fun q h => Or.inl (Or.inl h))⟩⟩ rfl hn hlv.1 rfl (lv_room hwd) hd hf) hS (fun q _ h => hF q h) hF (fun q _ h => hF q h) ?_ (fun q t H1 locs1 _ _ hp => hp.elim)
  intro E' ce q9 q t H1 locs1 hth hvm hpx hbx hz hk hS1 hce hcv hcl
  obtain ⟨rfl, hB⟩ := hbx
  have hq : q = u0 := hpx
  subst hq
  subst hth
  refine vx_catch X.2.2.1 pre z suf hsplit hpass hx h0 (X.2.1 _ hlink) (va_tabs ?_ rfl (hLA.1.2.2.2 _ hcast)) hce hcv hcl ?_
  · rfl
  · rw [hh]
    exact kk q9 t.heap locs1 ls (va_P.app hB (LWc_kept hAp (P_right hP) hk)) hS1 hlv
def LMi (l : Launch) (y : MethodName) (ws : List Cond) (rm : Room) (D : va_G) (C : Nat → ClassId) (K : Nat → Nat) (kL kH : Nat) (ad : Nat → Nat) (mc ms : Nat) (As : List Value) (x : Int32) (F : Nat → Int32) (hs : Nat → Bool) (G T : Nat → Nat → Int32) (b : Nat → Bool) (post : Int32 → LSt → Prop) : Prop := ∀ sz : Nat, Met l y ws rm (va_Pc (.ref kL :: As) (zz_E (LEP D C K kL kH ad (x, (F, hs, G, T), b)) sz)) (va_Qi post (LWB D C K kL kH) (zz_A (LZ K kL kH) sz)) mc ms (zz_A (LZ K kL kH) sz)
theorem LMi_of {y : MethodName} {ws ws' : List Cond} {rm : Room} {As : List Value} {post : Int32 → LSt → Prop} {maxL : Nat} {ret : Option FieldType} (hw : ws = Cond.code y cc maxL ret :: ws') (hy : plainName y.cls = true) (hn : (lg_sl (.ref kL :: As)).length ≤ maxL) (hlv : lv_args 0 (.ref kL :: As) = lv)
  (body : ∀ (p : Program) (e : Env) (s : State) (m : MethodId) (args : Array Value) (below : List Frame) (meth : Method) (c : Code), CCx p s m args c cc ws y.cls D C → LAm ad (zz_A (LZ K kL kH) s.heap.size) s → c.maxLocals = maxL → meth.sig.returnType = ret → meth.locks = false → ZZ p l e rm s m args below meth c 0 0 (MQ below (va_Qi post (LWB D C K kL kH) (zz_A (LZ K kL kH) s.heap.size)) args s mc ms (zz_A (LZ K kL kH) s.heap.size)) (zz_A (LZ K kL kH) s.heap.size) (LPo D C K kL kH (x, (F, hs, G, T), b)) maxL lv [] 0) : LMi l y ws rm D C K kL kH ad mc ms As x F hs G T b post := by
  intro sz
  refine Met.ofW (cc := cc) (maxL := maxL) (ret := ret) hy hw ?_
  intro p e s m args below meth c s₁ B hml hv
  obtain ⟨rfl, rfl, hP, hK, hA⟩ := hv
  exact zz_enter (.ref kL :: As) maxL hn hlv hP (body p e s m _ below meth c ⟨⟨B.exec, B.bytes⟩, atoms_spec (ws := ws) B.pre, findClass_of_methodNamed B.named, hK⟩ hA.at hml B.returns B.notSynchronized)
theorem ll_callLi (pc : Nat) (X : CCx p s m args c cc Ts own D C) (hLA : LAm ad (zz_A (LZ K kL kH) s.heap.size) s) (hml : c.maxLocals = n) {y : MethodName} {ws ws' : List Cond} {rm : Room} {As : List Value} {post : Int32 → LSt → Prop} {maxL index na : Nat} {ret : Option FieldType} {bytes : ByteArray} (hM : LMi l y ws rm D C K kL kH ad mc ms As x F hs G T b post) (g : GoodIn Ts (wsV own index RL y ws)) (hw : ws = Cond.code y bytes maxL ret :: ws') (hr : rm.cells = mc ∧ rm.slots = ms)
  (hd1 : y.cls = RL ∧ y.cls ≠ "java/lang/invoke/MethodHandle" ∧ y.cls ≠ "java/lang/invoke/VarHandle" ∧ (parseMethodDescriptor y.desc).map (fun d => d.parameters.length) = some na) (hR : rm.frames + 1 ≤ R.frames ∧ 8 + (maxL + 11) + rm.locals ≤ R.locals) (hn : As.length = na) (hs0 : st0 = As.reverse ++ .ref kL :: st) (hwd : (st.map fun v => v.category).sum ≤ 8) (hf : cells + mc ≤ R.cells ∧ slots + ms ≤ R.slots) (hd : decode cc pc = .ok (.invokevirtual index, 3))
  (kk : ∀ (r : Int32) (q : LSt), post r q → ZZ p l e R s m args below meth c (cells + mc) (slots + ms) Q (zz_A (LZ K kL kH) s.heap.size) (LPo D C K kL kH q) n lv (.int r :: st) (pc + 3)) : ZZ p l e R s m args below meth c cells slots Q (zz_A (LZ K kL kH) s.heap.size) (LPo D C K kL kH (x, (F, hs, G, T), b)) n lv st0 pc := 
  zz_callViW (nL := 0) (P' := fun q => LPo D C K kL kH q) pc ⟨X.1.1, X.1.2, hml, X.2.2.1, X.2.1⟩ hM (cwV na X.2.1 g hw hr.1 hr.2 hd1 hR) (fun H h => lr_L X H h)
    (fun sz U g mk a q => ⟨q.1, va_K.moved (u := U) (U := U.calling g mk a) (Vm.Alike.refl U.vm) q.2.1, q.2.2.calling⟩) (fun H locs U hP hS hU hW => ⟨by rw [hU]; exact hP, va_K.moved hW.alike X.2.2.2, (hLA.moved hW (by rw [hU]; exact hS)).narrow (fun q h => Or.inl h)⟩) (fun q h => Or.inl h) (fun q h => Or.inr h) (fun q H t _ hB _ _ _ => hB) hn hs0 hwd hf hd kk
def LMl (l : Launch) (y : MethodName) (ws : List Cond) (rm : Room) (D : va_G) (C : Nat → ClassId) (K : Nat → Nat) (kL kH : Nat) (ad : Nat → Nat) (mc ms : Nat) (As : List Value) (x : Int32) (F : Nat → Int32) (hs : Nat → Bool) (G T : Nat → Nat → Int32) (b : Nat → Bool) (post : Int64 → LSt → Prop) : Prop := ∀ sz : Nat, Met l y ws rm (va_Pc (.ref kL :: As) (zz_E (LEP D C K kL kH ad (x, (F, hs, G, T), b)) sz)) (va_Ql post (LWB D C K kL kH) (zz_A (LZ K kL kH) sz)) mc ms (zz_A (LZ K kL kH) sz)
theorem LMl_of {y : MethodName} {ws ws' : List Cond} {rm : Room} {As : List Value} {post : Int64 → LSt → Prop} {maxL : Nat} {ret : Option FieldType} (hw : ws = Cond.code y cc maxL ret :: ws') (hy : plainName y.cls = true) (hn : (lg_sl (.ref kL :: As)).length ≤ maxL) (hlv : lv_args 0 (.ref kL :: As) = lv)
  (body : ∀ (p : Program) (e : Env) (s : State) (m : MethodId) (args : Array Value) (below : List Frame) (meth : Method) (c : Code), CCx p s m args c cc ws y.cls D C → LAm ad (zz_A (LZ K kL kH) s.heap.size) s → c.maxLocals = maxL → meth.sig.returnType = ret → meth.locks = false → ZZ p l e rm s m args below meth c 0 0 (MQ below (va_Ql post (LWB D C K kL kH) (zz_A (LZ K kL kH) s.heap.size)) args s mc ms (zz_A (LZ K kL kH) s.heap.size)) (zz_A (LZ K kL kH) s.heap.size) (LPo D C K kL kH (x, (F, hs, G, T), b)) maxL lv [] 0) : LMl l y ws rm D C K kL kH ad mc ms As x F hs G T b post := by
  intro sz
  refine Met.ofW (cc := cc) (maxL := maxL) (ret := ret) hy hw ?_
  intro p e s m args below meth c s₁ B hml hv
  obtain ⟨rfl, rfl, hP, hK, hA⟩ := hv
  exact zz_enter (.ref kL :: As) maxL hn hlv hP (body p e s m _ below meth c ⟨⟨B.exec, B.bytes⟩, atoms_spec (ws := ws) B.pre, findClass_of_methodNamed B.named, hK⟩ hA.at hml B.returns B.notSynchronized)
theorem ll_callLl (pc : Nat) (X : CCx p s m args c cc Ts own D C) (hLA : LAm ad (zz_A (LZ K kL kH) s.heap.size) s) (hml : c.maxLocals = n) {y : MethodName} {ws ws' : List Cond} {rm : Room} {As : List Value} {post : Int64 → LSt → Prop} {maxL index na : Nat} {ret : Option FieldType} {bytes : ByteArray} (hM : LMl l y ws rm D C K kL kH ad mc ms As x F hs G T b post) (g : GoodIn Ts (wsV own index RL y ws)) (hw : ws = Cond.code y bytes maxL ret :: ws') (hr : rm.cells = mc ∧ rm.slots = ms)
  (hd1 : y.cls = RL ∧ y.cls ≠ "java/lang/invoke/MethodHandle" ∧ y.cls ≠ "java/lang/invoke/VarHandle" ∧ (parseMethodDescriptor y.desc).map (fun d => d.parameters.length) = some na) (hR : rm.frames + 1 ≤ R.frames ∧ 8 + (maxL + 11) + rm.locals ≤ R.locals) (hn : As.length = na) (hs0 : st0 = As.reverse ++ .ref kL :: st) (hwd : (st.map fun v => v.category).sum ≤ 8) (hf : cells + mc ≤ R.cells ∧ slots + ms ≤ R.slots) (hd : decode cc pc = .ok (.invokevirtual index, 3))
  (kk : ∀ (r : Int64) (q : LSt), post r q → ZZ p l e R s m args below meth c (cells + mc) (slots + ms) Q (zz_A (LZ K kL kH) s.heap.size) (LPo D C K kL kH q) n lv (.long r :: st) (pc + 3)) : ZZ p l e R s m args below meth c cells slots Q (zz_A (LZ K kL kH) s.heap.size) (LPo D C K kL kH (x, (F, hs, G, T), b)) n lv st0 pc := by
  subst hs0
  intro H locs ls hP hS hl
  have hF : ∀ q, zz_A (LZ K kL kH) H.size q → (zz_A (LZ K kL kH) s.heap.size) q := fun q h => h.elim (fun h => Or.inl h) (fun h => Or.inr (Nat.le_trans hS.1 h))
  refine va_calll (va_runV ⟨X.1.1, X.1.2, hml, X.2.2.1, X.2.1⟩ (hM H.size) (cwV na X.2.1 g hw hr.1 hr.2 hd1 hR) ⟨fun a U g mk q => ⟨q.1, q.2.1, q.2.2.1, va_K.moved (u := U) (U := U.calling g mk a) (Vm.Alike.refl U.vm) q.2.2.2.1, q.2.2.2.2.calling⟩, lr_L X H hP, fun U hU hW => ⟨rfl, by rw [hU], by rw [hU]; exact hP, va_K.moved hW.alike X.2.2.2, (hLA.moved hW (by rw [hU]; exact hS)).narrow (fun q h => Or.inl h)⟩⟩ rfl hn hl.1 rfl (lv_room hwd) hd hf) hS (fun q _ h => hF q h) hF (fun r q t H1 locs1 ht hvm hpo hB hz hk hS1 => ?_)
  subst ht
  exact kk r q hpo t.heap locs1 ls hB hS1 hl
def LMv (l : Launch) (y : MethodName) (ws : List Cond) (rm : Room) (D : va_G) (C : Nat → ClassId) (K : Nat → Nat) (kL kH : Nat) (ad : Nat → Nat) (mc ms : Nat) (As : List Value) (x : Int32) (F : Nat → Int32) (hs : Nat → Bool) (G T : Nat → Nat → Int32) (b : Nat → Bool) (post : LSt → Prop) : Prop := ∀ sz : Nat, Met l y ws rm (va_Pc (.ref kL :: As) (zz_E (LEP D C K kL kH ad (x, (F, hs, G, T), b)) sz)) (va_Qv post (LWB D C K kL kH) (zz_A (LZ K kL kH) sz)) mc ms (zz_A (LZ K kL kH) sz)
theorem LMv_of {y : MethodName} {ws ws' : List Cond} {rm : Room} {As : List Value} {post : LSt → Prop} {maxL : Nat} {ret : Option FieldType} (hw : ws = Cond.code y cc maxL ret :: ws') (hy : plainName y.cls = true) (hn : (lg_sl (.ref kL :: As)).length ≤ maxL) (hlv : lv_args 0 (.ref kL :: As) = lv)
  (body : ∀ (p : Program) (e : Env) (s : State) (m : MethodId) (args : Array Value) (below : List Frame) (meth : Method) (c : Code), CCx p s m args c cc ws y.cls D C → LAm ad (zz_A (LZ K kL kH) s.heap.size) s → c.maxLocals = maxL → meth.sig.returnType = ret → meth.locks = false → ZZ p l e rm s m args below meth c 0 0 (MQ below (va_Qv post (LWB D C K kL kH) (zz_A (LZ K kL kH) s.heap.size)) args s mc ms (zz_A (LZ K kL kH) s.heap.size)) (zz_A (LZ K kL kH) s.heap.size) (LPo D C K kL kH (x, (F, hs, G, T), b)) maxL lv [] 0) : LMv l y ws rm D C K kL kH ad mc ms As x F hs G T b post := by
  intro sz
  refine Met.ofW (cc := cc) (maxL := maxL) (ret := ret) hy hw ?_
  intro p e s m args below meth c s₁ B hml hv
  obtain ⟨rfl, rfl, hP, hK, hA⟩ := hv
  exact zz_enter (.ref kL :: As) maxL hn hlv hP (body p e s m _ below meth c ⟨⟨B.exec, B.bytes⟩, atoms_spec (ws := ws) B.pre, findClass_of_methodNamed B.named, hK⟩ hA.at hml B.returns B.notSynchronized)
theorem ll_callLv (pc : Nat) (X : CCx p s m args c cc Ts own D C) (hLA : LAm ad (zz_A (LZ K kL kH) s.heap.size) s) (hml : c.maxLocals = n) {y : MethodName} {ws ws' : List Cond} {rm : Room} {As : List Value} {post : LSt → Prop} {maxL index na : Nat} {ret : Option FieldType} {bytes : ByteArray} (hM : LMv l y ws rm D C K kL kH ad mc ms As x F hs G T b post) (g : GoodIn Ts (wsV own index RL y ws)) (hw : ws = Cond.code y bytes maxL ret :: ws') (hr : rm.cells = mc ∧ rm.slots = ms)
  (hd1 : y.cls = RL ∧ y.cls ≠ "java/lang/invoke/MethodHandle" ∧ y.cls ≠ "java/lang/invoke/VarHandle" ∧ (parseMethodDescriptor y.desc).map (fun d => d.parameters.length) = some na) (hR : rm.frames + 1 ≤ R.frames ∧ 8 + (maxL + 11) + rm.locals ≤ R.locals) (hn : As.length = na) (hs0 : st0 = As.reverse ++ .ref kL :: st) (hwd : (st.map fun v => v.category).sum ≤ 8) (hf : cells + mc ≤ R.cells ∧ slots + ms ≤ R.slots) (hd : decode cc pc = .ok (.invokevirtual index, 3))
  (kk : ∀ (q : LSt), post q → ZZ p l e R s m args below meth c (cells + mc) (slots + ms) Q (zz_A (LZ K kL kH) s.heap.size) (LPo D C K kL kH q) n lv st (pc + 3)) : ZZ p l e R s m args below meth c cells slots Q (zz_A (LZ K kL kH) s.heap.size) (LPo D C K kL kH (x, (F, hs, G, T), b)) n lv st0 pc := 
  zz_callVvW (nL := 0) (P' := fun q => LPo D C K kL kH q) pc ⟨X.1.1, X.1.2, hml, X.2.2.1, X.2.1⟩ hM (cwV na X.2.1 g hw hr.1 hr.2 hd1 hR) (fun H h => lr_L X H h)
    (fun sz U g mk a q => ⟨q.1, va_K.moved (u := U) (U := U.calling g mk a) (Vm.Alike.refl U.vm) q.2.1, q.2.2.calling⟩) (fun H locs U hP hS hU hW => ⟨by rw [hU]; exact hP, va_K.moved hW.alike X.2.2.2, (hLA.moved hW (by rw [hU]; exact hS)).narrow (fun q h => Or.inl h)⟩) (fun q h => Or.inl h) (fun q h => Or.inr h) (fun q H t _ hB _ _ _ => hB) hn hs0 hwd hf hd kk
end LLS
