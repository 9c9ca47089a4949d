/-! What holds between the two worlds after each call. -/
def INV (u : CSt) (v : MSt) : Prop := u.2.1 = v.2.1 ∧ (u.1 2 = v.1 2 ∧ u.1 16 = v.1 16 ∧ u.1 17 = v.1 17) ∧ (u.2.2.1 3 = v.2.2.2 3 ∧ u.2.2.1 19 = v.2.2.2 19) ∧ (∃ tn : Nat, tn ≤ 400 ∧ u.1 4 = nI tn ∧ v.1 4 = nI tn ∧ HB (u.2.2.1 3) tn) ∧ ∃ w : Nat, w ≤ 5034 ∧ u.1 20 = nI w ∧ v.1 20 = nI w
/-- a call that both sides answer alike: kc is the exception's number, 0 for none -/
def PairI {β : Type} (hW : (Int32 → CSt × Int64 → Prop) → Prop) (hR : (β → MSt → Prop) → Prop) (val : β → Int64) : Prop := ∃ (kc : Nat) (rb : β) (o' : Int64) (CU : CSt → Prop) (RV : MSt → Prop) (postR : β → MSt → Prop), hW (fun r q => r = nI kc ∧ q.2 = o' ∧ CU q.1) ∧ hR postR ∧ (∀ r w, postR r w → r = rb ∧ RV w) ∧ (∀ q w, CU q → RV w → w.1 0 = nI kc ∧ INV q w) ∧ kc < 3 ∧ (kc = 0 → o' = val rb)
def PairD (hW : (Int32 → CSt × UInt64 → Prop) → Prop) (hR : (UInt32 → MSt → Prop) → Prop) : Prop := ∃ (kc : Nat) (rb : UInt32) (o' : UInt64) (CU : CSt → Prop) (RV : MSt → Prop) (postR : UInt32 → MSt → Prop), hW (fun r q => r = nI kc ∧ q.2 = o' ∧ CU q.1) ∧ hR postR ∧ (∀ r w, postR r w → r = rb ∧ RV w) ∧ (∀ q w, CU q → RV w → w.1 0 = nI kc ∧ INV q w) ∧ kc < 3 ∧ (kc = 0 → o' = FP.f2d rb ∧ vf_n32 rb)
def vB (r : Int32) : Int64 := if r = 0 then 0 else 1
theorem wT_le {q : Nat → Bool} {g : Nat → Int32} : (wT q g).2 ≤ 5034 := by
  have h := wS_3 (q := q) (g := upd g 0 (nI 123)) 1024
  have e : (wT q g).2 = (wS q 1024 (upd g 0 (nI 123), 1)).2 + 1 := rfl
  have hb : wB 1024 = 5035 := rfl
  omega
theorem HB_1 {c : Nat} {x : (Nat → Int32) × Nat} (hc : c < 256) (h : HB x.1 x.2) : HB (t1 c x).1 (t1 c x).2 := by
  unfold t1
  by_cases z : c = 0
  · rw [if_pos z]; exact h
  · rw [if_neg z]
    intro j hj
    have hj2 : j < x.2 + 1 := hj
    by_cases e : j = x.2
    · show 0 < (upd x.1 x.2 (nI c) j).toBitVec.toNat ∧ (upd x.1 x.2 (nI c) j).toBitVec.toNat < 256
      have e1 : upd x.1 x.2 (nI c) j = nI c := if_pos e
      have e2 : (nI c).toBitVec.toNat = c := by
        show c % 2 ^ 32 = c
        exact Nat.mod_eq_of_lt (by omega)
      rw [e1, e2]
      omega
    · show 0 < (upd x.1 x.2 (nI c) j).toBitVec.toNat ∧ (upd x.1 x.2 (nI c) j).toBitVec.toNat < 256
      have e1 : upd x.1 x.2 (nI c) j = x.1 j := if_neg e
      rw [e1]
      exact h j (by omega)
theorem HB_4 {a : Int32} {x : (Nat → Int32) × Nat} (h : HB x.1 x.2) : HB (t4 a x).1 (x.2 + nb a) := by
  have h1 : HB (t4 a x).1 (t4 a x).2 := HB_1 by8_lt (HB_1 by8_lt (HB_1 by8_lt (HB_1 by8_lt h)))
  rw [t4_2] at h1
  exact h1
