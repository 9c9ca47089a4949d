/-! The law's script as a text: its letters, tokens and statements. -/
def tsl : List (List Nat) := [[38, 124, 126, 33], [102, 61, 97, 59, 102], [98, 59, 32, 102, 94], [46, 46], [59, 102, 43], [59]]
def tz (i j : Nat) : Nat := ((tsl.getD i []).getD j 0) % 128
theorem tz_lt {i j : Nat} : tz i j < 128 := Nat.mod_lt _ (by decide)
theorem tz_eq : ∀ i, i < 6 → ∀ j, j < lsn.getD i 0 → (lsb.getD i []).getD j 0 = nI (tz i j) ∧ 0 < tz i j := by decide +kernel
theorem sg_at : ∀ k, k < 4 → ∃ sg, (sg = 38 ∨ sg = 124 ∨ sg = 126 ∨ sg = 33) ∧ (lsb.getD 0 []).getD k 0 = nI sg := fun k hk => by
  have hc : k = 0 ∨ k = 1 ∨ k = 2 ∨ k = 3 := by omega
  rcases hc with rfl | rfl | rfl | rfl
  · exact ⟨38, Or.inl rfl, rfl⟩
  · exact ⟨124, Or.inr (Or.inl rfl), rfl⟩
  · exact ⟨126, Or.inr (Or.inr (Or.inl rfl)), rfl⟩
  · exact ⟨33, Or.inr (Or.inr (Or.inr rfl)), rfl⟩
theorem cat_l {t u : Nat → Nat} {n j : Nat} (h : j < n) : cat t n u j = t j := if_pos h
theorem cat_r {t u : Nat → Nat} {n j k : Nat} (h : j = n + k) : cat t n u j = u k := by
  subst h
  unfold cat
  rw [if_neg (by omega), Nat.add_sub_cancel_left]
theorem cat_ok {t u : Nat → Nat} {n w : Nat} (h1 : ∀ j, j < n → 0 < t j ∧ t j < 128) (h2 : ∀ j, j < w → 0 < u j ∧ u j < 128) : ∀ j, j < n + w → 0 < cat t n u j ∧ cat t n u j < 128 := fun j hj => by
  unfold cat
  by_cases h : j < n
  · rw [if_pos h]
    exact h1 j h
  · rw [if_neg h]
    exact h2 _ (by omega)
theorem dgt_ok {v w k : Nat} : 48 ≤ dgt v w k ∧ dgt v w k ≤ 57 := by
  unfold dgt
  have : v / 10 ^ (w - 1 - k) % 10 < 10 := Nat.mod_lt _ (by decide)
  omega
theorem dgs_ok : ∀ v, v < 1024 → v < 10 ^ dgs v ∧ 1 ≤ dgs v ∧ dgs v ≤ 4 := by decide +kernel
/-- a text of n letters, ones behind -/
def pd (t : Nat → Nat) (n : Nat) : Nat → Nat := fun j => if j < n then t j else 1
theorem pd_tx {t : Nat → Nat} {n : Nat} : tx t n = tx (pd t n) n := by
  funext j
  unfold tx pd
  by_cases h : j < n
  · rw [if_pos h, if_pos h, if_pos h]
  · rw [if_neg h, if_neg h]
theorem pd_ok {t : Nat → Nat} {n : Nat} (h : ∀ j, j < n → 0 < t j ∧ t j < 128) : ∀ j, 0 < pd t n j ∧ pd t n j < 128 := fun j => by
  unfold pd
  by_cases z : j < n
  · rw [if_pos z]
    exact h j z
  · rw [if_neg z]
    omega
theorem pd_at {t : Nat → Nat} {n j : Nat} (h : j < n) : pd t n j = t j := if_pos h
def sctx (sg f o q : Nat) : Nat → Nat := (cat (cat (cat (cat (cat (cat (cat (cat (cat (fun _ => 0) (0) (tz 1)) (0 + 5) (fun _ => sg)) (0 + 5 + 1) (tz 2)) (0 + 5 + 1 + 5) (dgt f (dgs f))) (0 + 5 + 1 + 5 + dgs f) (tz 3)) (0 + 5 + 1 + 5 + dgs f + 2) (dgt o (dgs o))) (0 + 5 + 1 + 5 + dgs f + 2 + dgs o) (tz 4)) (0 + 5 + 1 + 5 + dgs f + 2 + dgs o + 3) (dgt q (dgs q))) (0 + 5 + 1 + 5 + dgs f + 2 + dgs o + 3 + dgs q) (tz 5))
def scn (f o q : Nat) : Nat := 0 + 5 + 1 + 5 + dgs f + 2 + dgs o + 3 + dgs q + 1
section SC
variable {sg f o q k : Nat}
theorem sc_ok (hsg : sg = 38 ∨ sg = 124 ∨ sg = 126 ∨ sg = 33) : ∀ j, j < scn f o q → 0 < sctx sg f o q j ∧ sctx sg f o q j < 128 := by
  have ht : ∀ i w, i < 6 → w = lsn.getD i 0 → ∀ j, j < w → 0 < tz i j ∧ tz i j < 128 := fun i w hi hw j hj => ⟨(tz_eq i hi j (hw ▸ hj)).2, tz_lt⟩
  have hd : ∀ v w, ∀ j, j < w → 0 < dgt v w j ∧ dgt v w j < 128 := fun v w j _ => by
    have := dgt_ok (v := v) (w := w) (k := j)
    omega
  exact cat_ok (cat_ok (cat_ok (cat_ok (cat_ok (cat_ok (cat_ok (cat_ok (cat_ok (fun j hj => absurd hj (Nat.not_lt_zero _)) (ht 1 5 (by decide) rfl)) (fun _ _ => by omega)) (ht 2 5 (by decide) rfl)) (hd _ _)) (ht 3 2 (by decide) rfl)) (hd _ _)) (ht 4 3 (by decide) rfl)) (hd _ _)) (ht 5 1 (by decide) rfl)
theorem scc_0 : sctx sg f o q (0) = 102 := (((cat_l (by omega)).trans ((cat_l (by omega)).trans ((cat_l (by omega)).trans ((cat_l (by omega)).trans ((cat_l (by omega)).trans ((cat_l (by omega)).trans ((cat_l (by omega)).trans ((cat_l (by omega)).trans (cat_r (k := 0) (by omega))))))))))).trans (by decide)
theorem scc_1 : sctx sg f o q (1) = 61 := (((cat_l (by omega)).trans ((cat_l (by omega)).trans ((cat_l (by omega)).trans ((cat_l (by omega)).trans ((cat_l (by omega)).trans ((cat_l (by omega)).trans ((cat_l (by omega)).trans ((cat_l (by omega)).trans (cat_r (k := 1) (by omega))))))))))).trans (by decide)
theorem scc_2 : sctx sg f o q (2) = 97 := (((cat_l (by omega)).trans ((cat_l (by omega)).trans ((cat_l (by omega)).trans ((cat_l (by omega)).trans ((cat_l (by omega)).trans ((cat_l (by omega)).trans ((cat_l (by omega)).trans ((cat_l (by omega)).trans (cat_r (k := 2) (by omega))))))))))).trans (by decide)
theorem scc_3 : sctx sg f o q (3) = 59 := (((cat_l (by omega)).trans ((cat_l (by omega)).trans ((cat_l (by omega)).trans ((cat_l (by omega)).trans ((cat_l (by omega)).trans ((cat_l (by omega)).trans ((cat_l (by omega)).trans ((cat_l (by omega)).trans (cat_r (k := 3) (by omega))))))))))).trans (by decide)
theorem scc_4 : sctx sg f o q (4) = 102 := (((cat_l (by omega)).trans ((cat_l (by omega)).trans ((cat_l (by omega)).trans ((cat_l (by omega)).trans ((cat_l (by omega)).trans ((cat_l (by omega)).trans ((cat_l (by omega)).trans ((cat_l (by omega)).trans (cat_r (k := 4) (by omega))))))))))).trans (by decide)
theorem scc_5 : sctx sg f o q (5) = sg := ((cat_l (by omega)).trans ((cat_l (by omega)).trans ((cat_l (by omega)).trans ((cat_l (by omega)).trans ((cat_l (by omega)).trans ((cat_l (by omega)).trans ((cat_l (by omega)).trans (cat_r (k := 0) (by omega)))))))))
theorem scc_6 : sctx sg f o q (6) = 98 := (((cat_l (by omega)).trans ((cat_l (by omega)).trans ((cat_l (by omega)).trans ((cat_l (by omega)).trans ((cat_l (by omega)).trans ((cat_l (by omega)).trans (cat_r (k := 0) (by omega))))))))).trans (by decide)
theorem scc_7 : sctx sg f o q (7) = 59 := (((cat_l (by omega)).trans ((cat_l (by omega)).trans ((cat_l (by omega)).trans ((cat_l (by omega)).trans ((cat_l (by omega)).trans ((cat_l (by omega)).trans (cat_r (k := 1) (by omega))))))))).trans (by decide)
theorem scc_8 : sctx sg f o q (8) = 32 := (((cat_l (by omega)).trans ((cat_l (by omega)).trans ((cat_l (by omega)).trans ((cat_l (by omega)).trans ((cat_l (by omega)).trans ((cat_l (by omega)).trans (cat_r (k := 2) (by omega))))))))).trans (by decide)
theorem scc_9 : sctx sg f o q (9) = 102 := (((cat_l (by omega)).trans ((cat_l (by omega)).trans ((cat_l (by omega)).trans ((cat_l (by omega)).trans ((cat_l (by omega)).trans ((cat_l (by omega)).trans (cat_r (k := 3) (by omega))))))))).trans (by decide)
theorem scc_10 : sctx sg f o q (10) = 94 := (((cat_l (by omega)).trans ((cat_l (by omega)).trans ((cat_l (by omega)).trans ((cat_l (by omega)).trans ((cat_l (by omega)).trans ((cat_l (by omega)).trans (cat_r (k := 4) (by omega))))))))).trans (by decide)
theorem scc_11 : sctx sg f o q (11 + dgs f) = 46 := (((cat_l (by omega)).trans ((cat_l (by omega)).trans ((cat_l (by omega)).trans ((cat_l (by omega)).trans (cat_r (k := 0) (by omega))))))).trans (by decide)
theorem scc_12 : sctx sg f o q (12 + dgs f) = 46 := (((cat_l (by omega)).trans ((cat_l (by omega)).trans ((cat_l (by omega)).trans ((cat_l (by omega)).trans (cat_r (k := 1) (by omega))))))).trans (by decide)
theorem scc_13 : sctx sg f o q (13 + dgs f + dgs o) = 59 := (((cat_l (by omega)).trans ((cat_l (by omega)).trans (cat_r (k := 0) (by omega))))).trans (by decide)
theorem scc_14 : sctx sg f o q (14 + dgs f + dgs o) = 102 := (((cat_l (by omega)).trans ((cat_l (by omega)).trans (cat_r (k := 1) (by omega))))).trans (by decide)
theorem scc_15 : sctx sg f o q (15 + dgs f + dgs o) = 43 := (((cat_l (by omega)).trans ((cat_l (by omega)).trans (cat_r (k := 2) (by omega))))).trans (by decide)
theorem scc_16 : sctx sg f o q (16 + dgs f + dgs o + dgs q) = 59 := ((cat_r (k := 0) (by omega))).trans (by decide)
theorem scd_f (h : k < dgs f) : sctx sg f o q (11 + k) = dgt f (dgs f) k := ((cat_l (by omega)).trans ((cat_l (by omega)).trans ((cat_l (by omega)).trans ((cat_l (by omega)).trans ((cat_l (by omega)).trans (cat_r (k := k) (by omega)))))))
theorem scd_o (h : k < dgs o) : sctx sg f o q (13 + dgs f + k) = dgt o (dgs o) k := ((cat_l (by omega)).trans ((cat_l (by omega)).trans ((cat_l (by omega)).trans (cat_r (k := k) (by omega)))))
theorem scd_q (h : k < dgs q) : sctx sg f o q (16 + dgs f + dgs o + k) = dgt q (dgs q) k := ((cat_l (by omega)).trans (cat_r (k := k) (by omega)))
end SC
section TK
variable {t : Nat → Nat} {n i p q c v : Nat}
theorem tS_next {w : Nat} (hS : tS t n i = p) (hl : tl t n p = w) (hq : sk t n (p + w) = q) : tS t n (i + 1) = q := by
  show sk t n (tS t n i + tl t n (tS t n i)) = q
  rw [hS, hl, hq]
theorem sk_1 (h : p = q) (hq : q < n) (hc : t q = c) (hb : c ≠ 32 ∧ c ≠ 10) : sk t n p = q := by
  subst h
  exact sk_at (Nat.le_refl _) (Nat.le_of_lt hq) (fun _ => by rw [hc]; exact decide_eq_false (by omega)) (fun k a b => absurd b (Nat.not_lt.mpr a))
theorem sk_2 (h : p + 1 = q) (hq : q < n) (h0 : t p = 32) (hc : t q = c) (hb : c ≠ 32 ∧ c ≠ 10) : sk t n p = q := by
  subst h
  refine sk_at (Nat.le_succ _) (Nat.le_of_lt hq) (fun _ => by rw [hc]; exact decide_eq_false (by omega)) (fun k a b => ?_)
  rw [show k = p by omega, h0]
  decide
theorem sk_n (h : p = n) : sk t n p = n := by
  subst h
  exact sk_at (Nat.le_refl _) (Nat.le_refl _) (fun z => absurd z (Nat.lt_irrefl _)) (fun k a b => absurd b (Nat.not_lt.mpr a))
theorem tk_set (hS : tS t n i = p) (hp : p < n) (h1 : t p = c) (h2 : 97 ≤ c ∧ c ≤ 104) (hsk : sk t n (p + 1) = q) : tK t n i = 2 ∧ tV t n i = c - 97 ∧ tS t n (i + 1) = q := by
  have hd : dg (t p) = false := decide_eq_false (by omega)
  obtain ⟨a, b, -⟩ := kd_set hp hd (by omega)
  refine ⟨by unfold tK; rw [hS, a], ?_, tS_next hS b hsk⟩
  unfold tV vl
  rw [hS, if_neg (by rw [hd]; decide), h1]
theorem tk_sgn (hS : tS t n i = p) (hp : p < n) (h1 : t p = c) (h2 : sgn c = true) (hsk : sk t n (p + 1) = q) : tK t n i = c ∧ tS t n (i + 1) = q := by
  obtain ⟨a, b, -⟩ := kd_sg (t := t) hp (by rw [h1]; exact h2)
  exact ⟨by unfold tK; rw [hS, a, h1], tS_next hS b hsk⟩
theorem tk_pts (hS : tS t n i = p) (hp : p < n) (h1 : t p = 46) (h2 : t (p + 1) = 46) (hsk : sk t n (p + 2) = q) : tK t n i = 4 ∧ tS t n (i + 1) = q := by
  obtain ⟨a, b, -⟩ := kd_pts hp h1 h2
  exact ⟨by unfold tK; rw [hS, a], tS_next hS b hsk⟩
theorem nv_dgt {w : Nat} (hv : v < 10 ^ w) (h : ∀ k, k < w → t (p + k) = dgt v w k) : ∀ m, m ≤ w → nv t p m = v / 10 ^ (w - m)
  | 0, _ => by
    show 0 = _
    rw [Nat.sub_zero, Nat.div_eq_of_lt hv]
  | m + 1, hm => by
    have ih := nv_dgt hv h m (by omega)
    show 10 * nv t p m + (t (p + m) - 48) = _
    rw [ih, h m (by omega)]
    unfold dgt
    rw [show w - 1 - m = w - (m + 1) by omega, show w - m = w - (m + 1) + 1 by omega, Nat.pow_succ, ← Nat.div_div_eq_div_mul]
    omega
theorem tk_num (hS : tS t n i = p) (hv : v < 1024) (hp : p + dgs v < n) (hd : ∀ k, k < dgs v → t (p + k) = dgt v (dgs v) k) (he : t (p + dgs v) = c) (hc : c < 48 ∨ 57 < c) (hsk : sk t n (p + dgs v) = q) : tK t n i = 3 ∧ tV t n i = v ∧ tS t n (i + 1) = q := by
  have hv2 := dgs_ok v hv
  have h0 : dg (t p) = true := by
    have h1 := hd 0 (by omega)
    have h2 := dgt_ok (v := v) (w := dgs v) (k := 0)
    have h3 : t p = dgt v (dgs v) 0 := h1
    rw [h3]
    exact decide_eq_true h2
  have hr : dr t n p = dgs v := dr_at (by omega) (fun _ => by rw [he]; exact decide_eq_false (by omega)) (fun k hk => by rw [hd k hk]; exact decide_eq_true dgt_ok)
  have hnv : nv t p (dgs v) = v := by
    rw [nv_dgt hv2.1 hd _ (Nat.le_refl _), Nat.sub_self]
    exact Nat.div_one v
  obtain ⟨a, b, -⟩ := kd_dig (n := n) (by omega) h0
  rw [hr] at a b
  rw [hnv, if_pos ⟨hv2.2.2, hv⟩] at a
  refine ⟨by unfold tK; rw [hS, a], ?_, tS_next hS b hsk⟩
  unfold tV vl
  rw [hS, if_pos h0, hr, hnv]
end TK
/-- the kinds and values of the law's script -/
def SCK (K V : Nat → Nat) (sg f o q : Nat) : Prop := (K 0 = 2 ∧ K 1 = 61 ∧ K 2 = 2 ∧ K 3 = 59 ∧ K 4 = 2 ∧ K 5 = sg ∧ K 6 = 2 ∧ K 7 = 59 ∧ K 8 = 2 ∧ K 9 = 94 ∧ K 10 = 3 ∧ K 11 = 4 ∧ K 12 = 3 ∧ K 13 = 59 ∧ K 14 = 2 ∧ K 15 = 43 ∧ K 16 = 3 ∧ K 17 = 59 ∧ K 18 = 0) ∧ V 0 = 5 ∧ V 2 = 0 ∧ V 4 = 5 ∧ V 6 = 1 ∧ V 8 = 5 ∧ V 10 = f ∧ V 12 = o ∧ V 14 = 5 ∧ V 16 = q
theorem sc_tok {t : Nat → Nat} {sg f o q n : Nat} (hf : f < 1024) (ho : o < 1024) (hq : q < 1024) (hsg : sg = 38 ∨ sg = 124 ∨ sg = 126 ∨ sg = 33) (en : n = scn f o q) (ht : ∀ j, j < n → t j = sctx sg f o q j) : SCK (tK t n) (tV t n) sg f o q := by
  have e1 : n = 17 + dgs f + dgs o + dgs q := by rw [en]; unfold scn; omega
  have g1 := (dgs_ok f hf).2
  have g2 := (dgs_ok o ho).2
  have g3 := (dgs_ok q hq).2
  have c0 : t (0) = 102 := (ht _ (by omega)).trans scc_0
  have c1 : t (1) = 61 := (ht _ (by omega)).trans scc_1
  have c2 : t (2) = 97 := (ht _ (by omega)).trans scc_2
  have c3 : t (3) = 59 := (ht _ (by omega)).trans scc_3
  have c4 : t (4) = 102 := (ht _ (by omega)).trans scc_4
  have c5 : t (5) = sg := (ht _ (by omega)).trans scc_5
  have c6 : t (6) = 98 := (ht _ (by omega)).trans scc_6
  have c7 : t (7) = 59 := (ht _ (by omega)).trans scc_7
  have c8 : t (8) = 32 := (ht _ (by omega)).trans scc_8
  have c9 : t (9) = 102 := (ht _ (by omega)).trans scc_9
  have c10 : t (10) = 94 := (ht _ (by omega)).trans scc_10
  have c11 : t (11 + dgs f) = 46 := (ht _ (by omega)).trans scc_11
  have c12 : t (12 + dgs f) = 46 := (ht _ (by omega)).trans scc_12
  have c13 : t (13 + dgs f + dgs o) = 59 := (ht _ (by omega)).trans scc_13
  have c14 : t (14 + dgs f + dgs o) = 102 := (ht _ (by omega)).trans scc_14
  have c15 : t (15 + dgs f + dgs o) = 43 := (ht _ (by omega)).trans scc_15
  have c16 : t (16 + dgs f + dgs o + dgs q) = 59 := (ht _ (by omega)).trans scc_16
  have n_f : ∀ k, k < dgs f → t (11 + k) = dgt f (dgs f) k := fun k hk => (ht _ (by omega)).trans (scd_f hk)
  have b_f : t (11) = dgt f (dgs f) 0 := n_f 0 (by omega)
  have z_f := dgt_ok (v := f) (w := dgs f) (k := 0)
  have n_o : ∀ k, k < dgs o → t (13 + dgs f + k) = dgt o (dgs o) k := fun k hk => (ht _ (by omega)).trans (scd_o hk)
  have b_o : t (13 + dgs f) = dgt o (dgs o) 0 := n_o 0 (by omega)
  have z_o := dgt_ok (v := o) (w := dgs o) (k := 0)
  have n_q : ∀ k, k < dgs q → t (16 + dgs f + dgs o + k) = dgt q (dgs q) k := fun k hk => (ht _ (by omega)).trans (scd_q hk)
  have b_q : t (16 + dgs f + dgs o) = dgt q (dgs q) 0 := n_q 0 (by omega)
  have z_q := dgt_ok (v := q) (w := dgs q) (k := 0)
  have hsn : sgn sg = true := by rcases hsg with rfl | rfl | rfl | rfl <;> decide
  have k0 : tS t n 0 = 0 := sk_1 rfl (by omega) c0 (by decide)
  have t0 := tk_set (q := 1) k0 (by omega) c0 (by decide) (sk_1 (by omega) (by omega) c1 (by omega))
  have t1 := tk_sgn (q := 2) t0.2.2 (by omega) c1 (by decide) (sk_1 (by omega) (by omega) c2 (by omega))
  have t2 := tk_set (q := 3) t1.2 (by omega) c2 (by decide) (sk_1 (by omega) (by omega) c3 (by omega))
  have t3 := tk_sgn (q := 4) t2.2.2 (by omega) c3 (by decide) (sk_1 (by omega) (by omega) c4 (by omega))
  have t4 := tk_set (q := 5) t3.2 (by omega) c4 (by decide) (sk_1 (by omega) (by omega) c5 (by omega))
  have t5 := tk_sgn (q := 6) t4.2.2 (by omega) c5 hsn (sk_1 (by omega) (by omega) c6 (by omega))
  have t6 := tk_set (q := 7) t5.2 (by omega) c6 (by decide) (sk_1 (by omega) (by omega) c7 (by omega))
  have t7 := tk_sgn (q := 9) t6.2.2 (by omega) c7 (by decide) (sk_2 (by omega) (by omega) c8 c9 (by decide))
  have t8 := tk_set (q := 10) t7.2 (by omega) c9 (by decide) (sk_1 (by omega) (by omega) c10 (by omega))
  have t9 := tk_sgn (q := 11) t8.2.2 (by omega) c10 (by decide) (sk_1 (by omega) (by omega) b_f (by omega))
  have t10 := tk_num (q := 11 + dgs f) (c := 46) t9.2 hf (by omega) n_f c11 (by omega) (sk_1 (by omega) (by omega) c11 (by omega))
  have t11 := tk_pts (q := 13 + dgs f) t10.2.2 (by omega) c11 (show t (11 + dgs f + 1) = 46 from (congrArg t (by omega)).trans c12) (sk_1 (by omega) (by omega) b_o (by omega))
  have t12 := tk_num (q := 13 + dgs f + dgs o) (c := 59) t11.2 ho (by omega) n_o c13 (by omega) (sk_1 (by omega) (by omega) c13 (by omega))
  have t13 := tk_sgn (q := 14 + dgs f + dgs o) t12.2.2 (by omega) c13 (by decide) (sk_1 (by omega) (by omega) c14 (by omega))
  have t14 := tk_set (q := 15 + dgs f + dgs o) t13.2 (by omega) c14 (by decide) (sk_1 (by omega) (by omega) c15 (by omega))
  have t15 := tk_sgn (q := 16 + dgs f + dgs o) t14.2.2 (by omega) c15 (by decide) (sk_1 (by omega) (by omega) b_q (by omega))
  have t16 := tk_num (q := 16 + dgs f + dgs o + dgs q) (c := 59) t15.2 hq (by omega) n_q c16 (by omega) (sk_1 (by omega) (by omega) c16 (by omega))
  have t17 := tk_sgn (q := n) t16.2.2 (by omega) c16 (by decide) (sk_n (by omega))
  have k18 : tK t n 18 = 0 := by unfold tK; rw [t17.2]; exact kd_0.mpr (Nat.le_refl _)
  exact ⟨⟨t0.1, t1.1, t2.1, t3.1, t4.1, t5.1, t6.1, t7.1, t8.1, t9.1, t10.1, t11.1, t12.1, t13.1, t14.1, t15.1, t16.1, t17.1, k18⟩, t0.2.1, t2.2.1, t4.2.1, t6.2.1, t8.2.1, t10.2.1, t12.2.1, t14.2.1, t16.2.1⟩
theorem sc_st {K V : Nat → Nat} {sg f o q : Nat} (h : SCK K V sg f o q) (hsg : sg = 38 ∨ sg = 124 ∨ sg = 126 ∨ sg = 33) : stR K 0 = (true, 4) ∧ stR K 4 = (true, 8) ∧ stR K 8 = (true, 14) ∧ stR K 14 = (true, 18) := by
  obtain ⟨⟨k0, k1, k2, k3, k4, k5, k6, k7, k8, k9, k10, k11, k12, k13, k14, k15, k16, k17, k18⟩, -⟩ := h
  refine ⟨?_, ?_, ?_, ?_⟩
  · simp [stR, acR, seR, k0, k1, k2, k3]
  · rcases hsg with rfl | rfl | rfl | rfl <;> simp [stR, acR, seR, k4, k5, k6, k7]
  · simp [stR, acR, rgR, k8, k9, k10, k11, k12, k13]
  · simp [stR, acR, rgR, k14, k15, k16, k17]
theorem sc_sI {K V : Nat → Nat} {sg f o q : Nat} (h : SCK K V sg f o q) (hsg : sg = 38 ∨ sg = 124 ∨ sg = 126 ∨ sg = 33) : sI K 1 = 4 ∧ sI K 2 = 8 ∧ sI K 3 = 14 ∧ sI K 4 = 18 := by
  obtain ⟨a, b, c, d⟩ := sc_st h hsg
  have e1 : sI K 1 = 4 := by show (stR K 0).2 = 4; rw [a]
  have e2 : sI K 2 = 8 := by show (stR K (sI K 1)).2 = 8; rw [e1, b]
  have e3 : sI K 3 = 14 := by show (stR K (sI K 2)).2 = 14; rw [e2, c]
  have e4 : sI K 4 = 18 := by show (stR K (sI K 3)).2 = 18; rw [e3, d]
  exact ⟨e1, e2, e3, e4⟩
theorem sc_okS {K V : Nat → Nat} {sg f o q : Nat} (h : SCK K V sg f o q) (hsg : sg = 38 ∨ sg = 124 ∨ sg = 126 ∨ sg = 33) : okS K 4 ∧ K (sI K 4) = 0 := by
  obtain ⟨a, b, c, d⟩ := sc_st h hsg
  obtain ⟨e1, e2, e3, e4⟩ := sc_sI h hsg
  obtain ⟨⟨k0, k1, k2, k3, k4, k5, k6, k7, k8, k9, k10, k11, k12, k13, k14, k15, k16, k17, k18⟩, -⟩ := h
  have s1 : okS K 1 := okS_up (fun k hk => absurd hk (Nat.not_lt_zero _)) (show K 0 ≠ 0 by omega) (show (stR K 0).1 = true by rw [a])
  have s2 : okS K 2 := okS_up s1 (by rw [e1]; omega) (by rw [e1, b])
  have s3 : okS K 3 := okS_up s2 (by rw [e2]; omega) (by rw [e2, c])
  exact ⟨okS_up s3 (by rw [e3]; omega) (by rw [e3, d]), by rw [e4, k18]⟩
theorem sc_stp {K V : Nat → Nat} {sg f o q : Nat} (h : SCK K V sg f o q) (hsg : sg = 38 ∨ sg = 124 ∨ sg = 126 ∨ sg = 33) (hfo : f ≤ o) : stp K V 4 4 := by
  obtain ⟨e1, e2, e3, e4⟩ := sc_sI h hsg
  obtain ⟨⟨k0, k1, k2, k3, k4, k5, k6, k7, k8, k9, k10, k11, k12, k13, k14, k15, k16, k17, k18⟩, v0, v2, v4, v6, v8, v10, v12, v14, v16⟩ := h
  refine ⟨Nat.le_refl _, fun j hj => ?_, fun z => absurd z (Nat.lt_irrefl _)⟩
  have hc : j = 0 ∨ j = 1 ∨ j = 2 ∨ j = 3 := by omega
  rcases hc with rfl | rfl | rfl | rfl
  · show isB K V (sC K 0) 0 = false
    refine decide_eq_false (fun z => ?_)
    have := z.1
    rw [show K (0 + 1) = 61 from k1] at this
    omega
  · rw [e1]
    refine decide_eq_false (fun z => ?_)
    have := z.1
    rw [show K (4 + 1) = sg from k5] at this
    omega
  · rw [e2]
    refine decide_eq_false (fun z => ?_)
    have h2 := z.2
    unfold sse at h2
    rw [if_neg (by rw [isL_f (K := K) (i := 8) (by rw [show K (8 + 1) = 94 from k9]; omega)]; decide), if_pos (Or.inr (Or.inr (show K (8 + 1) = 94 from k9))), if_pos (show K (8 + 3) = 4 from k11), show V (8 + 4) = o from v12, show V (8 + 2) = f from v10] at h2
    omega
  · rw [e3]
    refine decide_eq_false (fun z => ?_)
    have h2 := z.2
    unfold sse at h2
    rw [if_neg (by rw [isL_f (K := K) (i := 14) (by rw [show K (14 + 1) = 43 from k15]; omega)]; decide), if_pos (Or.inl (show K (14 + 1) = 43 from k15)), if_neg (by rw [show K (14 + 3) = 59 from k17]; decide)] at h2
    omega
/-- what the script leaves -/
theorem sc_hX {K V : Nat → Nat} {sg f o q : Nat} {hs : Nat → Bool} (h : SCK K V sg f o q) (hsg : sg = 38 ∨ sg = 124 ∨ sg = 126 ∨ sg = 33) : (∀ s i, s ≠ 5 → i < 1024 → hM (hX K V hs 4) s i = hM hs s i) ∧ ∀ i, i < 1024 → hM (hX K V hs 4) 5 i = p1 (pX (fun j => pJ sg (hM hs 0 j) (hM hs 1 j)) f o) q true i := by
  obtain ⟨e1, e2, e3, e4⟩ := sc_sI h hsg
  obtain ⟨⟨k0, k1, k2, k3, k4, k5, k6, k7, k8, k9, k10, k11, k12, k13, k14, k15, k16, k17, k18⟩, v0, v2, v4, v6, v8, v10, v12, v14, v16⟩ := h
  have x1 : hX K V hs 1 = sS hs 5 (fun j => pJ 61 (hM hs 5 j) (hM hs 0 j)) := by
    show exS K V hs (sC K 0) 0 = _
    unfold exS
    rw [show K (0 + 1) = 61 from k1, if_neg (by decide), if_neg (by decide), if_neg (by decide), if_neg (by rw [isL_f (K := K) (i := 0) (by rw [show K (0 + 2) = 2 from k2]; omega)]; decide), show V (0 + 2) = 0 from v2, v0]
  have x2 : hX K V hs 2 = sS (hX K V hs 1) 5 (fun j => pJ sg (hM (hX K V hs 1) 5 j) (hM (hX K V hs 1) 1 j)) := by
    show exS K V (hX K V hs 1) (sC K 1) (sI K 1) = _
    rw [e1]
    unfold exS
    rw [show K (4 + 1) = sg from k5, if_neg (by omega), if_neg (by omega), if_neg (by omega), if_neg (by rw [isL_f (K := K) (i := 4) (by rw [show K (4 + 2) = 2 from k6]; omega)]; decide), show V (4 + 2) = 1 from v6, v4]
  have x3 : hX K V hs 3 = sS (hX K V hs 2) 5 (pX (hM (hX K V hs 2) 5) f o) := by
    show exS K V (hX K V hs 2) (sC K 2) (sI K 2) = _
    rw [e2]
    unfold exS
    have hse : sse K V (sC K 2) 8 = o := by
      unfold sse
      rw [if_neg (by rw [isL_f (K := K) (i := 8) (by rw [show K (8 + 1) = 94 from k9]; omega)]; decide), if_pos (Or.inr (Or.inr (show K (8 + 1) = 94 from k9))), if_pos (show K (8 + 3) = 4 from k11), show V (8 + 4) = o from v12]
    rw [show K (8 + 1) = 94 from k9, if_neg (by decide), if_neg (by decide), if_pos rfl, hse, show V (8 + 2) = f from v10, v8]
  have x4 : hX K V hs 4 = sS (hX K V hs 3) 5 (pR (hM (hX K V hs 3) 5) q (q + 1) true) := by
    show exS K V (hX K V hs 3) (sC K 3) (sI K 3) = _
    rw [e3]
    unfold exS
    have hse : sse K V (sC K 3) 14 = q + 1 := by
      unfold sse
      rw [if_neg (by rw [isL_f (K := K) (i := 14) (by rw [show K (14 + 1) = 43 from k15]; omega)]; decide), if_pos (Or.inl (show K (14 + 1) = 43 from k15)), if_neg (by rw [show K (14 + 3) = 59 from k17]; decide), show V (14 + 2) = q from v16]
    rw [show K (14 + 1) = 43 from k15, if_pos rfl, hse, show V (14 + 2) = q from v16, v14]
  refine ⟨fun s i hs5 hi => by rw [x4, hM_sSo hs5 hi, x3, hM_sSo hs5 hi, x2, hM_sSo hs5 hi, x1, hM_sSo hs5 hi], fun i hi => ?_⟩
  have y1 : ∀ j, j < 1024 → hM (hX K V hs 1) 5 j = hM hs 0 j := fun j hj => by
    rw [x1, hM_sS hj]
    rfl
  have y2 : ∀ j, j < 1024 → hM (hX K V hs 2) 5 j = pJ sg (hM hs 0 j) (hM hs 1 j) := fun j hj => by
    rw [x2, hM_sS hj, y1 j hj, x1, hM_sSo (by decide) hj]
  have y3 : ∀ j, j < 1024 → hM (hX K V hs 3) 5 j = pX (fun j => pJ sg (hM hs 0 j) (hM hs 1 j)) f o j := fun j hj => by
    rw [x3, hM_sS hj]
    exact pX_cong y2 j hj
  rw [x4, hM_sS hi]
  unfold pR p1
  by_cases z : i = q
  · rw [if_pos (by omega), if_pos z]
  · rw [if_neg (by omega), if_neg z, y3 i hi]
theorem ct_p1 {r : Nat → Bool} {q : Nat} : ∀ n, q < n → ct (p1 r q true) n = ct r n + (if r q then 0 else 1)
  | 0, h => absurd h (Nat.not_lt_zero _)
  | n + 1, h => by
    have same : ∀ m, m ≤ q → ct (p1 r q true) m = ct r m := fun m => by
      induction m with
      | zero => intro _; rfl
      | succ m ih =>
        intro hm
        have := ih (by omega)
        simp only [ct]
        rw [this, show p1 r q true m = r m from if_neg (by omega)]
    rcases Nat.lt_or_ge q n with z | z
    · have ih := ct_p1 (r := r) (q := q) n z
      simp only [ct]
      rw [ih, show p1 r q true n = r n from if_neg (by omega)]
      omega
    · obtain rfl : q = n := by omega
      simp only [ct]
      rw [same q (Nat.le_refl _), show p1 r q true q = true from if_pos rfl]
      rcases zb_tf (r q) with h1 | h1 <;> simp [h1]
/-- the tape's letters are the text's -/
theorem sc_tc {g : Nat → Int32} {T : Nat → Nat} {n : Nat} (hg : ∀ j, j < n → g j = nI (T j)) (hT : ∀ j, j < n → 0 < T j ∧ T j < 128) : HB g n ∧ ∀ j, j < n → tc g n j = T j := by
  have hv : ∀ j, j < n → (g j).toBitVec.toNat = T j := fun j hj => by
    have := hT j hj
    rw [hg j hj, nI_bv (by omega)]
  refine ⟨fun j hj => ?_, fun j hj => ?_⟩
  · have := hT j hj
    rw [hv j hj]
    omega
  · unfold tc
    rw [if_pos hj, hv j hj]
