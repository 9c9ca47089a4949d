/-! The law's start. -/
set_option maxHeartbeats 8000000 in
set_option maxRecDepth 100000 in
theorem law_DigitTens {s : State} {b : Nat} (hts : ∀ w ∈ lw_tbl, w.before #[Value.ref b] s = true) (hgv : (Jvm.Cond.and given_1 narrow_1).before #[Value.ref b] s = true) : ∃ t : Nat, va_Z RJ6 "DigitTens" "[B" (.ref t) (fun q => s.heap.size ≤ q) s s.heap ∧ va_T .byte t 100 (fun j => .int (nI (48 + j / 10))) (fun q => s.heap.size ≤ q) s s.heap := by
  have hs := flat_of_before _ hgv
  have hA : ∀ a : Nat, a < s.heap.size → ¬ (s.heap.size ≤ a) := fun a h => Nat.not_le.mpr h
  have key : ∀ j, j < 100 → Cond.eq (.elem (.static "java/lang/Integer" "DigitTens" "[B") (.int (Int32.ofNat j))) (.int (nI (48 + j / 10))) ∈ flatC (Jvm.Cond.and given_1 narrow_1) := fun j hj => by
    obtain ⟨i, k, hi, hk, rfl⟩ : ∃ i k, i < 10 ∧ k < 10 ∧ j = 10 * k + i := ⟨j % 10, j / 10, by omega, by omega, by omega⟩
    rcases (show k = 0 ∨ k = 1 ∨ k = 2 ∨ k = 3 ∨ k = 4 ∨ k = 5 ∨ k = 6 ∨ k = 7 ∨ k = 8 ∨ k = 9 by omega) with rfl | rfl | rfl | rfl | rfl | rfl | rfl | rfl | rfl | rfl
    · exact dt_0 i hi
    · exact dt_1 i hi
    · exact dt_2 i hi
    · exact dt_3 i hi
    · exact dt_4 i hi
    · exact dt_5 i hi
    · exact dt_6 i hi
    · exact dt_7 i hi
    · exact dt_8 i hi
    · exact dt_9 i hi
  obtain ⟨t, ht, hT⟩ := va_Tof (A := (fun q => s.heap.size ≤ q)) (args := #[Value.ref b]) (s := s) (tm := (.static "java/lang/Integer" "DigitTens" "[B")) (ty := .byte) (N := 100) (f := fun j => .int (nI (48 + j / 10))) (by decide) (hs (.arrayOf (.static "java/lang/Integer" "DigitTens" "[B") .byte) (by decide +kernel)) (va_eqt (hs (.eq (.length (.static "java/lang/Integer" "DigitTens" "[B")) (.int 100)) (by decide +kernel))) (fun j hj => va_eqt (hs _ (key j hj))) hA
  exact ⟨t, va_Zref (hts (.laysStatic "java/lang/Integer" "DigitTens" "[B") (by decide +kernel)) (hts (.initialized "java/lang/Integer") (by decide +kernel)) ht hA, hT⟩
set_option maxHeartbeats 8000000 in
set_option maxRecDepth 100000 in
theorem law_SI {s : State} {b : Nat} (hts : ∀ w ∈ lw_tbl, w.before #[Value.ref b] s = true) (hgv : (Jvm.Cond.and given_1 narrow_1).before #[Value.ref b] s = true) : SIx (fun q => s.heap.size ≤ q) s := by
  have hs := flat_of_before _ hgv
  have hA : ∀ a : Nat, a < s.heap.size → ¬ (s.heap.size ≤ a) := fun a h => Nat.not_le.mpr h
  exact va_Zqof (hts (.laysStatic "jdk/internal/util/Preconditions" "SIOOBE_FORMATTER" "Ljava/util/function/BiFunction;") (by decide +kernel)) (hts (.initialized "jdk/internal/util/Preconditions") (by decide +kernel)) (hs (.isRef (.static "jdk/internal/util/Preconditions" "SIOOBE_FORMATTER" "Ljava/util/function/BiFunction;")) (by decide +kernel)) hA
set_option maxHeartbeats 8000000 in
set_option maxRecDepth 100000 in
theorem law_LA {s : State} {b : Nat} (hts : ∀ w ∈ lw_tbl, w.before #[Value.ref b] s = true) (hgv : (Jvm.Cond.and given_1 narrow_1).before #[Value.ref b] s = true) : ∃ ad : Nat → Nat, LAm ad (fun q => s.heap.size ≤ q) s := by
  obtain ⟨aK, aV, h1⟩ := law_AS hts hgv
  obtain ⟨bK, bV, h2⟩ := law_BS hts hgv
  obtain ⟨t1, h3, h4⟩ := law_DigitOnes hts hgv
  obtain ⟨t2, h5, h6⟩ := law_DigitTens hts hgv
  have key : ∀ i, i < 6 → vk_S 6 lsn lsb bK bV (fun q => s.heap.size ≤ q) s s.heap := fun _ _ => h2.1
  refine ⟨fun i => if i = 0 then aK 0 else if i = 1 then aV 0 else if i = 40 then t1 else if i = 41 then t2 else if i < 30 then bK (i - 20) else bV (i - 30), law_AM hts hgv, ?_, ⟨?_, h2.2⟩, ⟨h3, h4, h5, h6⟩, law_SI hts hgv⟩
  · refine ⟨⟨fun i hi => ?_, fun i j hi hj _ => by omega⟩, h1.2⟩
    obtain rfl : i = 0 := by omega
    exact h1.1.1 0 hi
  · refine ⟨fun i hi => ?_, fun i j hi hj hij => ?_⟩
    · rcases (show i = 0 ∨ i = 1 ∨ i = 2 ∨ i = 3 ∨ i = 4 ∨ i = 5 by omega) with rfl | rfl | rfl | rfl | rfl | rfl <;> exact h2.1.1 _ hi
    · rcases (show i = 0 ∨ i = 1 ∨ i = 2 ∨ i = 3 ∨ i = 4 ∨ i = 5 by omega) with rfl | rfl | rfl | rfl | rfl | rfl <;> rcases (show j = 0 ∨ j = 1 ∨ j = 2 ∨ j = 3 ∨ j = 4 ∨ j = 5 by omega) with rfl | rfl | rfl | rfl | rfl | rfl <;> exact h2.1.2 _ _ hi hj hij
set_option maxHeartbeats 8000000 in
set_option maxRecDepth 100000 in
theorem law_K {s : State} {b : Nat} (hts : ∀ w ∈ lw_tbl, w.before #[Value.ref b] s = true) : ∃ (D : va_G) (C : Nat → ClassId), va_K D vwCl (TY C) s := by
  have ht2 := lw_hts2 hts
  obtain ⟨c0, iS0, hKn0⟩ := u_known (C := RX0) (T := TX0) (N := 1) (n := 1) ht2 (fun w h => wsL_law_in w (inlX0 w h)) (ht2 (.instantiable RX0 1) (by decide +kernel))
  obtain ⟨c1, iS1, hKn1⟩ := u_known (C := RX1) (T := TX1) (N := 5) (n := 5) ht2 (fun w h => wsL_law_in w (inlX1 w h)) (ht2 (.instantiable RX1 5) (by decide +kernel))
  obtain ⟨c2, iS2, hKn2⟩ := u_known (C := RX2) (T := TX2) (N := 4) (n := 4) ht2 (fun w h => wsL_law_in w (inlX2 w h)) (ht2 (.instantiable RX2 4) (by decide +kernel))
  obtain ⟨c3, iS3, hKn3⟩ := u_known (C := RX3) (T := TX3) (N := 2) (n := 2) ht2 (fun w h => wsL_law_in w (inlX3 w h)) (ht2 (.instantiable RX3 2) (by decide +kernel))
  obtain ⟨c4, iS4, hKn4⟩ := u_known (C := RX4) (T := TX4) (N := 2) (n := 2) ht2 (fun w h => wsL_law_in w (inlX4 w h)) (ht2 (.instantiable RX4 2) (by decide +kernel))
  obtain ⟨c5, iS5, hKn5⟩ := u_known (C := RX5) (T := TX5) (N := 6) (n := 6) ht2 (fun w h => wsL_law_in w (inlX5 w h)) (ht2 (.instantiable RX5 6) (by decide +kernel))
  obtain ⟨c6, iS6, hKn6⟩ := u_known (C := RX6) (T := TX6) (N := 7) (n := 7) ht2 (fun w h => wsL_law_in w (inlX6 w h)) (ht2 (.instantiable RX6 7) (by decide +kernel))
  obtain ⟨c7, iS7, hKn7⟩ := u_known (C := RL) (T := TL) (N := 3) (n := 3) ht2 (fun w h => wsL_law_in w (inlL w h)) (ht2 (.instantiable RL 3) (by decide +kernel))
  obtain ⟨c8, iS8, hKn8⟩ := u_known (C := RJ0) (T := TJ0) (N := 4) (n := 4) ht2 (fun w h => wsL_law_in w (inlJ0 w h)) (ht2 (.instantiable RJ0 4) (by decide +kernel))
  obtain ⟨c9, iS9, hKn9⟩ := u_known (C := RJ4) (T := TJ4) (N := 4) (n := 4) ht2 (fun w h => wsL_law_in w (inlJ4 w h)) (ht2 (.instantiable RJ4 4) (by decide +kernel))
  obtain ⟨dC, dI, hKc⟩ : ∃ (dC : Nat → ClassId) (dI : Nat → Nat → Nat), ∀ (k : Nat) (q : vw_C), vwCl[k]? = some q → u_Kn s q.1 q.2.1 q.2.2 (dC k) (dI k) := by
    refine ⟨fun k => if k = 0 then c0 else if k = 1 then c1 else if k = 2 then c2 else if k = 3 then c3 else if k = 4 then c4 else if k = 5 then c5 else if k = 6 then c6 else if k = 7 then c7 else if k = 8 then c8 else c9, fun k => if k = 0 then iS0 else if k = 1 then iS1 else if k = 2 then iS2 else if k = 3 then iS3 else if k = 4 then iS4 else if k = 5 then iS5 else if k = 6 then iS6 else if k = 7 then iS7 else if k = 8 then iS8 else iS9, ?_⟩
    intro k q hq
    match k, hq with
    | 0, hq => cases hq; exact hKn0
    | 1, hq => cases hq; exact hKn1
    | 2, hq => cases hq; exact hKn2
    | 3, hq => cases hq; exact hKn3
    | 4, hq => cases hq; exact hKn4
    | 5, hq => cases hq; exact hKn5
    | 6, hq => cases hq; exact hKn6
    | 7, hq => cases hq; exact hKn7
    | 8, hq => cases hq; exact hKn8
    | 9, hq => cases hq; exact hKn9
    | k + 10, hq => simp [vwCl] at hq
  obtain ⟨a0, p0, r0⟩ := ka_char (hts (.arrayClass .char) (by decide +kernel))
  obtain ⟨a1, p1, r1⟩ := ka_int (hts (.arrayClass .int) (by decide +kernel))
  obtain ⟨a2, p2, r2⟩ := ka_long (hts (.arrayClass .long) (by decide +kernel))
  obtain ⟨a3, p3, r3⟩ := ka_boolean (hts (.arrayClass .boolean) (by decide +kernel))
  obtain ⟨a4, p4, r4⟩ := ka_obj (hts (.arrayOver (.object RX0)) (by decide +kernel))
  obtain ⟨a5, p5, r5⟩ := ka_obj (hts (.arrayOver (.object RX2)) (by decide +kernel))
  obtain ⟨a6, p6, r6⟩ := ka_byte (hts (.arrayClass .byte) (by decide +kernel))
  refine ⟨(dC, dI), fun k => if k = 0 then a0 else if k = 1 then a1 else if k = 2 then a2 else if k = 3 then a3 else if k = 4 then a4 else if k = 5 then a5 else a6, ⟨hKc, fun k q hq => ?_⟩⟩
  match k, hq with
  | 0, hq => cases hq; exact ⟨p0, r0⟩
  | 1, hq => cases hq; exact ⟨p1, r1⟩
  | 2, hq => cases hq; exact ⟨p2, r2⟩
  | 3, hq => cases hq; exact ⟨p3, r3⟩
  | 4, hq => cases hq; exact ⟨p4, r4⟩
  | 5, hq => cases hq; exact ⟨p5, r5⟩
  | 6, hq => cases hq; exact ⟨p6, r6⟩
  | k + 7, hq => simp [TY] at hq
