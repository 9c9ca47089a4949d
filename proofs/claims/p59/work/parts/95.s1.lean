/-! The law's start. -/
set_option maxHeartbeats 8000000 in
set_option maxRecDepth 100000 in
theorem law_AM {s : State} {b : Nat} (hts : ∀ w ∈ lw_tbl, w.before #[Value.ref b] s = true) (hgv : (Jvm.Cond.and given_1 narrow_1).before #[Value.ref b] s = true) : AM (fun q => s.heap.size ≤ q) s := by
  have hs := flat_of_before _ hgv
  have hA : ∀ a : Nat, a < s.heap.size → ¬ (s.heap.size ≤ a) := fun a h => Nat.not_le.mpr h
  refine ⟨vx_Zqof (hts (.laysStatic Bundle.tN "UNASSIGNED_STACK" Bundle.steD) (by decide +kernel)) (hts (.initialized Bundle.tN) (by decide +kernel)) (hs (.isRef (.static Bundle.tN "UNASSIGNED_STACK" Bundle.steD)) (by decide +kernel)) hA, vx_Zqof (hts (.laysStatic Bundle.tN "SUPPRESSED_SENTINEL" Bundle.listD) (by decide +kernel)) (hts (.initialized Bundle.tN) (by decide +kernel)) (hs (.isRef (.static Bundle.tN "SUPPRESSED_SENTINEL" Bundle.listD)) (by decide +kernel)) hA, fun x hx => ?_, fun w hw => ?_⟩
  · simp only [xTx, List.mem_cons, List.not_mem_nil, or_false] at hx
    rcases hx with rfl | rfl | rfl | rfl | rfl | rfl | rfl | rfl | rfl
    · exact vkR_ex (hts (.stringRef RX6 255 "there is no such place") (by decide +kernel)) (hs (.exactly (.string RX6 255) "java/lang/String") (by decide +kernel))
    · exact vkR_ex (hts (.stringRef RX6 244 "the index is too small") (by decide +kernel)) (hs (.exactly (.string RX6 244) "java/lang/String") (by decide +kernel))
    · exact vkR_ex (hts (.stringRef RX6 251 "the range goes beyond 1023") (by decide +kernel)) (hs (.exactly (.string RX6 251) "java/lang/String") (by decide +kernel))
    · exact vkR_ex (hts (.stringRef RX6 247 "the index is above 1023") (by decide +kernel)) (hs (.exactly (.string RX6 247) "java/lang/String") (by decide +kernel))
    · exact vkR_ex (hts (.stringRef RX6 240 "there is no such set") (by decide +kernel)) (hs (.exactly (.string RX6 240) "java/lang/String") (by decide +kernel))
    · exact vkR_ex (hts (.stringRef RX6 86 "the text has an error") (by decide +kernel)) (hs (.exactly (.string RX6 86) "java/lang/String") (by decide +kernel))
    · exact vkR_ex (hts (.stringRef RX6 69 "the tape would have too many bytes") (by decide +kernel)) (hs (.exactly (.string RX6 69) "java/lang/String") (by decide +kernel))
    · exact vkR_ex (hts (.stringRef RX6 249 "the numbers are no range") (by decide +kernel)) (hs (.exactly (.string RX6 249) "java/lang/String") (by decide +kernel))
    · exact vkR_ex (hts (.stringRef RX6 253 "the number is out of range") (by decide +kernel)) (hs (.exactly (.string RX6 253) "java/lang/String") (by decide +kernel))
  · simp only [xDc, List.mem_cons, List.not_mem_nil, or_false] at hw
    rcases hw with rfl | rfl | rfl | rfl | rfl | rfl
    · exact va_tabs (A := #[Value.ref b]) rfl rfl (hts (.declares (Bundle.initS "java/lang/RuntimeException")) (by decide +kernel))
    · exact va_tabs (A := #[Value.ref b]) rfl rfl (hts (.declares (Bundle.initS "java/lang/Exception")) (by decide +kernel))
    · exact va_tabs (A := #[Value.ref b]) rfl rfl (hts (.declares (Bundle.initS "java/lang/Throwable")) (by decide +kernel))
    · exact va_tabs (A := #[Value.ref b]) rfl rfl (hts (.castable "java/lang/IllegalArgumentException" "java/lang/IllegalArgumentException") (by decide +kernel))
    · exact va_tabs (A := #[Value.ref b]) rfl rfl (hts (.castable "java/lang/IllegalStateException" "java/lang/IllegalStateException") (by decide +kernel))
    · exact va_tabs (A := #[Value.ref b]) rfl rfl (hts (.castable "java/lang/IndexOutOfBoundsException" "java/lang/IndexOutOfBoundsException") (by decide +kernel))
set_option maxHeartbeats 8000000 in
set_option maxRecDepth 100000 in
theorem law_AS {s : State} {b : Nat} (hts : ∀ w ∈ lw_tbl, w.before #[Value.ref b] s = true) (hgv : (Jvm.Cond.and given_1 narrow_1).before #[Value.ref b] s = true) : ∃ adK adV : Nat → Nat, ASx adK adV (fun q => s.heap.size ≤ q) s := by
  have hs := flat_of_before _ hgv
  have hA : ∀ a : Nat, a < s.heap.size → ¬ (s.heap.size ≤ a) := fun a h => Nat.not_le.mpr h
  obtain ⟨adK, adV, h1, h2⟩ := vk_Sof (A := (fun q => s.heap.size ≤ q)) (args := #[Value.ref b]) (s := s) (N := 1) (tm := fun _ => .string "NumberSetDesk$Tokens" 68) (len := [12]) (byt := [sgb])
    (fun i hi => by obtain rfl : i = 0 := by omega
                    decide)
    (fun i hi => hs (.exactly (.string "NumberSetDesk$Tokens" 68) "java/lang/String") (by decide +kernel))
    (fun i hi => hs (.eq (.field (.string "NumberSetDesk$Tokens" 68) "java/lang/String" "coder" "B") (.int 0)) (by decide +kernel))
    (fun i hi => hs (.arrayOf (.field (.string "NumberSetDesk$Tokens" 68) "java/lang/String" "value" "[B") .byte) (by decide +kernel))
    (fun i hi => by
      obtain rfl : i = 0 := by omega
      exact hs (.eq (.length (.field (.string "NumberSetDesk$Tokens" 68) "java/lang/String" "value" "[B")) (.int 12)) (by decide +kernel))
    (fun i hi j hj => by
      obtain rfl : i = 0 := by omega
      have hj2 : j < 12 := hj
      rcases (show j = 0 ∨ j = 1 ∨ j = 2 ∨ j = 3 ∨ j = 4 ∨ j = 5 ∨ j = 6 ∨ j = 7 ∨ j = 8 ∨ j = 9 ∨ j = 10 ∨ j = 11 by omega) with rfl | rfl | rfl | rfl | rfl | rfl | rfl | rfl | rfl | rfl | rfl | rfl
      · exact hs (.eq (.elem (.field (.string "NumberSetDesk$Tokens" 68) "java/lang/String" "value" "[B") (.int 0)) (.int 59)) (by decide +kernel)
      · exact hs (.eq (.elem (.field (.string "NumberSetDesk$Tokens" 68) "java/lang/String" "value" "[B") (.int 1)) (.int 43)) (by decide +kernel)
      · exact hs (.eq (.elem (.field (.string "NumberSetDesk$Tokens" 68) "java/lang/String" "value" "[B") (.int 2)) (.int 45)) (by decide +kernel)
      · exact hs (.eq (.elem (.field (.string "NumberSetDesk$Tokens" 68) "java/lang/String" "value" "[B") (.int 3)) (.int 94)) (by decide +kernel)
      · exact hs (.eq (.elem (.field (.string "NumberSetDesk$Tokens" 68) "java/lang/String" "value" "[B") (.int 4)) (.int 38)) (by decide +kernel)
      · exact hs (.eq (.elem (.field (.string "NumberSetDesk$Tokens" 68) "java/lang/String" "value" "[B") (.int 5)) (.int 124)) (by decide +kernel)
      · exact hs (.eq (.elem (.field (.string "NumberSetDesk$Tokens" 68) "java/lang/String" "value" "[B") (.int 6)) (.int 126)) (by decide +kernel)
      · exact hs (.eq (.elem (.field (.string "NumberSetDesk$Tokens" 68) "java/lang/String" "value" "[B") (.int 7)) (.int 33)) (by decide +kernel)
      · exact hs (.eq (.elem (.field (.string "NumberSetDesk$Tokens" 68) "java/lang/String" "value" "[B") (.int 8)) (.int 61)) (by decide +kernel)
      · exact hs (.eq (.elem (.field (.string "NumberSetDesk$Tokens" 68) "java/lang/String" "value" "[B") (.int 9)) (.int 91)) (by decide +kernel)
      · exact hs (.eq (.elem (.field (.string "NumberSetDesk$Tokens" 68) "java/lang/String" "value" "[B") (.int 10)) (.int 93)) (by decide +kernel)
      · exact hs (.eq (.elem (.field (.string "NumberSetDesk$Tokens" 68) "java/lang/String" "value" "[B") (.int 11)) (.int 44)) (by decide +kernel))
    (fun i j hi hj hij => absurd (show i = j by omega) hij) hA
  exact ⟨adK, adV, h1, vk_R.of (A := #[Value.ref b]) (hts (.stringRef "NumberSetDesk$Tokens" 68 ";+-^&|~!=[],") (by decide +kernel)) (h2 0 (by omega)), va_Zof (hts (.laysStatic "java/lang/String" "COMPACT_STRINGS" "Z") (by decide +kernel)) (hts (.initialized "java/lang/String") (by decide +kernel)) (va_eqt (hs (.eq (.static "java/lang/String" "COMPACT_STRINGS" "Z") (.int 1)) (by decide +kernel))) hA⟩
set_option maxHeartbeats 8000000 in
set_option maxRecDepth 100000 in
theorem law_N6 {s : State} {b : Nat} (hts : ∀ w ∈ lw_tbl, w.before #[Value.ref b] s = true) (hgv : (Jvm.Cond.and given_1 narrow_1).before #[Value.ref b] s = true) : ∃ t : Nat, NX6 t (fun q => s.heap.size ≤ q) s := by
  have hs := flat_of_before _ hgv
  have hA : ∀ a : Nat, a < s.heap.size → ¬ (s.heap.size ≤ a) := fun a h => Nat.not_le.mpr h
  obtain ⟨t, ht, hT⟩ := va_Tof (A := (fun q => s.heap.size ≤ q)) (args := #[Value.ref b]) (s := s) (tm := (.static "NumberSetDesk" "FIRST_OF_SET_2" "[I")) (ty := .int) (N := 11) (f := fun j => .int (nI (fsT.getD j 0))) (by decide) (hs (.arrayOf (.static "NumberSetDesk" "FIRST_OF_SET_2" "[I") .int) (by decide +kernel)) (va_eqt (hs (.eq (.length (.static "NumberSetDesk" "FIRST_OF_SET_2" "[I")) (.int 11)) (by decide +kernel))) (fun j hj => by
      rcases (show j = 0 ∨ j = 1 ∨ j = 2 ∨ j = 3 ∨ j = 4 ∨ j = 5 ∨ j = 6 ∨ j = 7 ∨ j = 8 ∨ j = 9 ∨ j = 10 by omega) with rfl | rfl | rfl | rfl | rfl | rfl | rfl | rfl | rfl | rfl | rfl
      · exact va_eqt (hs (.eq (.elem (.static "NumberSetDesk" "FIRST_OF_SET_2" "[I") (.int 0)) (.int 1)) (by decide +kernel))
      · exact va_eqt (hs (.eq (.elem (.static "NumberSetDesk" "FIRST_OF_SET_2" "[I") (.int 1)) (.int 2)) (by decide +kernel))
      · exact va_eqt (hs (.eq (.elem (.static "NumberSetDesk" "FIRST_OF_SET_2" "[I") (.int 2)) (.int 3)) (by decide +kernel))
      · exact va_eqt (hs (.eq (.elem (.static "NumberSetDesk" "FIRST_OF_SET_2" "[I") (.int 3)) (.int 5)) (by decide +kernel))
      · exact va_eqt (hs (.eq (.elem (.static "NumberSetDesk" "FIRST_OF_SET_2" "[I") (.int 4)) (.int 8)) (by decide +kernel))
      · exact va_eqt (hs (.eq (.elem (.static "NumberSetDesk" "FIRST_OF_SET_2" "[I") (.int 5)) (.int 13)) (by decide +kernel))
      · exact va_eqt (hs (.eq (.elem (.static "NumberSetDesk" "FIRST_OF_SET_2" "[I") (.int 6)) (.int 21)) (by decide +kernel))
      · exact va_eqt (hs (.eq (.elem (.static "NumberSetDesk" "FIRST_OF_SET_2" "[I") (.int 7)) (.int 63)) (by decide +kernel))
      · exact va_eqt (hs (.eq (.elem (.static "NumberSetDesk" "FIRST_OF_SET_2" "[I") (.int 8)) (.int 64)) (by decide +kernel))
      · exact va_eqt (hs (.eq (.elem (.static "NumberSetDesk" "FIRST_OF_SET_2" "[I") (.int 9)) (.int 127)) (by decide +kernel))
      · exact va_eqt (hs (.eq (.elem (.static "NumberSetDesk" "FIRST_OF_SET_2" "[I") (.int 10)) (.int 128)) (by decide +kernel))) hA
  refine ⟨t, ⟨va_AO.of (A := #[Value.ref b]) (hts (.arrayOver (.object RX2)) (by decide +kernel)), va_Nw.of rfl (hts (.methodLinkNest RX1 13 yX5_init "NumberSetDesk") (by decide +kernel)), va_Nw.of rfl (hts (.methodLinkNest RX1 35 yX2_init "NumberSetDesk") (by decide +kernel))⟩, va_AO.of (A := #[Value.ref b]) (hts (.arrayOver (.object RX0)) (by decide +kernel)), va_Nw.of rfl (hts (.methodLinkNest RX6 15 yX0_init "NumberSetDesk") (by decide +kernel)), va_Nw.of rfl (hts (.methodLinkNest RX6 30 yX3_init "NumberSetDesk") (by decide +kernel)), va_Nw.of rfl (hts (.methodLinkNest RX6 44 yX4_init "NumberSetDesk") (by decide +kernel)), va_Zref (hts (.laysStatic "NumberSetDesk" "FIRST_OF_SET_2" "[I") (by decide +kernel)) (hts (.initialized "NumberSetDesk") (by decide +kernel)) ht hA, hT⟩
set_option maxHeartbeats 8000000 in
set_option maxRecDepth 100000 in
theorem law_BS {s : State} {b : Nat} (hts : ∀ w ∈ lw_tbl, w.before #[Value.ref b] s = true) (hgv : (Jvm.Cond.and given_1 narrow_1).before #[Value.ref b] s = true) : ∃ adK adV : Nat → Nat, vk_S 6 lsn lsb adK adV (fun q => s.heap.size ≤ q) s s.heap ∧ (vk_R RL 208 "&|~!" (adK 0) s ∧ vk_R RL 213 "f=a;f" (adK 1) s ∧ vk_R RL 221 "b; f^" (adK 2) s ∧ vk_R RL 226 ".." (adK 3) s ∧ vk_R RL 228 ";f+" (adK 4) s ∧ vk_R RL 230 ";" (adK 5) s) := by
  have hs := flat_of_before _ hgv
  have hA : ∀ a : Nat, a < s.heap.size → ¬ (s.heap.size ≤ a) := fun a h => Nat.not_le.mpr h
  obtain ⟨adK, adV, h1, h2⟩ := vk_Sof (A := (fun q => s.heap.size ≤ q)) (args := #[Value.ref b]) (s := s) (N := 6) (tm := (fun i => Term.string "NumberSetDeskLaw" (([208, 213, 221, 226, 228, 230] : List Nat).getD i 0))) (len := lsn) (byt := lsb)
    (fun i hi => by
      rcases (show i = 0 ∨ i = 1 ∨ i = 2 ∨ i = 3 ∨ i = 4 ∨ i = 5 by omega) with rfl | rfl | rfl | rfl | rfl | rfl <;> decide)
    (fun i hi => by
      rcases (show i = 0 ∨ i = 1 ∨ i = 2 ∨ i = 3 ∨ i = 4 ∨ i = 5 by omega) with rfl | rfl | rfl | rfl | rfl | rfl
      · exact hs (.exactly (.string "NumberSetDeskLaw" 208) "java/lang/String") (by decide +kernel)
      · exact hs (.exactly (.string "NumberSetDeskLaw" 213) "java/lang/String") (by decide +kernel)
      · exact hs (.exactly (.string "NumberSetDeskLaw" 221) "java/lang/String") (by decide +kernel)
      · exact hs (.exactly (.string "NumberSetDeskLaw" 226) "java/lang/String") (by decide +kernel)
      · exact hs (.exactly (.string "NumberSetDeskLaw" 228) "java/lang/String") (by decide +kernel)
      · exact hs (.exactly (.string "NumberSetDeskLaw" 230) "java/lang/String") (by decide +kernel))
    (fun i hi => by
      rcases (show i = 0 ∨ i = 1 ∨ i = 2 ∨ i = 3 ∨ i = 4 ∨ i = 5 by omega) with rfl | rfl | rfl | rfl | rfl | rfl
      · exact hs (.eq (.field (.string "NumberSetDeskLaw" 208) "java/lang/String" "coder" "B") (.int 0)) (by decide +kernel)
      · exact hs (.eq (.field (.string "NumberSetDeskLaw" 213) "java/lang/String" "coder" "B") (.int 0)) (by decide +kernel)
      · exact hs (.eq (.field (.string "NumberSetDeskLaw" 221) "java/lang/String" "coder" "B") (.int 0)) (by decide +kernel)
      · exact hs (.eq (.field (.string "NumberSetDeskLaw" 226) "java/lang/String" "coder" "B") (.int 0)) (by decide +kernel)
      · exact hs (.eq (.field (.string "NumberSetDeskLaw" 228) "java/lang/String" "coder" "B") (.int 0)) (by decide +kernel)
      · exact hs (.eq (.field (.string "NumberSetDeskLaw" 230) "java/lang/String" "coder" "B") (.int 0)) (by decide +kernel))
    (fun i hi => by
      rcases (show i = 0 ∨ i = 1 ∨ i = 2 ∨ i = 3 ∨ i = 4 ∨ i = 5 by omega) with rfl | rfl | rfl | rfl | rfl | rfl
      · exact hs (.arrayOf (.field (.string "NumberSetDeskLaw" 208) "java/lang/String" "value" "[B") .byte) (by decide +kernel)
      · exact hs (.arrayOf (.field (.string "NumberSetDeskLaw" 213) "java/lang/String" "value" "[B") .byte) (by decide +kernel)
      · exact hs (.arrayOf (.field (.string "NumberSetDeskLaw" 221) "java/lang/String" "value" "[B") .byte) (by decide +kernel)
      · exact hs (.arrayOf (.field (.string "NumberSetDeskLaw" 226) "java/lang/String" "value" "[B") .byte) (by decide +kernel)
      · exact hs (.arrayOf (.field (.string "NumberSetDeskLaw" 228) "java/lang/String" "value" "[B") .byte) (by decide +kernel)
      · exact hs (.arrayOf (.field (.string "NumberSetDeskLaw" 230) "java/lang/String" "value" "[B") .byte) (by decide +kernel))
    (fun i hi => by
      rcases (show i = 0 ∨ i = 1 ∨ i = 2 ∨ i = 3 ∨ i = 4 ∨ i = 5 by omega) with rfl | rfl | rfl | rfl | rfl | rfl
      · exact hs (.eq (.length (.field (.string "NumberSetDeskLaw" 208) "java/lang/String" "value" "[B")) (.int 4)) (by decide +kernel)
      · exact hs (.eq (.length (.field (.string "NumberSetDeskLaw" 213) "java/lang/String" "value" "[B")) (.int 5)) (by decide +kernel)
      · exact hs (.eq (.length (.field (.string "NumberSetDeskLaw" 221) "java/lang/String" "value" "[B")) (.int 5)) (by decide +kernel)
      · exact hs (.eq (.length (.field (.string "NumberSetDeskLaw" 226) "java/lang/String" "value" "[B")) (.int 2)) (by decide +kernel)
      · exact hs (.eq (.length (.field (.string "NumberSetDeskLaw" 228) "java/lang/String" "value" "[B")) (.int 3)) (by decide +kernel)
      · exact hs (.eq (.length (.field (.string "NumberSetDeskLaw" 230) "java/lang/String" "value" "[B")) (.int 1)) (by decide +kernel))
    (fun i hi j hj => by
      rcases (show i = 0 ∨ i = 1 ∨ i = 2 ∨ i = 3 ∨ i = 4 ∨ i = 5 by omega) with rfl | rfl | rfl | rfl | rfl | rfl
      · have hj2 : j < 4 := hj
        rcases (show j = 0 ∨ j = 1 ∨ j = 2 ∨ j = 3 by omega) with rfl | rfl | rfl | rfl
        · exact hs (.eq (.elem (.field (.string "NumberSetDeskLaw" 208) "java/lang/String" "value" "[B") (.int 0)) (.int 38)) (by decide +kernel)
        · exact hs (.eq (.elem (.field (.string "NumberSetDeskLaw" 208) "java/lang/String" "value" "[B") (.int 1)) (.int 124)) (by decide +kernel)
        · exact hs (.eq (.elem (.field (.string "NumberSetDeskLaw" 208) "java/lang/String" "value" "[B") (.int 2)) (.int 126)) (by decide +kernel)
        · exact hs (.eq (.elem (.field (.string "NumberSetDeskLaw" 208) "java/lang/String" "value" "[B") (.int 3)) (.int 33)) (by decide +kernel)
      · have hj2 : j < 5 := hj
        rcases (show j = 0 ∨ j = 1 ∨ j = 2 ∨ j = 3 ∨ j = 4 by omega) with rfl | rfl | rfl | rfl | rfl
        · exact hs (.eq (.elem (.field (.string "NumberSetDeskLaw" 213) "java/lang/String" "value" "[B") (.int 0)) (.int 102)) (by decide +kernel)
        · exact hs (.eq (.elem (.field (.string "NumberSetDeskLaw" 213) "java/lang/String" "value" "[B") (.int 1)) (.int 61)) (by decide +kernel)
        · exact hs (.eq (.elem (.field (.string "NumberSetDeskLaw" 213) "java/lang/String" "value" "[B") (.int 2)) (.int 97)) (by decide +kernel)
        · exact hs (.eq (.elem (.field (.string "NumberSetDeskLaw" 213) "java/lang/String" "value" "[B") (.int 3)) (.int 59)) (by decide +kernel)
        · exact hs (.eq (.elem (.field (.string "NumberSetDeskLaw" 213) "java/lang/String" "value" "[B") (.int 4)) (.int 102)) (by decide +kernel)
      · have hj2 : j < 5 := hj
        rcases (show j = 0 ∨ j = 1 ∨ j = 2 ∨ j = 3 ∨ j = 4 by omega) with rfl | rfl | rfl | rfl | rfl
        · exact hs (.eq (.elem (.field (.string "NumberSetDeskLaw" 221) "java/lang/String" "value" "[B") (.int 0)) (.int 98)) (by decide +kernel)
        · exact hs (.eq (.elem (.field (.string "NumberSetDeskLaw" 221) "java/lang/String" "value" "[B") (.int 1)) (.int 59)) (by decide +kernel)
        · exact hs (.eq (.elem (.field (.string "NumberSetDeskLaw" 221) "java/lang/String" "value" "[B") (.int 2)) (.int 32)) (by decide +kernel)
        · exact hs (.eq (.elem (.field (.string "NumberSetDeskLaw" 221) "java/lang/String" "value" "[B") (.int 3)) (.int 102)) (by decide +kernel)
        · exact hs (.eq (.elem (.field (.string "NumberSetDeskLaw" 221) "java/lang/String" "value" "[B") (.int 4)) (.int 94)) (by decide +kernel)
      · have hj2 : j < 2 := hj
        rcases (show j = 0 ∨ j = 1 by omega) with rfl | rfl
        · exact hs (.eq (.elem (.field (.string "NumberSetDeskLaw" 226) "java/lang/String" "value" "[B") (.int 0)) (.int 46)) (by decide +kernel)
        · exact hs (.eq (.elem (.field (.string "NumberSetDeskLaw" 226) "java/lang/String" "value" "[B") (.int 1)) (.int 46)) (by decide +kernel)
      · have hj2 : j < 3 := hj
        rcases (show j = 0 ∨ j = 1 ∨ j = 2 by omega) with rfl | rfl | rfl
        · exact hs (.eq (.elem (.field (.string "NumberSetDeskLaw" 228) "java/lang/String" "value" "[B") (.int 0)) (.int 59)) (by decide +kernel)
        · exact hs (.eq (.elem (.field (.string "NumberSetDeskLaw" 228) "java/lang/String" "value" "[B") (.int 1)) (.int 102)) (by decide +kernel)
        · exact hs (.eq (.elem (.field (.string "NumberSetDeskLaw" 228) "java/lang/String" "value" "[B") (.int 2)) (.int 43)) (by decide +kernel)
      · have hj2 : j < 1 := hj
        rcases (show j = 0 by omega) with rfl
        · exact hs (.eq (.elem (.field (.string "NumberSetDeskLaw" 230) "java/lang/String" "value" "[B") (.int 0)) (.int 59)) (by decide +kernel))
    (fun i j hi hj hij => by
      rcases (show i = 0 ∨ i = 1 ∨ i = 2 ∨ i = 3 ∨ i = 4 ∨ i = 5 by omega) with rfl | rfl | rfl | rfl | rfl | rfl
      · rcases (show j = 0 ∨ j = 1 ∨ j = 2 ∨ j = 3 ∨ j = 4 ∨ j = 5 by omega) with rfl | rfl | rfl | rfl | rfl | rfl
        · exact absurd rfl hij
        · exact Or.inl (hs (.not (.eq (.string "NumberSetDeskLaw" 208) (.string "NumberSetDeskLaw" 213))) (by decide +kernel))
        · exact Or.inl (hs (.not (.eq (.string "NumberSetDeskLaw" 208) (.string "NumberSetDeskLaw" 221))) (by decide +kernel))
        · exact Or.inl (hs (.not (.eq (.string "NumberSetDeskLaw" 208) (.string "NumberSetDeskLaw" 226))) (by decide +kernel))
        · exact Or.inl (hs (.not (.eq (.string "NumberSetDeskLaw" 208) (.string "NumberSetDeskLaw" 228))) (by decide +kernel))
        · exact Or.inl (hs (.not (.eq (.string "NumberSetDeskLaw" 208) (.string "NumberSetDeskLaw" 230))) (by decide +kernel))
      · rcases (show j = 0 ∨ j = 1 ∨ j = 2 ∨ j = 3 ∨ j = 4 ∨ j = 5 by omega) with rfl | rfl | rfl | rfl | rfl | rfl
        · exact Or.inr (hs (.not (.eq (.string "NumberSetDeskLaw" 208) (.string "NumberSetDeskLaw" 213))) (by decide +kernel))
        · exact absurd rfl hij
        · exact Or.inl (hs (.not (.eq (.string "NumberSetDeskLaw" 213) (.string "NumberSetDeskLaw" 221))) (by decide +kernel))
        · exact Or.inl (hs (.not (.eq (.string "NumberSetDeskLaw" 213) (.string "NumberSetDeskLaw" 226))) (by decide +kernel))
        · exact Or.inl (hs (.not (.eq (.string "NumberSetDeskLaw" 213) (.string "NumberSetDeskLaw" 228))) (by decide +kernel))
        · exact Or.inl (hs (.not (.eq (.string "NumberSetDeskLaw" 213) (.string "NumberSetDeskLaw" 230))) (by decide +kernel))
      · rcases (show j = 0 ∨ j = 1 ∨ j = 2 ∨ j = 3 ∨ j = 4 ∨ j = 5 by omega) with rfl | rfl | rfl | rfl | rfl | rfl
        · exact Or.inr (hs (.not (.eq (.string "NumberSetDeskLaw" 208) (.string "NumberSetDeskLaw" 221))) (by decide +kernel))
        · exact Or.inr (hs (.not (.eq (.string "NumberSetDeskLaw" 213) (.string "NumberSetDeskLaw" 221))) (by decide +kernel))
        · exact absurd rfl hij
        · exact Or.inl (hs (.not (.eq (.string "NumberSetDeskLaw" 221) (.string "NumberSetDeskLaw" 226))) (by decide +kernel))
        · exact Or.inl (hs (.not (.eq (.string "NumberSetDeskLaw" 221) (.string "NumberSetDeskLaw" 228))) (by decide +kernel))
        · exact Or.inl (hs (.not (.eq (.string "NumberSetDeskLaw" 221) (.string "NumberSetDeskLaw" 230))) (by decide +kernel))
      · rcases (show j = 0 ∨ j = 1 ∨ j = 2 ∨ j = 3 ∨ j = 4 ∨ j = 5 by omega) with rfl | rfl | rfl | rfl | rfl | rfl
        · exact Or.inr (hs (.not (.eq (.string "NumberSetDeskLaw" 208) (.string "NumberSetDeskLaw" 226))) (by decide +kernel))
        · exact Or.inr (hs (.not (.eq (.string "NumberSetDeskLaw" 213) (.string "NumberSetDeskLaw" 226))) (by decide +kernel))
        · exact Or.inr (hs (.not (.eq (.string "NumberSetDeskLaw" 221) (.string "NumberSetDeskLaw" 226))) (by decide +kernel))
        · exact absurd rfl hij
        · exact Or.inl (hs (.not (.eq (.string "NumberSetDeskLaw" 226) (.string "NumberSetDeskLaw" 228))) (by decide +kernel))
        · exact Or.inl (hs (.not (.eq (.string "NumberSetDeskLaw" 226) (.string "NumberSetDeskLaw" 230))) (by decide +kernel))
      · rcases (show j = 0 ∨ j = 1 ∨ j = 2 ∨ j = 3 ∨ j = 4 ∨ j = 5 by omega) with rfl | rfl | rfl | rfl | rfl | rfl
        · exact Or.inr (hs (.not (.eq (.string "NumberSetDeskLaw" 208) (.string "NumberSetDeskLaw" 228))) (by decide +kernel))
        · exact Or.inr (hs (.not (.eq (.string "NumberSetDeskLaw" 213) (.string "NumberSetDeskLaw" 228))) (by decide +kernel))
        · exact Or.inr (hs (.not (.eq (.string "NumberSetDeskLaw" 221) (.string "NumberSetDeskLaw" 228))) (by decide +kernel))
        · exact Or.inr (hs (.not (.eq (.string "NumberSetDeskLaw" 226) (.string "NumberSetDeskLaw" 228))) (by decide +kernel))
        · exact absurd rfl hij
        · exact Or.inl (hs (.not (.eq (.string "NumberSetDeskLaw" 228) (.string "NumberSetDeskLaw" 230))) (by decide +kernel))
      · rcases (show j = 0 ∨ j = 1 ∨ j = 2 ∨ j = 3 ∨ j = 4 ∨ j = 5 by omega) with rfl | rfl | rfl | rfl | rfl | rfl
        · exact Or.inr (hs (.not (.eq (.string "NumberSetDeskLaw" 208) (.string "NumberSetDeskLaw" 230))) (by decide +kernel))
        · exact Or.inr (hs (.not (.eq (.string "NumberSetDeskLaw" 213) (.string "NumberSetDeskLaw" 230))) (by decide +kernel))
        · exact Or.inr (hs (.not (.eq (.string "NumberSetDeskLaw" 221) (.string "NumberSetDeskLaw" 230))) (by decide +kernel))
        · exact Or.inr (hs (.not (.eq (.string "NumberSetDeskLaw" 226) (.string "NumberSetDeskLaw" 230))) (by decide +kernel))
        · exact Or.inr (hs (.not (.eq (.string "NumberSetDeskLaw" 228) (.string "NumberSetDeskLaw" 230))) (by decide +kernel))
        · exact absurd rfl hij) hA
  exact ⟨adK, adV, h1, vk_R.of (A := #[Value.ref b]) (hts (.stringRef RL 208 "&|~!") (by decide +kernel)) (h2 0 (by omega)), vk_R.of (A := #[Value.ref b]) (hts (.stringRef RL 213 "f=a;f") (by decide +kernel)) (h2 1 (by omega)), vk_R.of (A := #[Value.ref b]) (hts (.stringRef RL 221 "b; f^") (by decide +kernel)) (h2 2 (by omega)), vk_R.of (A := #[Value.ref b]) (hts (.stringRef RL 226 "..") (by decide +kernel)) (h2 3 (by omega)), vk_R.of (A := #[Value.ref b]) (hts (.stringRef RL 228 ";f+") (by decide +kernel)) (h2 4 (by omega)), vk_R.of (A := #[Value.ref b]) (hts (.stringRef RL 230 ";") (by decide +kernel)) (h2 5 (by omega))⟩
