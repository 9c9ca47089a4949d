/-! Signs, by String.indexOf. -/
theorem sgb_eq : ∀ b, b < 256 → ∀ k, k < 12 → (sgb.getD k 0 = (nI b).toInt8.toInt32 ↔ sg12.getD k 0 = b) := by decide +kernel
theorem sgn_iff : ∀ b, b < 256 → (sgn b = true ↔ ∃ k, k < 12 ∧ sg12.getD k 0 = b) := by decide +kernel
abbrev rm_J1_canEncode_9a6ad : Room := { frames := 0, cells := 0, slots := 0, locals := 0 }
theorem yd_J1_canEncode_9a6ad : yJ1_canEncode_9a6ad.cls = RJ1 ∧ yJ1_canEncode_9a6ad.cls ≠ "java/lang/invoke/MethodHandle" ∧ yJ1_canEncode_9a6ad.cls ≠ "java/lang/invoke/VarHandle" ∧ (parseMethodDescriptor yJ1_canEncode_9a6ad.desc).map (fun d => d.parameters.length) = some 1 := by decide +kernel
set_option maxHeartbeats 4000000 in
set_option maxRecDepth 100000 in
theorem kt_J1_canEncode_9a6ad (l : Launch) (b0 : Nat) (hb0 : b0 < 256) : SMi l yJ1_canEncode_9a6ad wsJ1_canEncode_9a6ad rm_J1_canEncode_9a6ad [.int (nI b0)] (fun (r : Int32) => r = (bI true)) := by
  refine SMi_of (lv := [(0, .int (nI b0))]) (cc := cJ1_canEncode_9a6ad) (maxL := 1) (ret := (some .boolean)) rfl (by decide +kernel) (Nat.le_of_ble_eq_true rfl) rfl ?_
  intro p e s m args below meth c hc hts hown hml hr hlk
  have X : (p.tables.exec = Jvm.exec ∧ c.code = cJ1_canEncode_9a6ad) ∧ True := ⟨hc, trivial⟩
  generalize hQ : MQ below _ args s 0 0 _ = Q
  refine zz_iload_n 0 X.1 0 dJ1_canEncode_9a6ad_0 rfl ?_
  refine zz_if_lt 1 15 X.1 (nI_toInt (by omega)) dJ1_canEncode_9a6ad_1 (by decide) (fun h1 => ?_) (fun h1 => ?_)
  · exfalso; omega
  · skip
    refine zz_iload_n 4 X.1 0 dJ1_canEncode_9a6ad_4 rfl ?_
    refine zz_sipush 5 X.1 (v := nI 255) dJ1_canEncode_9a6ad_5 rfl ?_
    refine zz_icmp_gt 8 15 X.1 (nI_toInt (by omega)) (nI_toInt (by omega)) dJ1_canEncode_9a6ad_8 (by decide) (fun h8 => ?_) (fun h8 => ?_)
    · exfalso; omega
    · skip
      refine zz_iconst 11 X.1 (v := nI 1) dJ1_canEncode_9a6ad_11 rfl ?_
      refine zz_goto 12 16 X.1 dJ1_canEncode_9a6ad_12 (by decide) ?_
      refine zz_topi (bI true) rfl ?_
      rw [← hQ]
      refine zz_iret 16 X.1 hr (bI_nar _) hlk () ?_ (fun _ _ _ => trivial) dJ1_canEncode_9a6ad_16
      exact rfl
abbrev rm_J1_indexOfChar_4cfef : Room := { frames := 0, cells := 0, slots := 0, locals := 0 }
theorem yd_J1_indexOfChar_4cfef : yJ1_indexOfChar_4cfef.cls = RJ1 ∧ yJ1_indexOfChar_4cfef.cls ≠ "java/lang/invoke/MethodHandle" ∧ yJ1_indexOfChar_4cfef.cls ≠ "java/lang/invoke/VarHandle" ∧ (parseMethodDescriptor yJ1_indexOfChar_4cfef.desc).map (fun d => d.parameters.length) = some 4 := by decide +kernel
set_option maxHeartbeats 4000000 in
set_option maxRecDepth 100000 in
theorem kt_J1_indexOfChar_4cfef (l : Launch) (adK adV : Nat → Nat) (b0 : Nat) (hb0 : b0 < 256) : SAi l yJ1_indexOfChar_4cfef wsJ1_indexOfChar_4cfef rm_J1_indexOfChar_4cfef adK adV [.ref (adV 0), .int (nI b0), .int (nI 0), .int (nI 12)] (fun (r : Int32) => (sgn b0 = true → ∃ (k1 : Nat), r = (nI k1) ∧ k1 < 12) ∧ (sgn b0 = false → r = (-1))) := by
  refine SAi_of (lv := [(0, .ref (adV 0)), (1, .int (nI b0)), (2, .int (nI 0)), (3, .int (nI 12))]) (cc := cJ1_indexOfChar_4cfef) (maxL := 6) (ret := (some .int)) rfl (by decide +kernel) (Nat.le_of_ble_eq_true rfl) rfl ?_
  intro p e s m args below meth c hc hts hown hB hml hr hlk
  have X : (p.tables.exec = Jvm.exec ∧ c.code = cJ1_indexOfChar_4cfef) ∧ True := ⟨hc, trivial⟩
  generalize hQ : MQ below _ args s 0 0 _ = Q
  refine zz_iload_n 0 X.1 1 dJ1_indexOfChar_4cfef_0 rfl ?_
  refine zz_i2b 1 X.1 (v := ((nI b0).toInt8.toInt32)) dJ1_indexOfChar_4cfef_1 rfl ?_
  refine zz_istore 2 X.1 (lv' := [(4, .int ((nI b0).toInt8.toInt32)), (0, .ref (adV 0)), (1, .int (nI b0)), (2, .int (nI 0)), (3, .int (nI 12))]) dJ1_indexOfChar_4cfef_2 (by decide) rfl ?_
  refine zz_iload_n 4 X.1 3 dJ1_indexOfChar_4cfef_4 rfl ?_
  refine zz_istore 5 X.1 (lv' := [(5, .int (nI 0)), (4, .int ((nI b0).toInt8.toInt32)), (0, .ref (adV 0)), (1, .int (nI b0)), (2, .int (nI 0)), (3, .int (nI 12))]) dJ1_indexOfChar_4cfef_5 (by decide) rfl ?_
  have C7 : ∀ (d : Nat) (k : Nat) (hk : k ≤ 12) (hno : ∀ j, j < k → sg12.getD j 0 ≠ b0) (hd : 12 - k < d), ZZ p l e rm_J1_indexOfChar_4cfef s m args below meth c 0 0 Q (zz_A (fun _ => False) s.heap.size) (fun _ => True) 6 [(0, .ref (adV 0)), (3, .int (nI 12)), (4, .int ((nI b0).toInt8.toInt32)), (5, .int (nI k))] [] 7 := by
    intro d
    induction d with
    | zero => intro k hk hno hd; exact absurd hd (Nat.not_lt_zero _)
    | succ d ih7 =>
      intro k hk hno hd
      refine zz_iload 7 X.1 3 dJ1_indexOfChar_4cfef_7 rfl ?_
      refine zz_iload_n 9 X.1 1 dJ1_indexOfChar_4cfef_9 rfl ?_
      refine zz_icmp_ge 10 31 X.1 (nI_toInt (by omega)) (nI_toInt (by omega)) dJ1_indexOfChar_4cfef_10 (by decide) (fun h10 => ?_) (fun h10 => ?_)
      · skip
        refine zz_iconst 31 X.1 (v := (-1)) dJ1_indexOfChar_4cfef_31 (by decide) ?_
        rw [← hQ]
        refine zz_iret 32 X.1 hr rfl hlk () ?_ (fun _ _ _ => trivial) dJ1_indexOfChar_4cfef_32
        have hn : ¬ sgn b0 = true := fun q => by obtain ⟨j, hj, hj2⟩ := (sgn_iff b0 hb0).mp q; exact hno j (by omega) hj2
        exact ⟨fun hc => absurd hc hn, fun _ => rfl⟩
      · skip
        refine zz_aload_n 13 X.1 0 dJ1_indexOfChar_4cfef_13 rfl ?_
        refine zz_iload 14 X.1 3 dJ1_indexOfChar_4cfef_14 rfl ?_
        refine zs_tb 16 X.1 (hB.1.1 0 (by decide)).2.2.2 (i := nI k) (vp_in_nI (show k < 12 by omega) (by decide)) (v := .int (sgb.getD k 0)) (by show Value.int (sgb.getD (nI k).toNatClampNeg 0) = _; rw [nI_clamp (by omega)]) dJ1_indexOfChar_4cfef_16 ?_
        refine zz_iload 17 X.1 2 dJ1_indexOfChar_4cfef_17 rfl ?_
        refine zz_icmp_ne 19 25 X.1 rfl rfl dJ1_indexOfChar_4cfef_19 (by decide) (fun h19 => ?_) (fun h19 => ?_)
        · skip
          have hne : ¬ sgb.getD k 0 = (nI b0).toInt8.toInt32 := fun q => absurd (congrArg Int32.toInt q) (by omega)
          refine zz_iinc 25 X.1 3 (v := (nI (k + 1))) (lv' := [(5, .int (nI (k + 1))), (0, .ref (adV 0)), (3, .int (nI 12)), (4, .int ((nI b0).toInt8.toInt32))]) dJ1_indexOfChar_4cfef_25 rfl (nI_add k 1) (by decide) rfl ?_
          refine zz_goto 28 7 X.1 dJ1_indexOfChar_4cfef_28 (by decide) ?_
          refine zz_lvs [1, 2, 3, 0] rfl ?_
          exact ih7 (k + 1) (by omega) (fun j hj => by rcases Nat.lt_or_ge j k with z | z; exact hno j z; rw [show j = k by omega]; exact fun q => hne ((sgb_eq b0 hb0 k (by omega)).mpr q)) (by omega)
        · skip
          refine zz_iload 22 X.1 3 dJ1_indexOfChar_4cfef_22 rfl ?_
          rw [← hQ]
          refine zz_iret 24 X.1 hr rfl hlk () ?_ (fun _ _ _ => trivial) dJ1_indexOfChar_4cfef_24
          have hy : sgn b0 = true := (sgn_iff b0 hb0).mpr ⟨k, by omega, (sgb_eq b0 hb0 k (by omega)).mp (Int32.toInt_inj.mp (by omega))⟩
          exact ⟨fun _ => ⟨k, rfl, by omega⟩, fun hc => absurd (hy.symm.trans hc) (by decide)⟩
  refine zz_lvs [2, 5, 1, 0] rfl ?_
  exact C7 (12 - 0 + 1) 0 (by omega) (fun j hj => absurd hj (Nat.not_lt_zero _)) (Nat.lt_succ_self _)
abbrev rm_J1_indexOf_4cfef : Room := { frames := 1, cells := 0, slots := 0, locals := 25 }
theorem yd_J1_indexOf_4cfef : yJ1_indexOf_4cfef.cls = RJ1 ∧ yJ1_indexOf_4cfef.cls ≠ "java/lang/invoke/MethodHandle" ∧ yJ1_indexOf_4cfef.cls ≠ "java/lang/invoke/VarHandle" ∧ (parseMethodDescriptor yJ1_indexOf_4cfef.desc).map (fun d => d.parameters.length) = some 4 := by decide +kernel
set_option maxHeartbeats 4000000 in
set_option maxRecDepth 100000 in
theorem kt_J1_indexOf_4cfef (l : Launch) (adK adV : Nat → Nat) (b0 : Nat) (hb0 : b0 < 256) : SAi l yJ1_indexOf_4cfef wsJ1_indexOf_4cfef rm_J1_indexOf_4cfef adK adV [.ref (adV 0), .int (nI b0), .int (nI 0), .int (nI 12)] (fun (r : Int32) => (sgn b0 = true → ∃ (k1 : Nat), r = (nI k1) ∧ k1 < 12) ∧ (sgn b0 = false → r = (-1))) := by
  refine SAi_of (lv := [(0, .ref (adV 0)), (1, .int (nI b0)), (2, .int (nI 0)), (3, .int (nI 12))]) (cc := cJ1_indexOf_4cfef) (maxL := 4) (ret := (some .int)) rfl (by decide +kernel) (Nat.le_of_ble_eq_true rfl) rfl ?_
  intro p e s m args below meth c hc hts hown hB hml hr hlk
  have X : (p.tables.exec = Jvm.exec ∧ c.code = cJ1_indexOf_4cfef) ∧ True := ⟨hc, trivial⟩
  generalize hQ : MQ below _ args s 0 0 _ = Q
  refine zz_iload_n 0 X.1 1 dJ1_indexOf_4cfef_0 rfl ?_
  refine zz_callS0i 1 ⟨X.1.1, X.1.2, hml, hown, hts⟩ (fun q h => Or.inr h) (fun _ _ h _ _ => h) (As := [.int (nI b0)]) (kt_J1_canEncode_9a6ad l b0 (by first | rfl | assumption | omega)) gJ1_indexOf_4cfef_J1_canEncode_9a6ad rfl ⟨rfl, rfl⟩ yd_J1_canEncode_9a6ad.2 ⟨Nat.le_of_ble_eq_true rfl, Nat.le_of_ble_eq_true rfl⟩ rfl rfl (Nat.le_of_ble_eq_true rfl) ⟨Nat.zero_le _, Nat.zero_le _⟩ dJ1_indexOf_4cfef_1 ?_
  intro r1 hu1
  obtain rfl := hu1
  refine zz_ifB_ne 4 9 X.1 dJ1_indexOf_4cfef_4 (by decide) (fun h4 => ?_) (fun h4 => ?_)
  · skip
    refine zz_iload_n 9 X.1 2 dJ1_indexOf_4cfef_9 rfl ?_
    refine zz_iconst 10 X.1 (v := nI 0) dJ1_indexOf_4cfef_10 rfl ?_
    refine zz_mmax 11 X.1 hml hown (hts _ (by decide +kernel)) (hts _ (by decide +kernel)) (hts _ (by decide +kernel)) (hts _ (by decide +kernel)) (Nat.le_of_ble_eq_true rfl) (Nat.le_of_ble_eq_true rfl) (Nat.zero_le _) (Nat.zero_le _) (v := (nI 0)) dJ1_indexOf_4cfef_11 (by decide) ?_
    refine zz_istore_n 14 X.1 (lv' := [(2, .int (nI 0)), (0, .ref (adV 0)), (1, .int (nI b0)), (3, .int (nI 12))]) dJ1_indexOf_4cfef_14 (by decide) rfl ?_
    refine zz_iload_n 15 X.1 3 dJ1_indexOf_4cfef_15 rfl ?_
    refine zz_aload_n 16 X.1 1 dJ1_indexOf_4cfef_16 rfl ?_
    refine zs_tlen 17 X.1 (hB.1.1 0 (by decide)).2.2.2 (v := nI 12) rfl dJ1_indexOf_4cfef_17 ?_
    refine zz_mmin 18 X.1 hml hown (hts _ (by decide +kernel)) (hts _ (by decide +kernel)) (hts _ (by decide +kernel)) (hts _ (by decide +kernel)) (Nat.le_of_ble_eq_true rfl) (Nat.le_of_ble_eq_true rfl) (Nat.zero_le _) (Nat.zero_le _) (v := (nI 12)) dJ1_indexOf_4cfef_18 (by decide) ?_
    refine zz_istore_n 21 X.1 (lv' := [(3, .int (nI 12)), (2, .int (nI 0)), (0, .ref (adV 0)), (1, .int (nI b0))]) dJ1_indexOf_4cfef_21 (by decide) rfl ?_
    refine zz_iload_n 22 X.1 1 dJ1_indexOf_4cfef_22 rfl ?_
    refine zz_iload_n 23 X.1 0 dJ1_indexOf_4cfef_23 rfl ?_
    refine zz_icmp_lt 24 29 X.1 (nI_toInt (by omega)) (nI_toInt (by omega)) dJ1_indexOf_4cfef_24 (by decide) (fun h24 => ?_) (fun h24 => ?_)
    · skip
      refine zz_aload_n 29 X.1 2 dJ1_indexOf_4cfef_29 rfl ?_
      refine zz_iload_n 30 X.1 3 dJ1_indexOf_4cfef_30 rfl ?_
      refine zz_iload_n 31 X.1 1 dJ1_indexOf_4cfef_31 rfl ?_
      refine zz_iload_n 32 X.1 0 dJ1_indexOf_4cfef_32 rfl ?_
      refine zz_callSAi 33 hB ⟨X.1.1, X.1.2, hml, hown, hts⟩ (fun q h => Or.inr h) (fun _ _ h _ _ => h) (As := [.ref (adV 0), .int (nI b0), .int (nI 0), .int (nI 12)]) (kt_J1_indexOfChar_4cfef l adK adV b0 (by first | rfl | assumption | omega)) gJ1_indexOf_4cfef_J1_indexOfChar_4cfef rfl ⟨rfl, rfl⟩ yd_J1_indexOfChar_4cfef.2 ⟨Nat.le_of_ble_eq_true rfl, Nat.le_of_ble_eq_true rfl⟩ rfl rfl (Nat.le_of_ble_eq_true rfl) ⟨Nat.zero_le _, Nat.zero_le _⟩ dJ1_indexOf_4cfef_33 ?_
      intro r2 hu2
      rcases (show (sgn b0 = true) ∨ (sgn b0 = false) by exact Bool.eq_false_or_eq_true _) with hc2 | hc2
      · skip
        obtain ⟨k1_2, rfl, hk1_2⟩ := (hu2.1 hc2)
        rw [← hQ]
        refine zz_iret 36 X.1 hr rfl hlk () ?_ (fun _ _ _ => trivial) dJ1_indexOf_4cfef_36
        refine ⟨fun hc => ?_, fun hc => ?_⟩ <;> first | (exact ⟨_, rfl, by assumption⟩) | (exact rfl) | (exfalso; simp_all; done)
      · skip
        obtain rfl := (hu2.2 hc2)
        rw [← hQ]
        refine zz_iret 36 X.1 hr rfl hlk () ?_ (fun _ _ _ => trivial) dJ1_indexOf_4cfef_36
        refine ⟨fun hc => ?_, fun hc => ?_⟩ <;> first | (exact ⟨_, rfl, by assumption⟩) | (exact rfl) | (exfalso; simp_all; done)
    · exfalso; omega
  · exact absurd h4 (by decide)
abbrev rm_J0_isLatin1_aae02 : Room := { frames := 0, cells := 0, slots := 0, locals := 0 }
theorem yd_J0_isLatin1_aae02 : yJ0_isLatin1_aae02.cls = RJ0 ∧ yJ0_isLatin1_aae02.cls ≠ "java/lang/invoke/MethodHandle" ∧ yJ0_isLatin1_aae02.cls ≠ "java/lang/invoke/VarHandle" ∧ (parseMethodDescriptor yJ0_isLatin1_aae02.desc).map (fun d => d.parameters.length) = some 0 := by decide +kernel
set_option maxHeartbeats 4000000 in
set_option maxRecDepth 100000 in
theorem kt_J0_isLatin1_aae02 (l : Launch) (adK adV : Nat → Nat)   : SAi l yJ0_isLatin1_aae02 wsJ0_isLatin1_aae02 rm_J0_isLatin1_aae02 adK adV [.ref (adK 0)] (fun (r : Int32) => r = (bI true)) := by
  refine SAi_of (lv := [(0, .ref (adK 0))]) (cc := cJ0_isLatin1_aae02) (maxL := 1) (ret := (some .boolean)) rfl (by decide +kernel) (Nat.le_of_ble_eq_true rfl) rfl ?_
  intro p e s m args below meth c hc hts hown hB hml hr hlk
  have X : (p.tables.exec = Jvm.exec ∧ c.code = cJ0_isLatin1_aae02) ∧ True := ⟨hc, trivial⟩
  generalize hQ : MQ below _ args s 0 0 _ = Q
  refine zs_gets 0 X.1 hown hB.2.2 (hts _ (by decide +kernel)) dJ0_isLatin1_aae02_0 ?_
  refine zz_topi (nI 1) rfl ?_
  refine zz_if_eq 3 17 X.1 (nI_toInt (by omega)) dJ0_isLatin1_aae02_3 (by decide) (fun h3 => ?_) (fun h3 => ?_)
  · exfalso; omega
  · skip
    refine zz_aload_n 6 X.1 0 dJ0_isLatin1_aae02_6 rfl ?_
    refine zs_getf 7 X.1 hown (hB.1.1 0 (by decide)).2.1 (hts _ (by decide +kernel)) dJ0_isLatin1_aae02_7 ?_
    refine zz_topi (nI 0) rfl ?_
    refine zz_if_ne 10 17 X.1 (nI_toInt (by omega)) dJ0_isLatin1_aae02_10 (by decide) (fun h10 => ?_) (fun h10 => ?_)
    · exfalso; omega
    · skip
      refine zz_iconst 13 X.1 (v := nI 1) dJ0_isLatin1_aae02_13 rfl ?_
      refine zz_goto 14 18 X.1 dJ0_isLatin1_aae02_14 (by decide) ?_
      refine zz_topi (bI true) rfl ?_
      rw [← hQ]
      refine zz_iret 18 X.1 hr (bI_nar _) hlk () ?_ (fun _ _ _ => trivial) dJ0_isLatin1_aae02_18
      exact rfl
abbrev rm_J0_coder_7d493 : Room := { frames := 0, cells := 0, slots := 0, locals := 0 }
theorem yd_J0_coder_7d493 : yJ0_coder_7d493.cls = RJ0 ∧ yJ0_coder_7d493.cls ≠ "java/lang/invoke/MethodHandle" ∧ yJ0_coder_7d493.cls ≠ "java/lang/invoke/VarHandle" ∧ (parseMethodDescriptor yJ0_coder_7d493.desc).map (fun d => d.parameters.length) = some 0 := by decide +kernel
set_option maxHeartbeats 4000000 in
set_option maxRecDepth 100000 in
theorem kt_J0_coder_7d493 (l : Launch) (adK adV : Nat → Nat)   : SAi l yJ0_coder_7d493 wsJ0_coder_7d493 rm_J0_coder_7d493 adK adV [.ref (adK 0)] (fun (r : Int32) => r = (nI 0)) := by
  refine SAi_of (lv := [(0, .ref (adK 0))]) (cc := cJ0_coder_7d493) (maxL := 1) (ret := (some .byte)) rfl (by decide +kernel) (Nat.le_of_ble_eq_true rfl) rfl ?_
  intro p e s m args below meth c hc hts hown hB hml hr hlk
  have X : (p.tables.exec = Jvm.exec ∧ c.code = cJ0_coder_7d493) ∧ True := ⟨hc, trivial⟩
  generalize hQ : MQ below _ args s 0 0 _ = Q
  refine zs_gets 0 X.1 hown hB.2.2 (hts _ (by decide +kernel)) dJ0_coder_7d493_0 ?_
  refine zz_topi (nI 1) rfl ?_
  refine zz_if_eq 3 13 X.1 (nI_toInt (by omega)) dJ0_coder_7d493_3 (by decide) (fun h3 => ?_) (fun h3 => ?_)
  · exfalso; omega
  · skip
    refine zz_aload_n 6 X.1 0 dJ0_coder_7d493_6 rfl ?_
    refine zs_getf 7 X.1 hown (hB.1.1 0 (by decide)).2.1 (hts _ (by decide +kernel)) dJ0_coder_7d493_7 ?_
    refine zz_topi (nI 0) rfl ?_
    refine zz_goto 10 14 X.1 dJ0_coder_7d493_10 (by decide) ?_
    rw [← hQ]
    refine zz_iret 14 X.1 hr rfl hlk () ?_ (fun _ _ _ => trivial) dJ0_coder_7d493_14
    exact rfl
abbrev rm_J0_length_8abf5 : Room := { frames := 1, cells := 0, slots := 0, locals := 20 }
theorem yd_J0_length_8abf5 : yJ0_length_8abf5.cls = RJ0 ∧ yJ0_length_8abf5.cls ≠ "java/lang/invoke/MethodHandle" ∧ yJ0_length_8abf5.cls ≠ "java/lang/invoke/VarHandle" ∧ (parseMethodDescriptor yJ0_length_8abf5.desc).map (fun d => d.parameters.length) = some 0 := by decide +kernel
set_option maxHeartbeats 4000000 in
set_option maxRecDepth 100000 in
theorem kt_J0_length_8abf5 (l : Launch) (adK adV : Nat → Nat)   : SAi l yJ0_length_8abf5 wsJ0_length_8abf5 rm_J0_length_8abf5 adK adV [.ref (adK 0)] (fun (r : Int32) => r = (nI 12)) := by
  refine SAi_of (lv := [(0, .ref (adK 0))]) (cc := cJ0_length_8abf5) (maxL := 1) (ret := (some .int)) rfl (by decide +kernel) (Nat.le_of_ble_eq_true rfl) rfl ?_
  intro p e s m args below meth c hc hts hown hB hml hr hlk
  have X : (p.tables.exec = Jvm.exec ∧ c.code = cJ0_length_8abf5) ∧ True := ⟨hc, trivial⟩
  generalize hQ : MQ below _ args s 0 0 _ = Q
  refine zz_aload_n 0 X.1 0 dJ0_length_8abf5_0 rfl ?_
  refine zs_getf 1 X.1 hown (hB.1.1 0 (by decide)).2.2.1 (hts _ (by decide +kernel)) dJ0_length_8abf5_1 ?_
  refine zs_tlen 4 X.1 (hB.1.1 0 (by decide)).2.2.2 (v := nI 12) rfl dJ0_length_8abf5_4 ?_
  refine zz_aload_n 5 X.1 0 dJ0_length_8abf5_5 rfl ?_
  refine zz_callVAi 6 hB ⟨X.1.1, X.1.2, hml, hown, hts⟩ (fun q h => Or.inr h) (As := []) (kt_J0_coder_7d493 l adK adV  ) gJ0_length_8abf5_J0_coder_7d493 rfl ⟨rfl, rfl⟩ yd_J0_coder_7d493 ⟨Nat.le_of_ble_eq_true rfl, Nat.le_of_ble_eq_true rfl⟩ rfl rfl (Nat.le_of_ble_eq_true rfl) ⟨Nat.zero_le _, Nat.zero_le _⟩ dJ0_length_8abf5_6 ?_
  intro r1 hu1
  obtain rfl := hu1
  refine zz_ishr 9 X.1 (v := (nI 12)) dJ0_length_8abf5_9 (by decide) ?_
  rw [← hQ]
  refine zz_iret 10 X.1 hr rfl hlk () ?_ (fun _ _ _ => trivial) dJ0_length_8abf5_10
  exact rfl
abbrev rm_J0_indexOf_7cf53 : Room := { frames := 5, cells := 0, slots := 0, locals := 116 }
theorem yd_J0_indexOf_7cf53 : yJ0_indexOf_7cf53.cls = RJ0 ∧ yJ0_indexOf_7cf53.cls ≠ "java/lang/invoke/MethodHandle" ∧ yJ0_indexOf_7cf53.cls ≠ "java/lang/invoke/VarHandle" ∧ (parseMethodDescriptor yJ0_indexOf_7cf53.desc).map (fun d => d.parameters.length) = some 2 := by decide +kernel
set_option maxHeartbeats 4000000 in
set_option maxRecDepth 100000 in
theorem kt_J0_indexOf_7cf53 (l : Launch) (adK adV : Nat → Nat) (b0 : Nat) (hb0 : b0 < 256) : SAi l yJ0_indexOf_7cf53 wsJ0_indexOf_7cf53 rm_J0_indexOf_7cf53 adK adV [.ref (adK 0), .int (nI b0), .int (nI 0)] (fun (r : Int32) => (sgn b0 = true → ∃ (k1 : Nat), r = (nI k1) ∧ k1 < 12) ∧ (sgn b0 = false → r = (-1))) := by
  refine SAi_of (lv := [(0, .ref (adK 0)), (1, .int (nI b0)), (2, .int (nI 0))]) (cc := cJ0_indexOf_7cf53) (maxL := 3) (ret := (some .int)) rfl (by decide +kernel) (Nat.le_of_ble_eq_true rfl) rfl ?_
  intro p e s m args below meth c hc hts hown hB hml hr hlk
  have X : (p.tables.exec = Jvm.exec ∧ c.code = cJ0_indexOf_7cf53) ∧ True := ⟨hc, trivial⟩
  generalize hQ : MQ below _ args s 0 0 _ = Q
  refine zz_aload_n 0 X.1 0 dJ0_indexOf_7cf53_0 rfl ?_
  refine zz_callVAi 1 hB ⟨X.1.1, X.1.2, hml, hown, hts⟩ (fun q h => Or.inr h) (As := []) (kt_J0_isLatin1_aae02 l adK adV  ) gJ0_indexOf_7cf53_J0_isLatin1_aae02 rfl ⟨rfl, rfl⟩ yd_J0_isLatin1_aae02 ⟨Nat.le_of_ble_eq_true rfl, Nat.le_of_ble_eq_true rfl⟩ rfl rfl (Nat.le_of_ble_eq_true rfl) ⟨Nat.zero_le _, Nat.zero_le _⟩ dJ0_indexOf_7cf53_1 ?_
  intro r1 hu1
  obtain rfl := hu1
  refine zz_ifB_eq 4 23 X.1 dJ0_indexOf_7cf53_4 (by decide) (fun h4 => ?_) (fun h4 => ?_)
  · exact absurd h4 (by decide)
  · skip
    refine zz_aload_n 7 X.1 0 dJ0_indexOf_7cf53_7 rfl ?_
    refine zs_getf 8 X.1 hown (hB.1.1 0 (by decide)).2.2.1 (hts _ (by decide +kernel)) dJ0_indexOf_7cf53_8 ?_
    refine zz_iload_n 11 X.1 1 dJ0_indexOf_7cf53_11 rfl ?_
    refine zz_iload_n 12 X.1 2 dJ0_indexOf_7cf53_12 rfl ?_
    refine zz_aload_n 13 X.1 0 dJ0_indexOf_7cf53_13 rfl ?_
    refine zz_callVAi 14 hB ⟨X.1.1, X.1.2, hml, hown, hts⟩ (fun q h => Or.inr h) (As := []) (kt_J0_length_8abf5 l adK adV  ) gJ0_indexOf_7cf53_J0_length_8abf5 rfl ⟨rfl, rfl⟩ yd_J0_length_8abf5 ⟨Nat.le_of_ble_eq_true rfl, Nat.le_of_ble_eq_true rfl⟩ rfl rfl (Nat.le_of_ble_eq_true rfl) ⟨Nat.zero_le _, Nat.zero_le _⟩ dJ0_indexOf_7cf53_14 ?_
    intro r2 hu2
    obtain rfl := hu2
    refine zz_callSAi 17 hB ⟨X.1.1, X.1.2, hml, hown, hts⟩ (fun q h => Or.inr h) (fun _ _ h _ _ => h) (As := [.ref (adV 0), .int (nI b0), .int (nI 0), .int (nI 12)]) (kt_J1_indexOf_4cfef l adK adV b0 (by first | rfl | assumption | omega)) gJ0_indexOf_7cf53_J1_indexOf_4cfef rfl ⟨rfl, rfl⟩ yd_J1_indexOf_4cfef.2 ⟨Nat.le_of_ble_eq_true rfl, Nat.le_of_ble_eq_true rfl⟩ rfl rfl (Nat.le_of_ble_eq_true rfl) ⟨Nat.zero_le _, Nat.zero_le _⟩ dJ0_indexOf_7cf53_17 ?_
    intro r3 hu3
    rcases (show (sgn b0 = true) ∨ (sgn b0 = false) by exact Bool.eq_false_or_eq_true _) with hc3 | hc3
    · skip
      obtain ⟨k1_3, rfl, hk1_3⟩ := (hu3.1 hc3)
      refine zz_goto 20 36 X.1 dJ0_indexOf_7cf53_20 (by decide) ?_
      rw [← hQ]
      refine zz_iret 36 X.1 hr rfl hlk () ?_ (fun _ _ _ => trivial) dJ0_indexOf_7cf53_36
      refine ⟨fun hc => ?_, fun hc => ?_⟩ <;> first | (exact ⟨_, rfl, by assumption⟩) | (exact rfl) | (exfalso; simp_all; done)
    · skip
      obtain rfl := (hu3.2 hc3)
      refine zz_goto 20 36 X.1 dJ0_indexOf_7cf53_20 (by decide) ?_
      rw [← hQ]
      refine zz_iret 36 X.1 hr rfl hlk () ?_ (fun _ _ _ => trivial) dJ0_indexOf_7cf53_36
      refine ⟨fun hc => ?_, fun hc => ?_⟩ <;> first | (exact ⟨_, rfl, by assumption⟩) | (exact rfl) | (exfalso; simp_all; done)
abbrev rm_J0_indexOf_0f7a4 : Room := { frames := 6, cells := 0, slots := 0, locals := 138 }
theorem yd_J0_indexOf_0f7a4 : yJ0_indexOf_0f7a4.cls = RJ0 ∧ yJ0_indexOf_0f7a4.cls ≠ "java/lang/invoke/MethodHandle" ∧ yJ0_indexOf_0f7a4.cls ≠ "java/lang/invoke/VarHandle" ∧ (parseMethodDescriptor yJ0_indexOf_0f7a4.desc).map (fun d => d.parameters.length) = some 1 := by decide +kernel
set_option maxHeartbeats 4000000 in
set_option maxRecDepth 100000 in
theorem kt_J0_indexOf_0f7a4 (l : Launch) (adK adV : Nat → Nat) (b0 : Nat) (hb0 : b0 < 256) : SAi l yJ0_indexOf_0f7a4 wsJ0_indexOf_0f7a4 rm_J0_indexOf_0f7a4 adK adV [.ref (adK 0), .int (nI b0)] (fun (r : Int32) => (sgn b0 = true → ∃ (k1 : Nat), r = (nI k1) ∧ k1 < 12) ∧ (sgn b0 = false → r = (-1))) := by
  refine SAi_of (lv := [(0, .ref (adK 0)), (1, .int (nI b0))]) (cc := cJ0_indexOf_0f7a4) (maxL := 2) (ret := (some .int)) rfl (by decide +kernel) (Nat.le_of_ble_eq_true rfl) rfl ?_
  intro p e s m args below meth c hc hts hown hB hml hr hlk
  have X : (p.tables.exec = Jvm.exec ∧ c.code = cJ0_indexOf_0f7a4) ∧ True := ⟨hc, trivial⟩
  generalize hQ : MQ below _ args s 0 0 _ = Q
  refine zz_aload_n 0 X.1 0 dJ0_indexOf_0f7a4_0 rfl ?_
  refine zz_iload_n 1 X.1 1 dJ0_indexOf_0f7a4_1 rfl ?_
  refine zz_iconst 2 X.1 (v := nI 0) dJ0_indexOf_0f7a4_2 rfl ?_
  refine zz_callVAi 3 hB ⟨X.1.1, X.1.2, hml, hown, hts⟩ (fun q h => Or.inr h) (As := [.int (nI b0), .int (nI 0)]) (kt_J0_indexOf_7cf53 l adK adV b0 (by first | rfl | assumption | omega)) gJ0_indexOf_0f7a4_J0_indexOf_7cf53 rfl ⟨rfl, rfl⟩ yd_J0_indexOf_7cf53 ⟨Nat.le_of_ble_eq_true rfl, Nat.le_of_ble_eq_true rfl⟩ rfl rfl (Nat.le_of_ble_eq_true rfl) ⟨Nat.zero_le _, Nat.zero_le _⟩ dJ0_indexOf_0f7a4_3 ?_
  intro r1 hu1
  rcases (show (sgn b0 = true) ∨ (sgn b0 = false) by exact Bool.eq_false_or_eq_true _) with hc1 | hc1
  · skip
    obtain ⟨k1_1, rfl, hk1_1⟩ := (hu1.1 hc1)
    rw [← hQ]
    refine zz_iret 6 X.1 hr rfl hlk () ?_ (fun _ _ _ => trivial) dJ0_indexOf_0f7a4_6
    refine ⟨fun hc => ?_, fun hc => ?_⟩ <;> first | (exact ⟨_, rfl, by assumption⟩) | (exact rfl) | (exfalso; simp_all; done)
  · skip
    obtain rfl := (hu1.2 hc1)
    rw [← hQ]
    refine zz_iret 6 X.1 hr rfl hlk () ?_ (fun _ _ _ => trivial) dJ0_indexOf_0f7a4_6
    refine ⟨fun hc => ?_, fun hc => ?_⟩ <;> first | (exact ⟨_, rfl, by assumption⟩) | (exact rfl) | (exfalso; simp_all; done)
abbrev rm_X5_isSign : Room := { frames := 7, cells := 0, slots := 0, locals := 159 }
theorem yd_X5_isSign : yX5_isSign.cls = RX5 ∧ yX5_isSign.cls ≠ "java/lang/invoke/MethodHandle" ∧ yX5_isSign.cls ≠ "java/lang/invoke/VarHandle" ∧ (parseMethodDescriptor yX5_isSign.desc).map (fun d => d.parameters.length) = some 1 := by decide +kernel
set_option maxHeartbeats 4000000 in
set_option maxRecDepth 100000 in
theorem kt_X5_isSign (l : Launch) (adK adV : Nat → Nat) (b0 : Nat) (hb0 : b0 < 256) : SAi l yX5_isSign wsX5_isSign rm_X5_isSign adK adV [.int (nI b0)] (fun (r : Int32) => r = (bI (sgn b0))) := by
  refine SAi_of (lv := [(0, .int (nI b0))]) (cc := cX5_isSign) (maxL := 1) (ret := (some .boolean)) rfl (by decide +kernel) (Nat.le_of_ble_eq_true rfl) rfl ?_
  intro p e s m args below meth c hc hts hown hB hml hr hlk
  have X : (p.tables.exec = Jvm.exec ∧ c.code = cX5_isSign) ∧ True := ⟨hc, trivial⟩
  generalize hQ : MQ below _ args s 0 0 _ = Q
  refine zs_ldc 0 X.1 hown hB.2.1 dX5_isSign_0 ?_
  refine zz_iload_n 2 X.1 0 dX5_isSign_2 rfl ?_
  refine zz_callVAi 3 hB ⟨X.1.1, X.1.2, hml, hown, hts⟩ (fun q h => Or.inr h) (As := [.int (nI b0)]) (kt_J0_indexOf_0f7a4 l adK adV b0 (by first | rfl | assumption | omega)) gX5_isSign_J0_indexOf_0f7a4 rfl ⟨rfl, rfl⟩ yd_J0_indexOf_0f7a4 ⟨Nat.le_of_ble_eq_true rfl, Nat.le_of_ble_eq_true rfl⟩ rfl rfl (Nat.le_of_ble_eq_true rfl) ⟨Nat.zero_le _, Nat.zero_le _⟩ dX5_isSign_3 ?_
  intro r1 hu1
  rcases (show (sgn b0 = true) ∨ (sgn b0 = false) by exact Bool.eq_false_or_eq_true _) with hc1 | hc1
  · skip
    obtain ⟨k1_1, rfl, hk1_1⟩ := (hu1.1 hc1)
    refine zz_if_lt 6 13 X.1 (nI_toInt (by omega)) dX5_isSign_6 (by decide) (fun h6 => ?_) (fun h6 => ?_)
    · skip
      refine zz_iconst 13 X.1 (v := nI 0) dX5_isSign_13 rfl ?_
      refine zz_topi (bI false) rfl ?_
      rw [← hQ]
      refine zz_iret 14 X.1 hr (bI_nar _) hlk () ?_ (fun _ _ _ => trivial) dX5_isSign_14
      first | (exact congrArg bI (Eq.symm (by assumption))) | (exfalso; omega)
    · skip
      refine zz_iconst 9 X.1 (v := nI 1) dX5_isSign_9 rfl ?_
      refine zz_goto 10 14 X.1 dX5_isSign_10 (by decide) ?_
      refine zz_topi (bI true) rfl ?_
      rw [← hQ]
      refine zz_iret 14 X.1 hr (bI_nar _) hlk () ?_ (fun _ _ _ => trivial) dX5_isSign_14
      first | (exact congrArg bI (Eq.symm (by assumption))) | (exfalso; omega)
  · skip
    obtain rfl := (hu1.2 hc1)
    refine zz_if_lt 6 13 X.1 (by decide : (-1 : Int32).toInt = -1) dX5_isSign_6 (by decide) (fun h6 => ?_) (fun h6 => ?_)
    · skip
      refine zz_iconst 13 X.1 (v := nI 0) dX5_isSign_13 rfl ?_
      refine zz_topi (bI false) rfl ?_
      rw [← hQ]
      refine zz_iret 14 X.1 hr (bI_nar _) hlk () ?_ (fun _ _ _ => trivial) dX5_isSign_14
      first | (exact congrArg bI (Eq.symm (by assumption))) | (exfalso; omega)
    · skip
      refine zz_iconst 9 X.1 (v := nI 1) dX5_isSign_9 rfl ?_
      refine zz_goto 10 14 X.1 dX5_isSign_10 (by decide) ?_
      refine zz_topi (bI true) rfl ?_
      rw [← hQ]
      refine zz_iret 14 X.1 hr (bI_nar _) hlk () ?_ (fun _ _ _ => trivial) dX5_isSign_14
      first | (exact congrArg bI (Eq.symm (by assumption))) | (exfalso; omega)
