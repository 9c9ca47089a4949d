set_option maxHeartbeats 4000000 in
set_option maxRecDepth 100000 in
theorem kt_J0_isLatin1_s (l : Launch) (a : Nat) (v : Nat) (n : Nat) (f : Nat → Int32)  : NSi l yJ0_isLatin1_aae02 wsJ0_isLatin1_aae02 rm_J0_isLatin1_aae02 (STx a v n f) [.ref a] (fun (r : Int32) => r = (bI true)) := by
  refine NSi_of (lv := [(0, .ref a)]) (cc := cJ0_isLatin1_aae02) (maxL := 1) (ret := (some .boolean)) STx_ok rfl (by decide +kernel) (Nat.le_of_ble_eq_true rfl) rfl ?_
  intro p e s m args below meth c hc hts hown hB hml hr hlk
  have X : (p.tables.exec = Jvm.exec ∧ c.code = cJ0_isLatin1_aae02) ∧ True := ⟨hc, trivial⟩
  generalize hQ : MQ below _ args s 0 0 _ = Q
  refine zs_getsG 0 X.1 hown hB.2 (hts _ (by decide +kernel)) dJ0_isLatin1_aae02_0 ?_
  refine zz_topi (nI 1) rfl ?_
  refine zz_if_eq 3 17 X.1 (nI_toInt (by omega)) dJ0_isLatin1_aae02_3 (by decide) (fun h3 => ?_) (fun h3 => ?_)
  · exfalso; omega
  · skip
    refine zz_aload_n 6 X.1 0 dJ0_isLatin1_aae02_6 rfl ?_
    refine zs_getf 7 X.1 hown hB.1.2.1 (hts _ (by decide +kernel)) dJ0_isLatin1_aae02_7 ?_
    refine zz_topi (nI 0) rfl ?_
    refine zz_if_ne 10 17 X.1 (nI_toInt (by omega)) dJ0_isLatin1_aae02_10 (by decide) (fun h10 => ?_) (fun h10 => ?_)
    · exfalso; omega
    · skip
      refine zz_iconst 13 X.1 (v := nI 1) dJ0_isLatin1_aae02_13 rfl ?_
      refine zz_goto 14 18 X.1 dJ0_isLatin1_aae02_14 (by decide) ?_
      refine zz_topi (bI true) rfl ?_
      rw [← hQ]
      refine zz_iret 18 X.1 hr (bI_nar _) hlk () ?_ (fun _ _ _ => trivial) dJ0_isLatin1_aae02_18
      exact rfl

set_option maxHeartbeats 4000000 in
set_option maxRecDepth 100000 in
theorem kt_J0_coder_s (l : Launch) (a : Nat) (v : Nat) (n : Nat) (f : Nat → Int32)  : NSi l yJ0_coder_7d493 wsJ0_coder_7d493 rm_J0_coder_7d493 (STx a v n f) [.ref a] (fun (r : Int32) => r = (nI 0)) := by
  refine NSi_of (lv := [(0, .ref a)]) (cc := cJ0_coder_7d493) (maxL := 1) (ret := (some .byte)) STx_ok rfl (by decide +kernel) (Nat.le_of_ble_eq_true rfl) rfl ?_
  intro p e s m args below meth c hc hts hown hB hml hr hlk
  have X : (p.tables.exec = Jvm.exec ∧ c.code = cJ0_coder_7d493) ∧ True := ⟨hc, trivial⟩
  generalize hQ : MQ below _ args s 0 0 _ = Q
  refine zs_getsG 0 X.1 hown hB.2 (hts _ (by decide +kernel)) dJ0_coder_7d493_0 ?_
  refine zz_topi (nI 1) rfl ?_
  refine zz_if_eq 3 13 X.1 (nI_toInt (by omega)) dJ0_coder_7d493_3 (by decide) (fun h3 => ?_) (fun h3 => ?_)
  · exfalso; omega
  · skip
    refine zz_aload_n 6 X.1 0 dJ0_coder_7d493_6 rfl ?_
    refine zs_getf 7 X.1 hown hB.1.2.1 (hts _ (by decide +kernel)) dJ0_coder_7d493_7 ?_
    refine zz_topi (nI 0) rfl ?_
    refine zz_goto 10 14 X.1 dJ0_coder_7d493_10 (by decide) ?_
    rw [← hQ]
    refine zz_iret 14 X.1 hr rfl hlk () ?_ (fun _ _ _ => trivial) dJ0_coder_7d493_14
    exact rfl

set_option maxHeartbeats 4000000 in
set_option maxRecDepth 100000 in
theorem kt_J0_length_s (l : Launch) (a : Nat) (v : Nat) (n : Nat) (f : Nat → Int32)  : NSi l yJ0_length_8abf5 wsJ0_length_8abf5 rm_J0_length_8abf5 (STx a v n f) [.ref a] (fun (r : Int32) => r = (nI n)) := by
  refine NSi_of (lv := [(0, .ref a)]) (cc := cJ0_length_8abf5) (maxL := 1) (ret := (some .int)) STx_ok rfl (by decide +kernel) (Nat.le_of_ble_eq_true rfl) rfl ?_
  intro p e s m args below meth c hc hts hown hB hml hr hlk
  have X : (p.tables.exec = Jvm.exec ∧ c.code = cJ0_length_8abf5) ∧ True := ⟨hc, trivial⟩
  generalize hQ : MQ below _ args s 0 0 _ = Q
  refine zz_aload_n 0 X.1 0 dJ0_length_8abf5_0 rfl ?_
  refine zs_getf 1 X.1 hown hB.1.2.2.1 (hts _ (by decide +kernel)) dJ0_length_8abf5_1 ?_
  refine zs_tlen 4 X.1 hB.1.2.2.2 (v := nI n) rfl dJ0_length_8abf5_4 ?_
  refine zz_aload_n 5 X.1 0 dJ0_length_8abf5_5 rfl ?_
  refine zz_callVNi 6 STx_ok hB ⟨X.1.1, X.1.2, hml, hown, hts⟩ (fun q h => Or.inr h) (fun _ _ h _ _ => h) (As := []) (kt_J0_coder_s l a v n f ) (hB.1.1) gJ0_length_8abf5_J0_coder_7d493 rfl ⟨rfl, rfl⟩ yd_J0_coder_7d493 ⟨Nat.le_of_ble_eq_true rfl, Nat.le_of_ble_eq_true rfl⟩ rfl rfl (Nat.le_of_ble_eq_true rfl) ⟨Nat.le_of_ble_eq_true rfl, Nat.le_of_ble_eq_true rfl⟩ dJ0_length_8abf5_6 ?_
  intro r1 hu1
  obtain rfl := hu1
  refine zz_ishr 9 X.1 (v := (nI n)) dJ0_length_8abf5_9 (sh_r0 _) ?_
  rw [← hQ]
  refine zz_iret 10 X.1 hr rfl hlk () ?_ (fun _ _ _ => trivial) dJ0_length_8abf5_10
  exact rfl

abbrev rm_J3_checkIndex_8e157 : Room := { frames := 0, cells := 0, slots := 0, locals := 0 }
theorem yd_J3_checkIndex_8e157 : yJ3_checkIndex_8e157.cls = RJ3 ∧ yJ3_checkIndex_8e157.cls ≠ "java/lang/invoke/MethodHandle" ∧ yJ3_checkIndex_8e157.cls ≠ "java/lang/invoke/VarHandle" ∧ (parseMethodDescriptor yJ3_checkIndex_8e157.desc).map (fun d => d.parameters.length) = some 3 := by decide +kernel
set_option maxHeartbeats 4000000 in
set_option maxRecDepth 100000 in
theorem kt_J3_checkIndex_r (l : Launch) (i : Nat) (n : Nat) (f0 : Nat) (hi : i < n ∧ n < 2 ^ 31) : NSi l yJ3_checkIndex_8e157 wsJ3_checkIndex_8e157 rm_J3_checkIndex_8e157 NNx [.int (nI i), .int (nI n), .ref f0] (fun (r : Int32) => r = (nI i)) := by
  refine NSi_of (lv := [(0, .int (nI i)), (1, .int (nI n)), (2, .ref f0)]) (cc := cJ3_checkIndex_8e157) (maxL := 3) (ret := (some .int)) NNx_ok rfl (by decide +kernel) (Nat.le_of_ble_eq_true rfl) rfl ?_
  intro p e s m args below meth c hc hts hown hB hml hr hlk
  have X : (p.tables.exec = Jvm.exec ∧ c.code = cJ3_checkIndex_8e157) ∧ True := ⟨hc, trivial⟩
  generalize hQ : MQ below _ args s 0 0 _ = Q
  refine zz_iload_n 0 X.1 0 dJ3_checkIndex_8e157_0 rfl ?_
  refine zz_if_lt 1 9 X.1 (nI_toInt (by omega)) dJ3_checkIndex_8e157_1 (by decide) (fun h1 => ?_) (fun h1 => ?_)
  · exfalso; omega
  · skip
    refine zz_iload_n 4 X.1 0 dJ3_checkIndex_8e157_4 rfl ?_
    refine zz_iload_n 5 X.1 1 dJ3_checkIndex_8e157_5 rfl ?_
    refine zz_icmp_lt 6 16 X.1 (nI_toInt (by omega)) (nI_toInt (by omega)) dJ3_checkIndex_8e157_6 (by decide) (fun h6 => ?_) (fun h6 => ?_)
    · skip
      refine zz_iload_n 16 X.1 0 dJ3_checkIndex_8e157_16 rfl ?_
      rw [← hQ]
      refine zz_iret 17 X.1 hr rfl hlk () ?_ (fun _ _ _ => trivial) dJ3_checkIndex_8e157_17
      exact rfl
    · exfalso; omega

set_option maxHeartbeats 4000000 in
set_option maxRecDepth 100000 in
theorem kt_J3_checkIndex_n (l : Launch) (i : Nat) (n : Nat) (hi : i < n ∧ n < 2 ^ 31) : NSi l yJ3_checkIndex_8e157 wsJ3_checkIndex_8e157 rm_J3_checkIndex_8e157 NNx [.int (nI i), .int (nI n), .null] (fun (r : Int32) => r = (nI i)) := by
  refine NSi_of (lv := [(0, .int (nI i)), (1, .int (nI n)), (2, .null)]) (cc := cJ3_checkIndex_8e157) (maxL := 3) (ret := (some .int)) NNx_ok rfl (by decide +kernel) (Nat.le_of_ble_eq_true rfl) rfl ?_
  intro p e s m args below meth c hc hts hown hB hml hr hlk
  have X : (p.tables.exec = Jvm.exec ∧ c.code = cJ3_checkIndex_8e157) ∧ True := ⟨hc, trivial⟩
  generalize hQ : MQ below _ args s 0 0 _ = Q
  refine zz_iload_n 0 X.1 0 dJ3_checkIndex_8e157_0 rfl ?_
  refine zz_if_lt 1 9 X.1 (nI_toInt (by omega)) dJ3_checkIndex_8e157_1 (by decide) (fun h1 => ?_) (fun h1 => ?_)
  · exfalso; omega
  · skip
    refine zz_iload_n 4 X.1 0 dJ3_checkIndex_8e157_4 rfl ?_
    refine zz_iload_n 5 X.1 1 dJ3_checkIndex_8e157_5 rfl ?_
    refine zz_icmp_lt 6 16 X.1 (nI_toInt (by omega)) (nI_toInt (by omega)) dJ3_checkIndex_8e157_6 (by decide) (fun h6 => ?_) (fun h6 => ?_)
    · skip
      refine zz_iload_n 16 X.1 0 dJ3_checkIndex_8e157_16 rfl ?_
      rw [← hQ]
      refine zz_iret 17 X.1 hr rfl hlk () ?_ (fun _ _ _ => trivial) dJ3_checkIndex_8e157_17
      exact rfl
    · exfalso; omega

abbrev rm_J0_checkIndex_df160 : Room := { frames := 1, cells := 0, slots := 0, locals := 22 }
theorem yd_J0_checkIndex_df160 : yJ0_checkIndex_df160.cls = RJ0 ∧ yJ0_checkIndex_df160.cls ≠ "java/lang/invoke/MethodHandle" ∧ yJ0_checkIndex_df160.cls ≠ "java/lang/invoke/VarHandle" ∧ (parseMethodDescriptor yJ0_checkIndex_df160.desc).map (fun d => d.parameters.length) = some 2 := by decide +kernel
set_option maxHeartbeats 4000000 in
set_option maxRecDepth 100000 in
theorem kt_J0_checkIndex_df160 (l : Launch) (i : Nat) (n : Nat) (hi : i < n ∧ n < 2 ^ 31) : NSv l yJ0_checkIndex_df160 wsJ0_checkIndex_df160 rm_J0_checkIndex_df160 SIx [.int (nI i), .int (nI n)] (True) := by
  refine NSv_of (lv := [(0, .int (nI i)), (1, .int (nI n))]) (cc := cJ0_checkIndex_df160) (maxL := 2) (ret := none) SIx_ok rfl (by decide +kernel) (Nat.le_of_ble_eq_true rfl) rfl ?_
  intro p e s m args below meth c hc hts hown hB hml hr hlk
  have X : (p.tables.exec = Jvm.exec ∧ c.code = cJ0_checkIndex_df160) ∧ True := ⟨hc, trivial⟩
  generalize hQ : MQ below _ args s 0 0 _ = Q
  refine zz_iload_n 0 X.1 0 dJ0_checkIndex_df160_0 rfl ?_
  refine zz_iload_n 1 X.1 1 dJ0_checkIndex_df160_1 rfl ?_
  rcases hB with hSI | ⟨f0, hSI⟩
  · skip
    refine zs_getsG 2 X.1 hown hSI (hts _ (by decide +kernel)) dJ0_checkIndex_df160_2 ?_
    refine zz_callSNi 5 NNx_ok (show NNx _ _ from trivial) ⟨X.1.1, X.1.2, hml, hown, hts⟩ (fun q h => Or.inr h) (fun _ _ h _ _ => h) (As := [.int (nI i), .int (nI n), .null]) (kt_J3_checkIndex_n l i n (by first | rfl | assumption | omega)) gJ0_checkIndex_df160_J3_checkIndex_8e157 rfl ⟨rfl, rfl⟩ yd_J3_checkIndex_8e157.2 ⟨Nat.le_of_ble_eq_true rfl, Nat.le_of_ble_eq_true rfl⟩ rfl rfl (Nat.le_of_ble_eq_true rfl) ⟨Nat.le_of_ble_eq_true rfl, Nat.le_of_ble_eq_true rfl⟩ dJ0_checkIndex_df160_5 ?_
    intro r1 hu1
    obtain rfl := hu1
    refine zz_pop 8 X.1 dJ0_checkIndex_df160_8 rfl ?_
    rw [← hQ]
    refine zz_vret 9 X.1 hr hlk () ?_ (fun _ _ _ => trivial) dJ0_checkIndex_df160_9
    exact trivial
  · skip
    refine zs_getsG 2 X.1 hown hSI (hts _ (by decide +kernel)) dJ0_checkIndex_df160_2 ?_
    refine zz_callSNi 5 NNx_ok (show NNx _ _ from trivial) ⟨X.1.1, X.1.2, hml, hown, hts⟩ (fun q h => Or.inr h) (fun _ _ h _ _ => h) (As := [.int (nI i), .int (nI n), .ref f0]) (kt_J3_checkIndex_r l i n f0 (by first | rfl | assumption | omega)) gJ0_checkIndex_df160_J3_checkIndex_8e157 rfl ⟨rfl, rfl⟩ yd_J3_checkIndex_8e157.2 ⟨Nat.le_of_ble_eq_true rfl, Nat.le_of_ble_eq_true rfl⟩ rfl rfl (Nat.le_of_ble_eq_true rfl) ⟨Nat.le_of_ble_eq_true rfl, Nat.le_of_ble_eq_true rfl⟩ dJ0_checkIndex_df160_5 ?_
    intro r2 hu2
    obtain rfl := hu2
    refine zz_pop 8 X.1 dJ0_checkIndex_df160_8 rfl ?_
    rw [← hQ]
    refine zz_vret 9 X.1 hr hlk () ?_ (fun _ _ _ => trivial) dJ0_checkIndex_df160_9
    exact trivial

abbrev rm_J1_charAt_3b067 : Room := { frames := 2, cells := 0, slots := 0, locals := 43 }
theorem yd_J1_charAt_3b067 : yJ1_charAt_3b067.cls = RJ1 ∧ yJ1_charAt_3b067.cls ≠ "java/lang/invoke/MethodHandle" ∧ yJ1_charAt_3b067.cls ≠ "java/lang/invoke/VarHandle" ∧ (parseMethodDescriptor yJ1_charAt_3b067.desc).map (fun d => d.parameters.length) = some 2 := by decide +kernel
set_option maxHeartbeats 4000000 in
set_option maxRecDepth 100000 in
theorem kt_J1_charAt_3b067 (l : Launch) (a : Nat) (v : Nat) (n : Nat) (f : Nat → Int32) (i : Nat) (hi : i < n ∧ n < 2 ^ 31) (hf : ∀ j, j < n → ∃ x, x < 128 ∧ f j = nI x) : NSi l yJ1_charAt_3b067 wsJ1_charAt_3b067 rm_J1_charAt_3b067 (SSx a v n f) [.ref v, .int (nI i)] (fun (r : Int32) => r = (f i)) := by
  refine NSi_of (lv := [(0, .ref v), (1, .int (nI i))]) (cc := cJ1_charAt_3b067) (maxL := 2) (ret := (some .char)) SSx_ok rfl (by decide +kernel) (Nat.le_of_ble_eq_true rfl) rfl ?_
  intro p e s m args below meth c hc hts hown hB hml hr hlk
  have X : (p.tables.exec = Jvm.exec ∧ c.code = cJ1_charAt_3b067) ∧ True := ⟨hc, trivial⟩
  generalize hQ : MQ below _ args s 0 0 _ = Q
  refine zz_iload_n 0 X.1 1 dJ1_charAt_3b067_0 rfl ?_
  refine zz_aload_n 1 X.1 0 dJ1_charAt_3b067_1 rfl ?_
  refine zs_tlen 2 X.1 hB.1.1.2.2.2 (v := nI n) rfl dJ1_charAt_3b067_2 ?_
  refine zz_callSNv 3 SIx_ok hB.2 ⟨X.1.1, X.1.2, hml, hown, hts⟩ (fun q h => Or.inr h) (fun _ _ h _ _ => h) (As := [.int (nI i), .int (nI n)]) (kt_J0_checkIndex_df160 l i n (by first | rfl | assumption | omega)) gJ1_charAt_3b067_J0_checkIndex_df160 rfl ⟨rfl, rfl⟩ yd_J0_checkIndex_df160.2 ⟨Nat.le_of_ble_eq_true rfl, Nat.le_of_ble_eq_true rfl⟩ rfl rfl (Nat.le_of_ble_eq_true rfl) ⟨Nat.le_of_ble_eq_true rfl, Nat.le_of_ble_eq_true rfl⟩ dJ1_charAt_3b067_3 ?_
  intro hu1
  refine zz_aload_n 6 X.1 0 dJ1_charAt_3b067_6 rfl ?_
  refine zz_iload_n 7 X.1 1 dJ1_charAt_3b067_7 rfl ?_
  refine zs_tb 8 X.1 hB.1.1.2.2.2 (i := nI i) (vp_in_nI (show i < n by omega) (by omega)) (v := .int (f i)) (by rw [nI_clamp (by omega)]) dJ1_charAt_3b067_8 ?_
  obtain ⟨x0, hx0, hfx⟩ := hf i hi.1
  refine zz_topi (nI x0) hfx ?_
  refine zz_sipush 9 X.1 (v := nI 255) dJ1_charAt_3b067_9 rfl ?_
  refine zz_iand 12 X.1 (v := (nI x0)) dJ1_charAt_3b067_12 (ch_255 _ hx0) ?_
  refine zz_i2c 13 X.1 (v := (nI x0)) dJ1_charAt_3b067_13 (ch_i2c _ hx0) ?_
  rw [← hQ]
  refine zz_iret 14 X.1 hr (ch_nar _ hx0) hlk () ?_ (fun _ _ _ => trivial) dJ1_charAt_3b067_14
  exact hfx.symm

abbrev rm_J0_charAt_5068e : Room := { frames := 3, cells := 0, slots := 0, locals := 64 }
theorem yd_J0_charAt_5068e : yJ0_charAt_5068e.cls = RJ0 ∧ yJ0_charAt_5068e.cls ≠ "java/lang/invoke/MethodHandle" ∧ yJ0_charAt_5068e.cls ≠ "java/lang/invoke/VarHandle" ∧ (parseMethodDescriptor yJ0_charAt_5068e.desc).map (fun d => d.parameters.length) = some 1 := by decide +kernel
set_option maxHeartbeats 4000000 in
set_option maxRecDepth 100000 in
theorem kt_J0_charAt_5068e (l : Launch) (a : Nat) (v : Nat) (n : Nat) (f : Nat → Int32) (i : Nat) (hi : i < n ∧ n < 2 ^ 31) (hf : ∀ j, j < n → ∃ x, x < 128 ∧ f j = nI x) : NSi l yJ0_charAt_5068e wsJ0_charAt_5068e rm_J0_charAt_5068e (SSx a v n f) [.ref a, .int (nI i)] (fun (r : Int32) => r = (f i)) := by
  refine NSi_of (lv := [(0, .ref a), (1, .int (nI i))]) (cc := cJ0_charAt_5068e) (maxL := 2) (ret := (some .char)) SSx_ok rfl (by decide +kernel) (Nat.le_of_ble_eq_true rfl) rfl ?_
  intro p e s m args below meth c hc hts hown hB hml hr hlk
  have X : (p.tables.exec = Jvm.exec ∧ c.code = cJ0_charAt_5068e) ∧ True := ⟨hc, trivial⟩
  generalize hQ : MQ below _ args s 0 0 _ = Q
  refine zz_aload_n 0 X.1 0 dJ0_charAt_5068e_0 rfl ?_
  refine zz_callVNi 1 STx_ok hB.1 ⟨X.1.1, X.1.2, hml, hown, hts⟩ (fun q h => Or.inr h) (fun _ _ h _ _ => h) (As := []) (kt_J0_isLatin1_s l a v n f ) (hB.1.1.1) gJ0_charAt_5068e_J0_isLatin1_aae02 rfl ⟨rfl, rfl⟩ yd_J0_isLatin1_aae02 ⟨Nat.le_of_ble_eq_true rfl, Nat.le_of_ble_eq_true rfl⟩ rfl rfl (Nat.le_of_ble_eq_true rfl) ⟨Nat.le_of_ble_eq_true rfl, Nat.le_of_ble_eq_true rfl⟩ dJ0_charAt_5068e_1 ?_
  intro r1 hu1
  obtain rfl := hu1
  refine zz_ifB_eq 4 16 X.1 dJ0_charAt_5068e_4 (by decide) (fun h4 => ?_) (fun h4 => ?_)
  · exact absurd h4 (by decide)
  · skip
    refine zz_aload_n 7 X.1 0 dJ0_charAt_5068e_7 rfl ?_
    refine zs_getf 8 X.1 hown hB.1.1.2.2.1 (hts _ (by decide +kernel)) dJ0_charAt_5068e_8 ?_
    refine zz_iload_n 11 X.1 1 dJ0_charAt_5068e_11 rfl ?_
    refine zz_callSNi 12 SSx_ok hB ⟨X.1.1, X.1.2, hml, hown, hts⟩ (fun q h => Or.inr h) (fun _ _ h _ _ => h) (As := [.ref v, .int (nI i)]) (kt_J1_charAt_3b067 l a v n f i (by first | rfl | assumption | omega) (by first | rfl | assumption | omega)) gJ0_charAt_5068e_J1_charAt_3b067 rfl ⟨rfl, rfl⟩ yd_J1_charAt_3b067.2 ⟨Nat.le_of_ble_eq_true rfl, Nat.le_of_ble_eq_true rfl⟩ rfl rfl (Nat.le_of_ble_eq_true rfl) ⟨Nat.le_of_ble_eq_true rfl, Nat.le_of_ble_eq_true rfl⟩ dJ0_charAt_5068e_12 ?_
    intro r2 hu2
    obtain rfl := hu2
    rw [← hQ]
    refine zz_iret 15 X.1 hr (by obtain ⟨x0, hx0, hfx⟩ := hf i hi.1; rw [hfx]; exact ch_nar _ hx0) hlk () ?_ (fun _ _ _ => trivial) dJ0_charAt_5068e_15
    exact rfl
