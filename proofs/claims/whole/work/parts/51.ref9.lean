/-! The reference reads tokens. -/
theorem dg_t {b : Nat} (h : dg b = true) : 48 ≤ b ∧ b ≤ 57 := of_decide_eq_true h
theorem nv_lt {t : Nat → Nat} {p : Nat} : ∀ {m : Nat}, (∀ k, k < m → dg (t (p + k)) = true) → nv t p m < 10 ^ m
  | 0, _ => by simp [nv]
  | m + 1, h => by
    have ih := nv_lt (m := m) (fun k hk => h k (by omega))
    have h1 := dg_t (h m (by omega))
    simp only [nv, Nat.pow_succ]
    omega
theorem kd_dig {t : Nat → Nat} {n p : Nat} (hp : p < n) (h : dg (t p) = true) : kd t n p = (if dr t n p ≤ 4 ∧ nv t p (dr t n p) < 1024 then 3 else 1) ∧ tl t n p = dr t n p ∧ ∀ f, r7 t n p f = nI (nv t p (min (dr t n p) 4)) :=
  ⟨by unfold kd; rw [if_neg (by omega), if_pos h], by unfold tl; rw [if_neg (by omega), if_pos h], fun f => by unfold r7; rw [if_neg (by omega), if_pos h]⟩
theorem kd_nd {t : Nat → Nat} {n p : Nat} (hp : p < n) (h : dg (t p) = false) : kd t n p = (if 97 ≤ t p ∧ t p ≤ 104 then 2 else if t p = 46 ∧ t (p + 1) = 46 then 4 else if sgn (t p) then t p else 1) ∧ tl t n p = (if t p = 46 ∧ t (p + 1) = 46 then 2 else 1) ∧ ∀ f, r7 t n p f = (if 97 ≤ t p ∧ t p ≤ 104 then nI (t p - 97) else nI (t p)) := by
  have h' : ¬ dg (t p) = true := by rw [h]; decide
  exact ⟨by unfold kd; rw [if_neg (by omega), if_neg h'], by unfold tl; rw [if_neg (by omega), if_neg h'], fun f => by unfold r7; rw [if_neg (by omega), if_neg h']⟩
theorem kd_set {t : Nat → Nat} {n p : Nat} (hp : p < n) (h : dg (t p) = false) (h2 : 97 ≤ t p ∧ t p ≤ 104) : kd t n p = 2 ∧ tl t n p = 1 ∧ ∀ f, r7 t n p f = nI (t p - 97) := by
  obtain ⟨a, b, c⟩ := kd_nd hp h
  exact ⟨by rw [a, if_pos h2], by rw [b, if_neg (by omega)], fun f => by rw [c, if_pos h2]⟩
theorem kd_sg {t : Nat → Nat} {n p : Nat} (hp : p < n) (h : sgn (t p) = true) : kd t n p = t p ∧ tl t n p = 1 ∧ ∀ f, r7 t n p f = nI (t p) := by
  have h2 := sg_pos h
  obtain ⟨a, b, c⟩ := kd_nd hp (show dg (t p) = false from decide_eq_false h2.2.2.2.1)
  exact ⟨by rw [a, if_neg h2.2.2.2.2, if_neg (by omega), if_pos h], by rw [b, if_neg (by omega)], fun f => by rw [c, if_neg h2.2.2.2.2]⟩
theorem kd_pts {t : Nat → Nat} {n p : Nat} (hp : p < n) (h : t p = 46) (h2 : t (p + 1) = 46) : kd t n p = 4 ∧ tl t n p = 2 ∧ ∀ f, r7 t n p f = nI (t p) := by
  obtain ⟨a, b, c⟩ := kd_nd hp (show dg (t p) = false from decide_eq_false (by omega))
  exact ⟨by rw [a, if_neg (by omega), if_pos ⟨h, h2⟩], by rw [b, if_pos ⟨h, h2⟩], fun f => by rw [c, if_neg (by omega)]⟩
theorem kd_oth {t : Nat → Nat} {n p : Nat} (hp : p < n) (h : dg (t p) = false) (h2 : ¬ (97 ≤ t p ∧ t p ≤ 104)) (h3 : sgn (t p) = false) (h4 : ¬ (t p = 46 ∧ t (p + 1) = 46)) : kd t n p = 1 ∧ tl t n p = 1 ∧ ∀ f, r7 t n p f = nI (t p) := by
  obtain ⟨a, b, c⟩ := kd_nd hp h
  exact ⟨by rw [a, if_neg h2, if_neg h4, if_neg (by rw [h3]; decide)], by rw [b, if_neg h4], fun f => by rw [c, if_neg h2]⟩
theorem rk_sg {k : Nat} (h : sgn k = true) : rk k = 3 := by
  have := sg_pos h
  have := rk_is k
  omega
theorem rp_F {D : va_G} {C : Nat → ClassId} {K : Nat → Nat} {F F' : Nat → Int32} {hs mv : Nat → Bool} {G : Nat → Nat → Int32} (h : F = F') (H : Heap) (q : RP D C K F hs mv G H) : RP D C K F' hs mv G H := h ▸ q

abbrev rm_X7_isSign : Room := { frames := 0, cells := 0, slots := 0, locals := 0 }
theorem yd_X7_isSign : yX7_isSign.cls = RX7 ∧ yX7_isSign.cls ≠ "java/lang/invoke/MethodHandle" ∧ yX7_isSign.cls ≠ "java/lang/invoke/VarHandle" ∧ (parseMethodDescriptor yX7_isSign.desc).map (fun d => d.parameters.length) = some 1 := by decide +kernel
set_option maxHeartbeats 4000000 in
set_option maxRecDepth 100000 in
theorem kt_X7_isSign (l : Launch) (b : Nat) (hb : b < 2 ^ 31) : SMi l yX7_isSign wsX7_isSign rm_X7_isSign [.int (nI b)] (fun (r : Int32) => r = (bI (sgn b))) := by
  refine SMi_of (lv := [(0, .int (nI b))]) (cc := cX7_isSign) (maxL := 1) (ret := (some .boolean)) rfl (by decide +kernel) (Nat.le_of_ble_eq_true rfl) rfl ?_
  intro p e s m args below meth c hc hts hown hml hr hlk
  have X : (p.tables.exec = Jvm.exec ∧ c.code = cX7_isSign) ∧ True := ⟨hc, trivial⟩
  generalize hQ : MQ below _ args s 0 0 _ = Q
  refine zz_iload_n 0 X.1 0 dX7_isSign_0 rfl ?_
  refine zz_bipush 1 X.1 (v := nI 59) dX7_isSign_1 rfl ?_
  refine zz_icmp_eq 3 72 X.1 (nI_toInt (by omega)) (nI_toInt (by omega)) dX7_isSign_3 (by decide) (fun h3 => ?_) (fun h3 => ?_)
  · skip
    refine zz_iconst 72 X.1 (v := nI 1) dX7_isSign_72 rfl ?_
    refine zz_goto 73 77 X.1 dX7_isSign_73 (by decide) ?_
    refine zz_topi (bI true) rfl ?_
    rw [← hQ]
    refine zz_iret 77 X.1 hr (bI_nar _) hlk () ?_ (fun _ _ _ => trivial) dX7_isSign_77
    refine congrArg bI ?_
    unfold sgn
    first | (exact (decide_eq_true (by simp only [sg12, List.mem_cons, List.not_mem_nil, or_false]; omega)).symm) | (exact (decide_eq_false (by simp only [sg12, List.mem_cons, List.not_mem_nil, or_false]; omega)).symm)
  · skip
    refine zz_iload_n 6 X.1 0 dX7_isSign_6 rfl ?_
    refine zz_bipush 7 X.1 (v := nI 43) dX7_isSign_7 rfl ?_
    refine zz_icmp_eq 9 72 X.1 (nI_toInt (by omega)) (nI_toInt (by omega)) dX7_isSign_9 (by decide) (fun h9 => ?_) (fun h9 => ?_)
    · skip
      refine zz_iconst 72 X.1 (v := nI 1) dX7_isSign_72 rfl ?_
      refine zz_goto 73 77 X.1 dX7_isSign_73 (by decide) ?_
      refine zz_topi (bI true) rfl ?_
      rw [← hQ]
      refine zz_iret 77 X.1 hr (bI_nar _) hlk () ?_ (fun _ _ _ => trivial) dX7_isSign_77
      refine congrArg bI ?_
      unfold sgn
      first | (exact (decide_eq_true (by simp only [sg12, List.mem_cons, List.not_mem_nil, or_false]; omega)).symm) | (exact (decide_eq_false (by simp only [sg12, List.mem_cons, List.not_mem_nil, or_false]; omega)).symm)
    · skip
      refine zz_iload_n 12 X.1 0 dX7_isSign_12 rfl ?_
      refine zz_bipush 13 X.1 (v := nI 45) dX7_isSign_13 rfl ?_
      refine zz_icmp_eq 15 72 X.1 (nI_toInt (by omega)) (nI_toInt (by omega)) dX7_isSign_15 (by decide) (fun h15 => ?_) (fun h15 => ?_)
      · skip
        refine zz_iconst 72 X.1 (v := nI 1) dX7_isSign_72 rfl ?_
        refine zz_goto 73 77 X.1 dX7_isSign_73 (by decide) ?_
        refine zz_topi (bI true) rfl ?_
        rw [← hQ]
        refine zz_iret 77 X.1 hr (bI_nar _) hlk () ?_ (fun _ _ _ => trivial) dX7_isSign_77
        refine congrArg bI ?_
        unfold sgn
        first | (exact (decide_eq_true (by simp only [sg12, List.mem_cons, List.not_mem_nil, or_false]; omega)).symm) | (exact (decide_eq_false (by simp only [sg12, List.mem_cons, List.not_mem_nil, or_false]; omega)).symm)
      · skip
        refine zz_iload_n 18 X.1 0 dX7_isSign_18 rfl ?_
        refine zz_bipush 19 X.1 (v := nI 94) dX7_isSign_19 rfl ?_
        refine zz_icmp_eq 21 72 X.1 (nI_toInt (by omega)) (nI_toInt (by omega)) dX7_isSign_21 (by decide) (fun h21 => ?_) (fun h21 => ?_)
        · skip
          refine zz_iconst 72 X.1 (v := nI 1) dX7_isSign_72 rfl ?_
          refine zz_goto 73 77 X.1 dX7_isSign_73 (by decide) ?_
          refine zz_topi (bI true) rfl ?_
          rw [← hQ]
          refine zz_iret 77 X.1 hr (bI_nar _) hlk () ?_ (fun _ _ _ => trivial) dX7_isSign_77
          refine congrArg bI ?_
          unfold sgn
          first | (exact (decide_eq_true (by simp only [sg12, List.mem_cons, List.not_mem_nil, or_false]; omega)).symm) | (exact (decide_eq_false (by simp only [sg12, List.mem_cons, List.not_mem_nil, or_false]; omega)).symm)
        · skip
          refine zz_iload_n 24 X.1 0 dX7_isSign_24 rfl ?_
          refine zz_bipush 25 X.1 (v := nI 38) dX7_isSign_25 rfl ?_
          refine zz_icmp_eq 27 72 X.1 (nI_toInt (by omega)) (nI_toInt (by omega)) dX7_isSign_27 (by decide) (fun h27 => ?_) (fun h27 => ?_)
          · skip
            refine zz_iconst 72 X.1 (v := nI 1) dX7_isSign_72 rfl ?_
            refine zz_goto 73 77 X.1 dX7_isSign_73 (by decide) ?_
            refine zz_topi (bI true) rfl ?_
            rw [← hQ]
            refine zz_iret 77 X.1 hr (bI_nar _) hlk () ?_ (fun _ _ _ => trivial) dX7_isSign_77
            refine congrArg bI ?_
            unfold sgn
            first | (exact (decide_eq_true (by simp only [sg12, List.mem_cons, List.not_mem_nil, or_false]; omega)).symm) | (exact (decide_eq_false (by simp only [sg12, List.mem_cons, List.not_mem_nil, or_false]; omega)).symm)
          · skip
            refine zz_iload_n 30 X.1 0 dX7_isSign_30 rfl ?_
            refine zz_bipush 31 X.1 (v := nI 124) dX7_isSign_31 rfl ?_
            refine zz_icmp_eq 33 72 X.1 (nI_toInt (by omega)) (nI_toInt (by omega)) dX7_isSign_33 (by decide) (fun h33 => ?_) (fun h33 => ?_)
            · skip
              refine zz_iconst 72 X.1 (v := nI 1) dX7_isSign_72 rfl ?_
              refine zz_goto 73 77 X.1 dX7_isSign_73 (by decide) ?_
              refine zz_topi (bI true) rfl ?_
              rw [← hQ]
              refine zz_iret 77 X.1 hr (bI_nar _) hlk () ?_ (fun _ _ _ => trivial) dX7_isSign_77
              refine congrArg bI ?_
              unfold sgn
              first | (exact (decide_eq_true (by simp only [sg12, List.mem_cons, List.not_mem_nil, or_false]; omega)).symm) | (exact (decide_eq_false (by simp only [sg12, List.mem_cons, List.not_mem_nil, or_false]; omega)).symm)
            · skip
              refine zz_iload_n 36 X.1 0 dX7_isSign_36 rfl ?_
              refine zz_bipush 37 X.1 (v := nI 126) dX7_isSign_37 rfl ?_
              refine zz_icmp_eq 39 72 X.1 (nI_toInt (by omega)) (nI_toInt (by omega)) dX7_isSign_39 (by decide) (fun h39 => ?_) (fun h39 => ?_)
              · skip
                refine zz_iconst 72 X.1 (v := nI 1) dX7_isSign_72 rfl ?_
                refine zz_goto 73 77 X.1 dX7_isSign_73 (by decide) ?_
                refine zz_topi (bI true) rfl ?_
                rw [← hQ]
                refine zz_iret 77 X.1 hr (bI_nar _) hlk () ?_ (fun _ _ _ => trivial) dX7_isSign_77
                refine congrArg bI ?_
                unfold sgn
                first | (exact (decide_eq_true (by simp only [sg12, List.mem_cons, List.not_mem_nil, or_false]; omega)).symm) | (exact (decide_eq_false (by simp only [sg12, List.mem_cons, List.not_mem_nil, or_false]; omega)).symm)
              · skip
                refine zz_iload_n 42 X.1 0 dX7_isSign_42 rfl ?_
                refine zz_bipush 43 X.1 (v := nI 33) dX7_isSign_43 rfl ?_
                refine zz_icmp_eq 45 72 X.1 (nI_toInt (by omega)) (nI_toInt (by omega)) dX7_isSign_45 (by decide) (fun h45 => ?_) (fun h45 => ?_)
                · skip
                  refine zz_iconst 72 X.1 (v := nI 1) dX7_isSign_72 rfl ?_
                  refine zz_goto 73 77 X.1 dX7_isSign_73 (by decide) ?_
                  refine zz_topi (bI true) rfl ?_
                  rw [← hQ]
                  refine zz_iret 77 X.1 hr (bI_nar _) hlk () ?_ (fun _ _ _ => trivial) dX7_isSign_77
                  refine congrArg bI ?_
                  unfold sgn
                  first | (exact (decide_eq_true (by simp only [sg12, List.mem_cons, List.not_mem_nil, or_false]; omega)).symm) | (exact (decide_eq_false (by simp only [sg12, List.mem_cons, List.not_mem_nil, or_false]; omega)).symm)
                · skip
                  refine zz_iload_n 48 X.1 0 dX7_isSign_48 rfl ?_
                  refine zz_bipush 49 X.1 (v := nI 61) dX7_isSign_49 rfl ?_
                  refine zz_icmp_eq 51 72 X.1 (nI_toInt (by omega)) (nI_toInt (by omega)) dX7_isSign_51 (by decide) (fun h51 => ?_) (fun h51 => ?_)
                  · skip
                    refine zz_iconst 72 X.1 (v := nI 1) dX7_isSign_72 rfl ?_
                    refine zz_goto 73 77 X.1 dX7_isSign_73 (by decide) ?_
                    refine zz_topi (bI true) rfl ?_
                    rw [← hQ]
                    refine zz_iret 77 X.1 hr (bI_nar _) hlk () ?_ (fun _ _ _ => trivial) dX7_isSign_77
                    refine congrArg bI ?_
                    unfold sgn
                    first | (exact (decide_eq_true (by simp only [sg12, List.mem_cons, List.not_mem_nil, or_false]; omega)).symm) | (exact (decide_eq_false (by simp only [sg12, List.mem_cons, List.not_mem_nil, or_false]; omega)).symm)
                  · skip
                    refine zz_iload_n 54 X.1 0 dX7_isSign_54 rfl ?_
                    refine zz_bipush 55 X.1 (v := nI 91) dX7_isSign_55 rfl ?_
                    refine zz_icmp_eq 57 72 X.1 (nI_toInt (by omega)) (nI_toInt (by omega)) dX7_isSign_57 (by decide) (fun h57 => ?_) (fun h57 => ?_)
                    · skip
                      refine zz_iconst 72 X.1 (v := nI 1) dX7_isSign_72 rfl ?_
                      refine zz_goto 73 77 X.1 dX7_isSign_73 (by decide) ?_
                      refine zz_topi (bI true) rfl ?_
                      rw [← hQ]
                      refine zz_iret 77 X.1 hr (bI_nar _) hlk () ?_ (fun _ _ _ => trivial) dX7_isSign_77
                      refine congrArg bI ?_
                      unfold sgn
                      first | (exact (decide_eq_true (by simp only [sg12, List.mem_cons, List.not_mem_nil, or_false]; omega)).symm) | (exact (decide_eq_false (by simp only [sg12, List.mem_cons, List.not_mem_nil, or_false]; omega)).symm)
                    · skip
                      refine zz_iload_n 60 X.1 0 dX7_isSign_60 rfl ?_
                      refine zz_bipush 61 X.1 (v := nI 93) dX7_isSign_61 rfl ?_
                      refine zz_icmp_eq 63 72 X.1 (nI_toInt (by omega)) (nI_toInt (by omega)) dX7_isSign_63 (by decide) (fun h63 => ?_) (fun h63 => ?_)
                      · skip
                        refine zz_iconst 72 X.1 (v := nI 1) dX7_isSign_72 rfl ?_
                        refine zz_goto 73 77 X.1 dX7_isSign_73 (by decide) ?_
                        refine zz_topi (bI true) rfl ?_
                        rw [← hQ]
                        refine zz_iret 77 X.1 hr (bI_nar _) hlk () ?_ (fun _ _ _ => trivial) dX7_isSign_77
                        refine congrArg bI ?_
                        unfold sgn
                        first | (exact (decide_eq_true (by simp only [sg12, List.mem_cons, List.not_mem_nil, or_false]; omega)).symm) | (exact (decide_eq_false (by simp only [sg12, List.mem_cons, List.not_mem_nil, or_false]; omega)).symm)
                      · skip
                        refine zz_iload_n 66 X.1 0 dX7_isSign_66 rfl ?_
                        refine zz_bipush 67 X.1 (v := nI 44) dX7_isSign_67 rfl ?_
                        refine zz_icmp_ne 69 76 X.1 (nI_toInt (by omega)) (nI_toInt (by omega)) dX7_isSign_69 (by decide) (fun h69 => ?_) (fun h69 => ?_)
                        · skip
                          refine zz_iconst 76 X.1 (v := nI 0) dX7_isSign_76 rfl ?_
                          refine zz_topi (bI false) rfl ?_
                          rw [← hQ]
                          refine zz_iret 77 X.1 hr (bI_nar _) hlk () ?_ (fun _ _ _ => trivial) dX7_isSign_77
                          refine congrArg bI ?_
                          unfold sgn
                          first | (exact (decide_eq_true (by simp only [sg12, List.mem_cons, List.not_mem_nil, or_false]; omega)).symm) | (exact (decide_eq_false (by simp only [sg12, List.mem_cons, List.not_mem_nil, or_false]; omega)).symm)
                        · skip
                          refine zz_iconst 72 X.1 (v := nI 1) dX7_isSign_72 rfl ?_
                          refine zz_goto 73 77 X.1 dX7_isSign_73 (by decide) ?_
                          refine zz_topi (bI true) rfl ?_
                          rw [← hQ]
                          refine zz_iret 77 X.1 hr (bI_nar _) hlk () ?_ (fun _ _ _ => trivial) dX7_isSign_77
                          refine congrArg bI ?_
                          unfold sgn
                          first | (exact (decide_eq_true (by simp only [sg12, List.mem_cons, List.not_mem_nil, or_false]; omega)).symm) | (exact (decide_eq_false (by simp only [sg12, List.mem_cons, List.not_mem_nil, or_false]; omega)).symm)

abbrev rm_X7_isDigit : Room := { frames := 1, cells := 0, slots := 0, locals := 22 }
theorem yd_X7_isDigit : yX7_isDigit.cls = RX7 ∧ yX7_isDigit.cls ≠ "java/lang/invoke/MethodHandle" ∧ yX7_isDigit.cls ≠ "java/lang/invoke/VarHandle" ∧ (parseMethodDescriptor yX7_isDigit.desc).map (fun d => d.parameters.length) = some 1 := by decide +kernel
set_option maxHeartbeats 4000000 in
set_option maxRecDepth 100000 in
theorem kt_X7_isDigit (l : Launch) (b : Nat) (hb : b < 2 ^ 31) : SMi l yX7_isDigit wsX7_isDigit rm_X7_isDigit [.int (nI b)] (fun (r : Int32) => r = (bI (dg b))) := by
  refine SMi_of (lv := [(0, .int (nI b))]) (cc := cX7_isDigit) (maxL := 1) (ret := (some .boolean)) rfl (by decide +kernel) (Nat.le_of_ble_eq_true rfl) rfl ?_
  intro p e s m args below meth c hc hts hown hml hr hlk
  have X : (p.tables.exec = Jvm.exec ∧ c.code = cX7_isDigit) ∧ True := ⟨hc, trivial⟩
  generalize hQ : MQ below _ args s 0 0 _ = Q
  refine zz_iload_n 0 X.1 0 dX7_isDigit_0 rfl ?_
  refine zz_bipush 1 X.1 (v := nI 48) dX7_isDigit_1 rfl ?_
  refine zz_bipush 3 X.1 (v := nI 57) dX7_isDigit_3 rfl ?_
  refine zz_callS0i 5 ⟨X.1.1, X.1.2, hml, hown, hts⟩ (fun q h => Or.inr h) (fun _ _ h _ _ => h) (As := [.int (nI b), .int (nI 48), .int (nI 57)]) (kt_X7_in l (nI b) (nI 48) (nI 57) ((b : Nat) : Int) ((48 : Nat) : Int) ((57 : Nat) : Int) (nI_toInt (by omega)) (nI_toInt (by omega)) (nI_toInt (by omega))) gX7_isDigit_X7_in rfl ⟨rfl, rfl⟩ yd_X7_in.2 ⟨Nat.le_of_ble_eq_true rfl, Nat.le_of_ble_eq_true rfl⟩ rfl rfl (Nat.le_of_ble_eq_true rfl) ⟨Nat.zero_le _, Nat.zero_le _⟩ dX7_isDigit_5 ?_
  intro r1 hu1
  rcases (show (((48 : Nat) : Int) ≤ ((b : Nat) : Int) ∧ ((b : Nat) : Int) ≤ ((57 : Nat) : Int)) ∨ (¬ (((48 : Nat) : Int) ≤ ((b : Nat) : Int) ∧ ((b : Nat) : Int) ≤ ((57 : Nat) : Int))) by omega) with hc1 | hc1
  · skip
    obtain rfl := (hu1.1 hc1)
    rw [← hQ]
    refine zz_iret 8 X.1 hr (bI_nar _) hlk () ?_ (fun _ _ _ => trivial) dX7_isDigit_8
    refine congrArg bI ?_
    unfold dg
    first | (exact (decide_eq_true (by omega)).symm) | (exact (decide_eq_false (by omega)).symm)
  · skip
    obtain rfl := (hu1.2 hc1)
    rw [← hQ]
    refine zz_iret 8 X.1 hr (bI_nar _) hlk () ?_ (fun _ _ _ => trivial) dX7_isDigit_8
    refine congrArg bI ?_
    unfold dg
    first | (exact (decide_eq_true (by omega)).symm) | (exact (decide_eq_false (by omega)).symm)

abbrev rm_X7_readsNumber : Room := { frames := 2, cells := 0, slots := 0, locals := 42 }
theorem yd_X7_readsNumber : yX7_readsNumber.cls = RX7 ∧ yX7_readsNumber.cls ≠ "java/lang/invoke/MethodHandle" ∧ yX7_readsNumber.cls ≠ "java/lang/invoke/VarHandle" ∧ (parseMethodDescriptor yX7_readsNumber.desc).map (fun d => d.parameters.length) = some 0 := by decide +kernel
set_option maxHeartbeats 4000000 in
set_option maxRecDepth 100000 in
theorem kt_X7_readsNumber (l : Launch) (D : va_G) (C : Nat → ClassId) (K : Nat → Nat) (hAp : RAp K) (F : Nat → Int32) (hs mv : Nat → Bool) (G : Nat → Nat → Int32) (p0 : Nat) (tn : Nat) (hT : F 4 = nI tn) (htn : tn ≤ 400) (hB : HB (G 3) tn) (h8 : F 8 = nI p0) (hp : p0 < tn) (hdp : dg ((tc (G 3) tn) p0) = true) : RMv l yX7_readsNumber wsX7_readsNumber rm_X7_readsNumber D C K [] F hs mv G (fun (u : MSt) => u = (upd (upd (upd F 5 (nI (rk (kd (tc (G 3) tn) tn p0)))) 7 (r7 (tc (G 3) tn) tn p0 (F 7))) 8 (nI (p0 + tl (tc (G 3) tn) tn p0)), hs, mv, G)) := by
  refine RMv_of (lv := [(0, .ref (K 0))]) (cc := cX7_readsNumber) (maxL := 2) (ret := none) rfl rfl (by decide +kernel) (Nat.le_of_ble_eq_true rfl) rfl ?_
  intro p e s m args below meth c X hml hr hlk
  generalize hQ : MQ below _ args s 0 0 _ = Q
  refine zz_world (P' := (RP D C K (upd F 8 (nI p0)) hs mv G)) (fun H h => by rw [upd_self h8]; exact h) ?_
  refine zz_iconst 0 X.1 (v := nI 0) dX7_readsNumber_0 rfl ?_
  refine zz_istore_n 1 X.1 (lv' := [(1, .int (nI 0)), (0, .ref (K 0))]) dX7_readsNumber_1 (by decide) rfl ?_
  refine zz_aload_n 2 X.1 1 dX7_readsNumber_2 rfl ?_
  refine zz_iconst 3 X.1 (v := nI 0) dX7_readsNumber_3 rfl ?_
  refine rr_put 4 hAp X 7 (by decide) (F' := upd (upd F 7 (nI 0)) 8 (nI p0)) rfl (by decide +kernel) ⟨rfl, rfl⟩ (by decide +kernel) dX7_readsNumber_4 ?_
  have C7 : ∀ (d : Nat) (m0 : Nat) (v0 : Nat) (hm : p0 + m0 ≤ tn) (hdd : ∀ k, k < m0 → dg ((tc (G 3) tn) (p0 + k)) = true) (hv : v0 = nv (tc (G 3) tn) p0 (min m0 4)) (hd : tn - (p0 + m0) < d), ZZ p l e rm_X7_readsNumber s m args below meth c 0 0 Q (zz_A (RAd K) s.heap.size) (RP D C K (upd (upd F 7 (nI v0)) 8 (nI (p0 + m0))) hs mv G) 2 [(0, .ref (K 0)), (1, .int (nI m0))] [] 7 := by
    intro d
    induction d with
    | zero => intro m0 v0 hm hdd hv hd; exact absurd hd (Nat.not_lt_zero _)
    | succ d ih7 =>
      intro m0 v0 hm hdd hv hd
      have hvb := nv_lt (t := (tc (G 3) tn)) (p := p0) (m := min m0 4) (fun k hk => hdd k (by omega))
      rw [← hv] at hvb
      have hvc : v0 < 10 ^ 4 := Nat.lt_of_lt_of_le hvb (Nat.pow_le_pow_right (by decide) (by omega))
      have htc := tc_lt (i := p0 + m0) hB
      refine zz_aload_n 7 X.1 0 dX7_readsNumber_7 rfl ?_
      refine rr_get 8 X 8 (by decide) (v := .int (nI (p0 + m0))) rfl (by decide +kernel) rfl dX7_readsNumber_8 ?_
      refine zz_aload_n 11 X.1 0 dX7_readsNumber_11 rfl ?_
      refine rr_get 12 X 4 (by decide) (v := .int (F 4)) rfl (by decide +kernel) rfl dX7_readsNumber_12 ?_
      refine zz_topi (nI tn) (hT) ?_
      refine zz_icmp_ge 15 78 X.1 (nI_toInt (by omega)) (nI_toInt (by omega)) dX7_readsNumber_15 (by decide) (fun h15 => ?_) (fun h15 => ?_)
      · skip
        have hdr : dr (tc (G 3) tn) tn p0 = m0 := dr_at (by omega) (fun hz => by first | exact h30 | (exfalso; omega)) hdd
        have hnv : m0 ≤ 4 → nv (tc (G 3) tn) p0 m0 = v0 := fun h => by rw [hv, show min m0 4 = m0 by omega]
        obtain ⟨hk1, hk2, hk3⟩ := kd_dig hp hdp
        rw [hdr] at hk1 hk2 hk3
        refine zz_aload_n 78 X.1 0 dX7_readsNumber_78 rfl ?_
        refine zz_iload_n 79 X.1 1 dX7_readsNumber_79 rfl ?_
        refine zz_iconst 80 X.1 (v := nI 4) dX7_readsNumber_80 rfl ?_
        refine zz_icmp_gt 81 98 X.1 (nI_toInt (by omega)) (nI_toInt (by omega)) dX7_readsNumber_81 (by decide) (fun h81 => ?_) (fun h81 => ?_)
        · skip
          refine zz_iconst 98 X.1 (v := nI 5) dX7_readsNumber_98 rfl ?_
          refine rr_put 99 hAp X 5 (by decide) (F' := upd (upd (upd F 5 (nI 5)) 7 (nI v0)) 8 (nI (p0 + m0))) rfl (by decide +kernel) ⟨rfl, rfl⟩ (by decide +kernel) dX7_readsNumber_99 ?_
          refine zz_world (P' := (RP D C K (upd (upd (upd F 5 (nI (rk (kd (tc (G 3) tn) tn p0)))) 7 (r7 (tc (G 3) tn) tn p0 (F 7))) 8 (nI (p0 + tl (tc (G 3) tn) tn p0))) hs mv G)) (rp_F (by rw [hk3, ← hv, hk2, hk1]; first | (rw [if_pos ⟨by omega, by omega⟩]; rfl) | (rw [if_neg (by omega)]; rfl))) ?_
          rw [← hQ]
          refine zz_vret 102 X.1 hr hlk (upd (upd (upd F 5 (nI (rk (kd (tc (G 3) tn) tn p0)))) 7 (r7 (tc (G 3) tn) tn p0 (F 7))) 8 (nI (p0 + tl (tc (G 3) tn) tn p0)), hs, mv, G) ?_ (fun _ h _ => h) dX7_readsNumber_102
          exact rfl
        · skip
          refine zz_aload_n 84 X.1 0 dX7_readsNumber_84 rfl ?_
          refine rr_get 85 X 7 (by decide) (v := .int (nI v0)) rfl (by decide +kernel) rfl dX7_readsNumber_85 ?_
          refine zz_sipush 88 X.1 (v := nI 1024) dX7_readsNumber_88 rfl ?_
          refine zz_icmp_ge 91 98 X.1 (nI_toInt (by omega)) (nI_toInt (by omega)) dX7_readsNumber_91 (by decide) (fun h91 => ?_) (fun h91 => ?_)
          · skip
            refine zz_iconst 98 X.1 (v := nI 5) dX7_readsNumber_98 rfl ?_
            refine rr_put 99 hAp X 5 (by decide) (F' := upd (upd (upd F 5 (nI 5)) 7 (nI v0)) 8 (nI (p0 + m0))) rfl (by decide +kernel) ⟨rfl, rfl⟩ (by decide +kernel) dX7_readsNumber_99 ?_
            refine zz_world (P' := (RP D C K (upd (upd (upd F 5 (nI (rk (kd (tc (G 3) tn) tn p0)))) 7 (r7 (tc (G 3) tn) tn p0 (F 7))) 8 (nI (p0 + tl (tc (G 3) tn) tn p0))) hs mv G)) (rp_F (by rw [hk3, ← hv, hk2, hk1]; first | (rw [if_pos ⟨by omega, by omega⟩]; rfl) | (rw [if_neg (by omega)]; rfl))) ?_
            rw [← hQ]
            refine zz_vret 102 X.1 hr hlk (upd (upd (upd F 5 (nI (rk (kd (tc (G 3) tn) tn p0)))) 7 (r7 (tc (G 3) tn) tn p0 (F 7))) 8 (nI (p0 + tl (tc (G 3) tn) tn p0)), hs, mv, G) ?_ (fun _ h _ => h) dX7_readsNumber_102
            exact rfl
          · skip
            refine zz_iconst 94 X.1 (v := nI 2) dX7_readsNumber_94 rfl ?_
            refine zz_goto 95 99 X.1 dX7_readsNumber_95 (by decide) ?_
            refine rr_put 99 hAp X 5 (by decide) (F' := upd (upd (upd F 5 (nI 2)) 7 (nI v0)) 8 (nI (p0 + m0))) rfl (by decide +kernel) ⟨rfl, rfl⟩ (by decide +kernel) dX7_readsNumber_99 ?_
            refine zz_world (P' := (RP D C K (upd (upd (upd F 5 (nI (rk (kd (tc (G 3) tn) tn p0)))) 7 (r7 (tc (G 3) tn) tn p0 (F 7))) 8 (nI (p0 + tl (tc (G 3) tn) tn p0))) hs mv G)) (rp_F (by rw [hk3, ← hv, hk2, hk1]; first | (rw [if_pos ⟨by omega, by omega⟩]; rfl) | (rw [if_neg (by omega)]; rfl))) ?_
            rw [← hQ]
            refine zz_vret 102 X.1 hr hlk (upd (upd (upd F 5 (nI (rk (kd (tc (G 3) tn) tn p0)))) 7 (r7 (tc (G 3) tn) tn p0 (F 7))) 8 (nI (p0 + tl (tc (G 3) tn) tn p0)), hs, mv, G) ?_ (fun _ h _ => h) dX7_readsNumber_102
            exact rfl
      · skip
        refine zz_aload_n 18 X.1 0 dX7_readsNumber_18 rfl ?_
        refine rr_get 19 X 3 (by decide) (v := .ref (K 3)) rfl (by decide +kernel) rfl dX7_readsNumber_19 ?_
        refine zz_aload_n 22 X.1 0 dX7_readsNumber_22 rfl ?_
        refine rr_get 23 X 8 (by decide) (v := .int (nI (p0 + m0))) rfl (by decide +kernel) rfl dX7_readsNumber_23 ?_
        refine rr_iald 26 X 2 3 (len := 400) (f := G 3) rfl (by omega) (by decide) dX7_readsNumber_26 ?_
        refine zz_topi (nI (tc (G 3) tn (p0 + m0))) ((tc_v (by omega))) ?_
        refine zz_callS0i 27 ⟨X.1.1, X.1.2, hml, X.2.2.2.1, X.2.1⟩ (fun q h => Or.inr h) RP_keep (As := [.int (nI (tc (G 3) tn (p0 + m0)))]) (kt_X7_isDigit l (tc (G 3) tn (p0 + m0)) (by first | rfl | assumption | omega)) gX7_readsNumber_X7_isDigit rfl ⟨rfl, rfl⟩ yd_X7_isDigit.2 ⟨Nat.le_of_ble_eq_true rfl, Nat.le_of_ble_eq_true rfl⟩ rfl rfl (Nat.le_of_ble_eq_true rfl) ⟨Nat.zero_le _, Nat.zero_le _⟩ dX7_readsNumber_27 ?_
        intro r1 hu1
        obtain rfl := hu1
        refine zz_ifB_eq 30 78 X.1 dX7_readsNumber_30 (by decide) (fun h30 => ?_) (fun h30 => ?_)
        · skip
          have hdr : dr (tc (G 3) tn) tn p0 = m0 := dr_at (by omega) (fun hz => by first | exact h30 | (exfalso; omega)) hdd
          have hnv : m0 ≤ 4 → nv (tc (G 3) tn) p0 m0 = v0 := fun h => by rw [hv, show min m0 4 = m0 by omega]
          obtain ⟨hk1, hk2, hk3⟩ := kd_dig hp hdp
          rw [hdr] at hk1 hk2 hk3
          refine zz_aload_n 78 X.1 0 dX7_readsNumber_78 rfl ?_
          refine zz_iload_n 79 X.1 1 dX7_readsNumber_79 rfl ?_
          refine zz_iconst 80 X.1 (v := nI 4) dX7_readsNumber_80 rfl ?_
          refine zz_icmp_gt 81 98 X.1 (nI_toInt (by omega)) (nI_toInt (by omega)) dX7_readsNumber_81 (by decide) (fun h81 => ?_) (fun h81 => ?_)
          · skip
            refine zz_iconst 98 X.1 (v := nI 5) dX7_readsNumber_98 rfl ?_
            refine rr_put 99 hAp X 5 (by decide) (F' := upd (upd (upd F 5 (nI 5)) 7 (nI v0)) 8 (nI (p0 + m0))) rfl (by decide +kernel) ⟨rfl, rfl⟩ (by decide +kernel) dX7_readsNumber_99 ?_
            refine zz_world (P' := (RP D C K (upd (upd (upd F 5 (nI (rk (kd (tc (G 3) tn) tn p0)))) 7 (r7 (tc (G 3) tn) tn p0 (F 7))) 8 (nI (p0 + tl (tc (G 3) tn) tn p0))) hs mv G)) (rp_F (by rw [hk3, ← hv, hk2, hk1]; first | (rw [if_pos ⟨by omega, by omega⟩]; rfl) | (rw [if_neg (by omega)]; rfl))) ?_
            rw [← hQ]
            refine zz_vret 102 X.1 hr hlk (upd (upd (upd F 5 (nI (rk (kd (tc (G 3) tn) tn p0)))) 7 (r7 (tc (G 3) tn) tn p0 (F 7))) 8 (nI (p0 + tl (tc (G 3) tn) tn p0)), hs, mv, G) ?_ (fun _ h _ => h) dX7_readsNumber_102
            exact rfl
          · skip
            refine zz_aload_n 84 X.1 0 dX7_readsNumber_84 rfl ?_
            refine rr_get 85 X 7 (by decide) (v := .int (nI v0)) rfl (by decide +kernel) rfl dX7_readsNumber_85 ?_
            refine zz_sipush 88 X.1 (v := nI 1024) dX7_readsNumber_88 rfl ?_
            refine zz_icmp_ge 91 98 X.1 (nI_toInt (by omega)) (nI_toInt (by omega)) dX7_readsNumber_91 (by decide) (fun h91 => ?_) (fun h91 => ?_)
            · skip
              refine zz_iconst 98 X.1 (v := nI 5) dX7_readsNumber_98 rfl ?_
              refine rr_put 99 hAp X 5 (by decide) (F' := upd (upd (upd F 5 (nI 5)) 7 (nI v0)) 8 (nI (p0 + m0))) rfl (by decide +kernel) ⟨rfl, rfl⟩ (by decide +kernel) dX7_readsNumber_99 ?_
              refine zz_world (P' := (RP D C K (upd (upd (upd F 5 (nI (rk (kd (tc (G 3) tn) tn p0)))) 7 (r7 (tc (G 3) tn) tn p0 (F 7))) 8 (nI (p0 + tl (tc (G 3) tn) tn p0))) hs mv G)) (rp_F (by rw [hk3, ← hv, hk2, hk1]; first | (rw [if_pos ⟨by omega, by omega⟩]; rfl) | (rw [if_neg (by omega)]; rfl))) ?_
              rw [← hQ]
              refine zz_vret 102 X.1 hr hlk (upd (upd (upd F 5 (nI (rk (kd (tc (G 3) tn) tn p0)))) 7 (r7 (tc (G 3) tn) tn p0 (F 7))) 8 (nI (p0 + tl (tc (G 3) tn) tn p0)), hs, mv, G) ?_ (fun _ h _ => h) dX7_readsNumber_102
              exact rfl
            · skip
              refine zz_iconst 94 X.1 (v := nI 2) dX7_readsNumber_94 rfl ?_
              refine zz_goto 95 99 X.1 dX7_readsNumber_95 (by decide) ?_
              refine rr_put 99 hAp X 5 (by decide) (F' := upd (upd (upd F 5 (nI 2)) 7 (nI v0)) 8 (nI (p0 + m0))) rfl (by decide +kernel) ⟨rfl, rfl⟩ (by decide +kernel) dX7_readsNumber_99 ?_
              refine zz_world (P' := (RP D C K (upd (upd (upd F 5 (nI (rk (kd (tc (G 3) tn) tn p0)))) 7 (r7 (tc (G 3) tn) tn p0 (F 7))) 8 (nI (p0 + tl (tc (G 3) tn) tn p0))) hs mv G)) (rp_F (by rw [hk3, ← hv, hk2, hk1]; first | (rw [if_pos ⟨by omega, by omega⟩]; rfl) | (rw [if_neg (by omega)]; rfl))) ?_
              rw [← hQ]
              refine zz_vret 102 X.1 hr hlk (upd (upd (upd F 5 (nI (rk (kd (tc (G 3) tn) tn p0)))) 7 (r7 (tc (G 3) tn) tn p0 (F 7))) 8 (nI (p0 + tl (tc (G 3) tn) tn p0)), hs, mv, G) ?_ (fun _ h _ => h) dX7_readsNumber_102
              exact rfl
        · skip
          refine zz_iload_n 33 X.1 1 dX7_readsNumber_33 rfl ?_
          refine zz_iconst 34 X.1 (v := nI 4) dX7_readsNumber_34 rfl ?_
          refine zz_icmp_ge 35 62 X.1 (nI_toInt (by omega)) (nI_toInt (by omega)) dX7_readsNumber_35 (by decide) (fun h35 => ?_) (fun h35 => ?_)
          · skip
            refine zz_iinc 62 X.1 1 (v := (nI (m0 + 1))) (lv' := [(1, .int (nI (m0 + 1))), (0, .ref (K 0))]) dX7_readsNumber_62 rfl (nI_add m0 1) (by decide) rfl ?_
            refine zz_aload_n 65 X.1 1 dX7_readsNumber_65 rfl ?_
            refine zz_dup 66 X.1 dX7_readsNumber_66 rfl ?_
            refine rr_get 67 X 8 (by decide) (v := .int (nI (p0 + m0))) rfl (by decide +kernel) rfl dX7_readsNumber_67 ?_
            refine zz_iconst 70 X.1 (v := nI 1) dX7_readsNumber_70 rfl ?_
            refine zz_iadd 71 X.1 (v := (nI ((p0 + m0) + 1))) dX7_readsNumber_71 (nI_add _ _) ?_
            refine rr_put 72 hAp X 8 (by decide) (F' := upd (upd F 7 (nI v0)) 8 (nI ((p0 + m0) + 1))) rfl (by decide +kernel) ⟨rfl, rfl⟩ (by decide +kernel) dX7_readsNumber_72 ?_
            refine zz_goto 75 7 X.1 dX7_readsNumber_75 (by decide) ?_
            refine zz_lvs [1, 0] rfl ?_
            exact ih7 (m0 + 1) v0 (by omega) (fun k hk => by rcases Nat.lt_or_ge k m0 with z | z; exact hdd k z; rw [show k = m0 by omega]; exact h30) (by first | (rw [show min (m0 + 1) 4 = m0 + 1 by omega, nv, hv, show min m0 4 = m0 by omega]; omega) | (rw [hv]; congr 1; omega)) (by omega)
          · skip
            have hdg := dg_t h30
            refine zz_aload_n 38 X.1 0 dX7_readsNumber_38 rfl ?_
            refine zz_bipush 39 X.1 (v := nI 10) dX7_readsNumber_39 rfl ?_
            refine zz_aload_n 41 X.1 0 dX7_readsNumber_41 rfl ?_
            refine rr_get 42 X 7 (by decide) (v := .int (nI v0)) rfl (by decide +kernel) rfl dX7_readsNumber_42 ?_
            refine zz_imul 45 X.1 (v := (nI (10 * v0))) dX7_readsNumber_45 (pk_mul _ _) ?_
            refine zz_aload_n 46 X.1 0 dX7_readsNumber_46 rfl ?_
            refine rr_get 47 X 3 (by decide) (v := .ref (K 3)) rfl (by decide +kernel) rfl dX7_readsNumber_47 ?_
            refine zz_aload_n 50 X.1 0 dX7_readsNumber_50 rfl ?_
            refine rr_get 51 X 8 (by decide) (v := .int (nI (p0 + m0))) rfl (by decide +kernel) rfl dX7_readsNumber_51 ?_
            refine rr_iald 54 X 2 3 (len := 400) (f := G 3) rfl (by omega) (by decide) dX7_readsNumber_54 ?_
            refine zz_topi (nI (tc (G 3) tn (p0 + m0))) ((tc_v (by omega))) ?_
            refine zz_iadd 55 X.1 (v := (nI ((10 * v0) + (tc (G 3) tn (p0 + m0))))) dX7_readsNumber_55 (nI_add _ _) ?_
            refine zz_bipush 56 X.1 (v := nI 48) dX7_readsNumber_56 rfl ?_
            refine zz_isub 58 X.1 (v := (nI (((10 * v0) + (tc (G 3) tn (p0 + m0))) - 48))) dX7_readsNumber_58 (pk_sub (by omega)) ?_
            refine rr_put 59 hAp X 7 (by decide) (F' := upd (upd F 7 (nI (((10 * v0) + (tc (G 3) tn (p0 + m0))) - 48))) 8 (nI (p0 + m0))) rfl (by decide +kernel) ⟨rfl, rfl⟩ (by decide +kernel) dX7_readsNumber_59 ?_
            refine zz_iinc 62 X.1 1 (v := (nI (m0 + 1))) (lv' := [(1, .int (nI (m0 + 1))), (0, .ref (K 0))]) dX7_readsNumber_62 rfl (nI_add m0 1) (by decide) rfl ?_
            refine zz_aload_n 65 X.1 1 dX7_readsNumber_65 rfl ?_
            refine zz_dup 66 X.1 dX7_readsNumber_66 rfl ?_
            refine rr_get 67 X 8 (by decide) (v := .int (nI (p0 + m0))) rfl (by decide +kernel) rfl dX7_readsNumber_67 ?_
            refine zz_iconst 70 X.1 (v := nI 1) dX7_readsNumber_70 rfl ?_
            refine zz_iadd 71 X.1 (v := (nI ((p0 + m0) + 1))) dX7_readsNumber_71 (nI_add _ _) ?_
            refine rr_put 72 hAp X 8 (by decide) (F' := upd (upd F 7 (nI (((10 * v0) + (tc (G 3) tn (p0 + m0))) - 48))) 8 (nI ((p0 + m0) + 1))) rfl (by decide +kernel) ⟨rfl, rfl⟩ (by decide +kernel) dX7_readsNumber_72 ?_
            refine zz_goto 75 7 X.1 dX7_readsNumber_75 (by decide) ?_
            refine zz_lvs [1, 0] rfl ?_
            exact ih7 (m0 + 1) (((10 * v0) + (tc (G 3) tn (p0 + m0))) - 48) (by omega) (fun k hk => by rcases Nat.lt_or_ge k m0 with z | z; exact hdd k z; rw [show k = m0 by omega]; exact h30) (by first | (rw [show min (m0 + 1) 4 = m0 + 1 by omega, nv, hv, show min m0 4 = m0 by omega]; omega) | (rw [hv]; congr 1; omega)) (by omega)
  refine zz_lvs [1, 0] rfl ?_
  exact C7 (tn - (p0 + 0) + 1) 0 0 (by omega) (fun k h => by omega) (rfl) (Nat.lt_succ_self _)

abbrev rm_X7_reads : Room := { frames := 3, cells := 0, slots := 0, locals := 63 }
theorem yd_X7_reads : yX7_reads.cls = RX7 ∧ yX7_reads.cls ≠ "java/lang/invoke/MethodHandle" ∧ yX7_reads.cls ≠ "java/lang/invoke/VarHandle" ∧ (parseMethodDescriptor yX7_reads.desc).map (fun d => d.parameters.length) = some 0 := by decide +kernel
set_option maxHeartbeats 4000000 in
set_option maxRecDepth 100000 in
theorem kt_X7_reads_e (l : Launch) (D : va_G) (C : Nat → ClassId) (K : Nat → Nat) (hAp : RAp K) (F : Nat → Int32) (hs mv : Nat → Bool) (G : Nat → Nat → Int32) (e0 : Nat) (tn : Nat) (hT : F 4 = nI tn) (htn : tn ≤ 400) (hB : HB (G 3) tn) (h8 : F 8 = nI e0) (he : e0 ≤ tn) : RMv l yX7_reads wsX7_reads rm_X7_reads D C K [] F hs mv G (fun (u : MSt) => u = (upd (upd (upd (upd F 5 (nI (rk (kd (tc (G 3) tn) tn (sk (tc (G 3) tn) tn e0))))) 6 (nI (sk (tc (G 3) tn) tn e0))) 7 (r7 (tc (G 3) tn) tn (sk (tc (G 3) tn) tn e0) (F 7))) 8 (nI (sk (tc (G 3) tn) tn e0 + tl (tc (G 3) tn) tn (sk (tc (G 3) tn) tn e0))), hs, mv, G)) := by
  refine RMv_of (lv := [(0, .ref (K 0))]) (cc := cX7_reads) (maxL := 2) (ret := none) rfl rfl (by decide +kernel) (Nat.le_of_ble_eq_true rfl) rfl ?_
  intro p e s m args below meth c X hml hr hlk
  generalize hQ : MQ below _ args s 0 0 _ = Q
  refine zz_world (P' := (RP D C K (upd F 8 (nI e0)) hs mv G)) (rp_F (upd_self h8).symm) ?_
  have C0 : ∀ (d : Nat) (q0 : Nat) (hq : e0 ≤ q0 ∧ q0 ≤ tn) (hbl : ∀ k, e0 ≤ k → k < q0 → bl ((tc (G 3) tn) k) = true) (hd : tn - q0 < d), ZZ p l e rm_X7_reads s m args below meth c 0 0 Q (zz_A (RAd K) s.heap.size) (RP D C K (upd F 8 (nI q0)) hs mv G) 2 [(0, .ref (K 0))] [] 0 := by
    intro d
    induction d with
    | zero => intro q0 hq hbl hd; exact absurd hd (Nat.not_lt_zero _)
    | succ d ih0 =>
      intro q0 hq hbl hd
      have htc := tc_lt (i := q0) hB
      have htc2 := tc_lt (i := q0 + 1) hB
      refine zz_aload_n 0 X.1 0 dX7_reads_0 rfl ?_
      refine rr_get 1 X 8 (by decide) (v := .int (nI q0)) rfl (by decide +kernel) rfl dX7_reads_1 ?_
      refine zz_aload_n 4 X.1 0 dX7_reads_4 rfl ?_
      refine rr_get 5 X 4 (by decide) (v := .int (F 4)) rfl (by decide +kernel) rfl dX7_reads_5 ?_
      refine zz_topi (nI tn) (hT) ?_
      refine zz_icmp_ge 8 52 X.1 (nI_toInt (by omega)) (nI_toInt (by omega)) dX7_reads_8 (by decide) (fun h8 => ?_) (fun h8 => ?_)
      · skip
        have hsk : sk (tc (G 3) tn) tn e0 = q0 := sk_at hq.1 hq.2 (fun hz => decide_eq_false (by omega)) hbl
        refine zz_aload_n 52 X.1 0 dX7_reads_52 rfl ?_
        refine zz_aload_n 53 X.1 0 dX7_reads_53 rfl ?_
        refine rr_get 54 X 8 (by decide) (v := .int (nI q0)) rfl (by decide +kernel) rfl dX7_reads_54 ?_
        refine rr_put 57 hAp X 6 (by decide) (F' := upd (upd F 6 (nI q0)) 8 (nI q0)) rfl (by decide +kernel) ⟨rfl, rfl⟩ (by decide +kernel) dX7_reads_57 ?_
        refine zz_aload_n 60 X.1 0 dX7_reads_60 rfl ?_
        refine zz_iconst 61 X.1 (v := nI 0) dX7_reads_61 rfl ?_
        refine rr_put 62 hAp X 5 (by decide) (F' := upd (upd (upd F 5 (nI 0)) 6 (nI q0)) 8 (nI q0)) rfl (by decide +kernel) ⟨rfl, rfl⟩ (by decide +kernel) dX7_reads_62 ?_
        refine zz_aload_n 65 X.1 0 dX7_reads_65 rfl ?_
        refine rr_get 66 X 8 (by decide) (v := .int (nI q0)) rfl (by decide +kernel) rfl dX7_reads_66 ?_
        refine zz_aload_n 69 X.1 0 dX7_reads_69 rfl ?_
        refine rr_get 70 X 4 (by decide) (v := .int (F 4)) rfl (by decide +kernel) rfl dX7_reads_70 ?_
        refine zz_topi (nI tn) (hT) ?_
        refine zz_icmp_ne 73 77 X.1 (nI_toInt (by omega)) (nI_toInt (by omega)) dX7_reads_73 (by decide) (fun h73 => ?_) (fun h73 => ?_)
        · exfalso; omega
        · skip
          refine zz_world (P' := (RP D C K (upd (upd (upd (upd F 5 (nI (rk (kd (tc (G 3) tn) tn (sk (tc (G 3) tn) tn e0))))) 6 (nI (sk (tc (G 3) tn) tn e0))) 7 (r7 (tc (G 3) tn) tn (sk (tc (G 3) tn) tn e0) (F 7))) 8 (nI (sk (tc (G 3) tn) tn e0 + tl (tc (G 3) tn) tn (sk (tc (G 3) tn) tn e0)))) hs mv G)) (rp_F (by rw [hsk, show kd (tc (G 3) tn) tn q0 = 0 from kd_0.mpr (by omega), show tl (tc (G 3) tn) tn q0 = 0 from tl_end (by omega), show ∀ f, r7 (tc (G 3) tn) tn q0 f = f from fun f => if_pos (by omega)]; funext j; unfold upd; by_cases j5 : j = 5 <;> by_cases j6 : j = 6 <;> by_cases j7 : j = 7 <;> by_cases j8 : j = 8 <;> simp [j5, j6, j7, j8, rk])) ?_
          rw [← hQ]
          refine zz_vret 76 X.1 hr hlk (upd (upd (upd (upd F 5 (nI (rk (kd (tc (G 3) tn) tn (sk (tc (G 3) tn) tn e0))))) 6 (nI (sk (tc (G 3) tn) tn e0))) 7 (r7 (tc (G 3) tn) tn (sk (tc (G 3) tn) tn e0) (F 7))) 8 (nI (sk (tc (G 3) tn) tn e0 + tl (tc (G 3) tn) tn (sk (tc (G 3) tn) tn e0))), hs, mv, G) ?_ (fun _ h _ => h) dX7_reads_76
          exact rfl
      · skip
        refine zz_aload_n 11 X.1 0 dX7_reads_11 rfl ?_
        refine rr_get 12 X 3 (by decide) (v := .ref (K 3)) rfl (by decide +kernel) rfl dX7_reads_12 ?_
        refine zz_aload_n 15 X.1 0 dX7_reads_15 rfl ?_
        refine rr_get 16 X 8 (by decide) (v := .int (nI q0)) rfl (by decide +kernel) rfl dX7_reads_16 ?_
        refine rr_iald 19 X 2 3 (len := 400) (f := G 3) rfl (by omega) (by decide) dX7_reads_19 ?_
        refine zz_topi (nI (tc (G 3) tn (q0))) ((tc_v (by omega))) ?_
        refine zz_bipush 20 X.1 (v := nI 32) dX7_reads_20 rfl ?_
        refine zz_icmp_eq 22 39 X.1 (nI_toInt (by omega)) (nI_toInt (by omega)) dX7_reads_22 (by decide) (fun h22 => ?_) (fun h22 => ?_)
        · skip
          refine zz_aload_n 39 X.1 0 dX7_reads_39 rfl ?_
          refine zz_dup 40 X.1 dX7_reads_40 rfl ?_
          refine rr_get 41 X 8 (by decide) (v := .int (nI q0)) rfl (by decide +kernel) rfl dX7_reads_41 ?_
          refine zz_iconst 44 X.1 (v := nI 1) dX7_reads_44 rfl ?_
          refine zz_iadd 45 X.1 (v := (nI (q0 + 1))) dX7_reads_45 (nI_add _ _) ?_
          refine rr_put 46 hAp X 8 (by decide) (F' := upd F 8 (nI (q0 + 1))) rfl (by decide +kernel) ⟨rfl, rfl⟩ (by decide +kernel) dX7_reads_46 ?_
          refine zz_goto 49 0 X.1 dX7_reads_49 (by decide) ?_
          refine zz_lvs [0] rfl ?_
          exact ih0 (q0 + 1) (by omega) (fun k h1 h2 => by rcases Nat.lt_or_ge k q0 with z | z; exact hbl k h1 z; rw [show k = q0 by omega]; exact decide_eq_true (by omega)) (by omega)
        · skip
          refine zz_aload_n 25 X.1 0 dX7_reads_25 rfl ?_
          refine rr_get 26 X 3 (by decide) (v := .ref (K 3)) rfl (by decide +kernel) rfl dX7_reads_26 ?_
          refine zz_aload_n 29 X.1 0 dX7_reads_29 rfl ?_
          refine rr_get 30 X 8 (by decide) (v := .int (nI q0)) rfl (by decide +kernel) rfl dX7_reads_30 ?_
          refine rr_iald 33 X 2 3 (len := 400) (f := G 3) rfl (by omega) (by decide) dX7_reads_33 ?_
          refine zz_topi (nI (tc (G 3) tn (q0))) ((tc_v (by omega))) ?_
          refine zz_bipush 34 X.1 (v := nI 10) dX7_reads_34 rfl ?_
          refine zz_icmp_ne 36 52 X.1 (nI_toInt (by omega)) (nI_toInt (by omega)) dX7_reads_36 (by decide) (fun h36 => ?_) (fun h36 => ?_)
          · skip
            have hsk : sk (tc (G 3) tn) tn e0 = q0 := sk_at hq.1 hq.2 (fun hz => decide_eq_false (by omega)) hbl
            refine zz_aload_n 52 X.1 0 dX7_reads_52 rfl ?_
            refine zz_aload_n 53 X.1 0 dX7_reads_53 rfl ?_
            refine rr_get 54 X 8 (by decide) (v := .int (nI q0)) rfl (by decide +kernel) rfl dX7_reads_54 ?_
            refine rr_put 57 hAp X 6 (by decide) (F' := upd (upd F 6 (nI q0)) 8 (nI q0)) rfl (by decide +kernel) ⟨rfl, rfl⟩ (by decide +kernel) dX7_reads_57 ?_
            refine zz_aload_n 60 X.1 0 dX7_reads_60 rfl ?_
            refine zz_iconst 61 X.1 (v := nI 0) dX7_reads_61 rfl ?_
            refine rr_put 62 hAp X 5 (by decide) (F' := upd (upd (upd F 5 (nI 0)) 6 (nI q0)) 8 (nI q0)) rfl (by decide +kernel) ⟨rfl, rfl⟩ (by decide +kernel) dX7_reads_62 ?_
            refine zz_aload_n 65 X.1 0 dX7_reads_65 rfl ?_
            refine rr_get 66 X 8 (by decide) (v := .int (nI q0)) rfl (by decide +kernel) rfl dX7_reads_66 ?_
            refine zz_aload_n 69 X.1 0 dX7_reads_69 rfl ?_
            refine rr_get 70 X 4 (by decide) (v := .int (F 4)) rfl (by decide +kernel) rfl dX7_reads_70 ?_
            refine zz_topi (nI tn) (hT) ?_
            refine zz_icmp_ne 73 77 X.1 (nI_toInt (by omega)) (nI_toInt (by omega)) dX7_reads_73 (by decide) (fun h73 => ?_) (fun h73 => ?_)
            · skip
              refine zz_aload_n 77 X.1 0 dX7_reads_77 rfl ?_
              refine rr_get 78 X 3 (by decide) (v := .ref (K 3)) rfl (by decide +kernel) rfl dX7_reads_78 ?_
              refine zz_aload_n 81 X.1 0 dX7_reads_81 rfl ?_
              refine rr_get 82 X 8 (by decide) (v := .int (nI q0)) rfl (by decide +kernel) rfl dX7_reads_82 ?_
              refine rr_iald 85 X 2 3 (len := 400) (f := G 3) rfl (by omega) (by decide) dX7_reads_85 ?_
              refine zz_topi (nI (tc (G 3) tn (q0))) ((tc_v (by omega))) ?_
              refine zz_istore_n 86 X.1 (lv' := [(1, .int (nI (tc (G 3) tn (q0)))), (0, .ref (K 0))]) dX7_reads_86 (by decide) rfl ?_
              refine zz_iload_n 87 X.1 0 dX7_reads_87 rfl ?_
              refine zz_callS0i 88 ⟨X.1.1, X.1.2, hml, X.2.2.2.1, X.2.1⟩ (fun q h => Or.inr h) RP_keep (As := [.int (nI (tc (G 3) tn (q0)))]) (kt_X7_isDigit l (tc (G 3) tn (q0)) (by first | rfl | assumption | omega)) gX7_reads_X7_isDigit rfl ⟨rfl, rfl⟩ yd_X7_isDigit.2 ⟨Nat.le_of_ble_eq_true rfl, Nat.le_of_ble_eq_true rfl⟩ rfl rfl (Nat.le_of_ble_eq_true rfl) ⟨Nat.zero_le _, Nat.zero_le _⟩ dX7_reads_88 ?_
              intro r1 hu1
              obtain rfl := hu1
              refine zz_ifB_eq 91 99 X.1 dX7_reads_91 (by decide) (fun h91 => ?_) (fun h91 => ?_)
              · skip
                refine zz_aload_n 99 X.1 1 dX7_reads_99 rfl ?_
                refine zz_dup 100 X.1 dX7_reads_100 rfl ?_
                refine rr_get 101 X 8 (by decide) (v := .int (nI q0)) rfl (by decide +kernel) rfl dX7_reads_101 ?_
                refine zz_iconst 104 X.1 (v := nI 1) dX7_reads_104 rfl ?_
                refine zz_iadd 105 X.1 (v := (nI (q0 + 1))) dX7_reads_105 (nI_add _ _) ?_
                refine rr_put 106 hAp X 8 (by decide) (F' := upd (upd (upd F 5 (nI 0)) 6 (nI q0)) 8 (nI (q0 + 1))) rfl (by decide +kernel) ⟨rfl, rfl⟩ (by decide +kernel) dX7_reads_106 ?_
                refine zz_aload_n 109 X.1 1 dX7_reads_109 rfl ?_
                refine zz_iload_n 110 X.1 0 dX7_reads_110 rfl ?_
                refine rr_put 111 hAp X 7 (by decide) (F' := upd (upd (upd (upd F 5 (nI 0)) 6 (nI q0)) 7 (nI (tc (G 3) tn (q0)))) 8 (nI (q0 + 1))) rfl (by decide +kernel) ⟨rfl, rfl⟩ (by decide +kernel) dX7_reads_111 ?_
                refine zz_iload_n 114 X.1 0 dX7_reads_114 rfl ?_
                refine zz_bipush 115 X.1 (v := nI 97) dX7_reads_115 rfl ?_
                refine zz_bipush 117 X.1 (v := nI 104) dX7_reads_117 rfl ?_
                refine zz_callS0i 119 ⟨X.1.1, X.1.2, hml, X.2.2.2.1, X.2.1⟩ (fun q h => Or.inr h) RP_keep (As := [.int (nI (tc (G 3) tn (q0))), .int (nI 97), .int (nI 104)]) (kt_X7_in l (nI (tc (G 3) tn (q0))) (nI 97) (nI 104) ((tc (G 3) tn (q0) : Nat) : Int) ((97 : Nat) : Int) ((104 : Nat) : Int) (nI_toInt (by omega)) (nI_toInt (by omega)) (nI_toInt (by omega))) gX7_reads_X7_in rfl ⟨rfl, rfl⟩ yd_X7_in.2 ⟨Nat.le_of_ble_eq_true rfl, Nat.le_of_ble_eq_true rfl⟩ rfl rfl (Nat.le_of_ble_eq_true rfl) ⟨Nat.zero_le _, Nat.zero_le _⟩ dX7_reads_119 ?_
                intro r2 hu2
                rcases (show (((97 : Nat) : Int) ≤ ((tc (G 3) tn (q0) : Nat) : Int) ∧ ((tc (G 3) tn (q0) : Nat) : Int) ≤ ((104 : Nat) : Int)) ∨ (¬ (((97 : Nat) : Int) ≤ ((tc (G 3) tn (q0) : Nat) : Int) ∧ ((tc (G 3) tn (q0) : Nat) : Int) ≤ ((104 : Nat) : Int))) by omega) with hc2 | hc2
                · skip
                  obtain rfl := (hu2.1 hc2)
                  refine zz_ifB_eq 122 141 X.1 dX7_reads_122 (by decide) (fun h122 => ?_) (fun h122 => ?_)
                  · exact absurd h122 (by decide)
                  · skip
                    refine zz_aload_n 125 X.1 1 dX7_reads_125 rfl ?_
                    refine zz_iconst 126 X.1 (v := nI 1) dX7_reads_126 rfl ?_
                    refine rr_put 127 hAp X 5 (by decide) (F' := upd (upd (upd (upd F 5 (nI 1)) 6 (nI q0)) 7 (nI (tc (G 3) tn (q0)))) 8 (nI (q0 + 1))) rfl (by decide +kernel) ⟨rfl, rfl⟩ (by decide +kernel) dX7_reads_127 ?_
                    refine zz_aload_n 130 X.1 1 dX7_reads_130 rfl ?_
                    refine zz_iload_n 131 X.1 0 dX7_reads_131 rfl ?_
                    refine zz_bipush 132 X.1 (v := nI 97) dX7_reads_132 rfl ?_
                    refine zz_isub 134 X.1 (v := (nI ((tc (G 3) tn (q0)) - 97))) dX7_reads_134 (pk_sub (by omega)) ?_
                    refine rr_put 135 hAp X 7 (by decide) (F' := upd (upd (upd (upd F 5 (nI 1)) 6 (nI q0)) 7 (nI ((tc (G 3) tn (q0)) - 97))) 8 (nI (q0 + 1))) rfl (by decide +kernel) ⟨rfl, rfl⟩ (by decide +kernel) dX7_reads_135 ?_
                    obtain ⟨hk1, hk2, hk3⟩ := kd_set (n := tn) (p := q0) (t := (tc (G 3) tn)) (by omega) h91 (by omega)
                    refine zz_goto 138 210 X.1 dX7_reads_138 (by decide) ?_
                    refine zz_world (P' := (RP D C K (upd (upd (upd (upd F 5 (nI (rk (kd (tc (G 3) tn) tn (sk (tc (G 3) tn) tn e0))))) 6 (nI (sk (tc (G 3) tn) tn e0))) 7 (r7 (tc (G 3) tn) tn (sk (tc (G 3) tn) tn e0) (F 7))) 8 (nI (sk (tc (G 3) tn) tn e0 + tl (tc (G 3) tn) tn (sk (tc (G 3) tn) tn e0)))) hs mv G)) (rp_F (by first | (rw [hsk, hk1, hk2, hk3]; done) | (rw [hsk, hk1, hk2, hk3]; rfl) | (rw [hsk, hk1, hk2, hk3, rk_sg (by assumption)]; done) | (rw [hsk, hk1, hk2, hk3, rk_sg (by assumption)]; rfl))) ?_
                    rw [← hQ]
                    refine zz_vret 210 X.1 hr hlk (upd (upd (upd (upd F 5 (nI (rk (kd (tc (G 3) tn) tn (sk (tc (G 3) tn) tn e0))))) 6 (nI (sk (tc (G 3) tn) tn e0))) 7 (r7 (tc (G 3) tn) tn (sk (tc (G 3) tn) tn e0) (F 7))) 8 (nI (sk (tc (G 3) tn) tn e0 + tl (tc (G 3) tn) tn (sk (tc (G 3) tn) tn e0))), hs, mv, G) ?_ (fun _ h _ => h) dX7_reads_210
                    exact rfl
                · skip
                  obtain rfl := (hu2.2 hc2)
                  refine zz_ifB_eq 122 141 X.1 dX7_reads_122 (by decide) (fun h122 => ?_) (fun h122 => ?_)
                  · skip
                    refine zz_iload_n 141 X.1 0 dX7_reads_141 rfl ?_
                    refine zz_callS0i 142 ⟨X.1.1, X.1.2, hml, X.2.2.2.1, X.2.1⟩ (fun q h => Or.inr h) RP_keep (As := [.int (nI (tc (G 3) tn (q0)))]) (kt_X7_isSign l (tc (G 3) tn (q0)) (by first | rfl | assumption | omega)) gX7_reads_X7_isSign rfl ⟨rfl, rfl⟩ yd_X7_isSign.2 ⟨Nat.le_of_ble_eq_true rfl, Nat.le_of_ble_eq_true rfl⟩ rfl rfl (Nat.le_of_ble_eq_true rfl) ⟨Nat.zero_le _, Nat.zero_le _⟩ dX7_reads_142 ?_
                    intro r3 hu3
                    obtain rfl := hu3
                    refine zz_ifB_eq 145 156 X.1 dX7_reads_145 (by decide) (fun h145 => ?_) (fun h145 => ?_)
                    · skip
                      refine zz_iload_n 156 X.1 0 dX7_reads_156 rfl ?_
                      refine zz_bipush 157 X.1 (v := nI 46) dX7_reads_157 rfl ?_
                      refine zz_icmp_ne 159 205 X.1 (nI_toInt (by omega)) (nI_toInt (by omega)) dX7_reads_159 (by decide) (fun h159 => ?_) (fun h159 => ?_)
                      · skip
                        have htn0 := tc_n (g := G 3) (n := tn) (q0 + 1)
                        obtain ⟨hk1, hk2, hk3⟩ := kd_oth (n := tn) (p := q0) (t := (tc (G 3) tn)) (by omega) h91 (by omega) h145 (by omega)
                        refine zz_aload_n 205 X.1 1 dX7_reads_205 rfl ?_
                        refine zz_iconst 206 X.1 (v := nI 5) dX7_reads_206 rfl ?_
                        refine rr_put 207 hAp X 5 (by decide) (F' := upd (upd (upd (upd F 5 (nI 5)) 6 (nI q0)) 7 (nI (tc (G 3) tn (q0)))) 8 (nI (q0 + 1))) rfl (by decide +kernel) ⟨rfl, rfl⟩ (by decide +kernel) dX7_reads_207 ?_
                        refine zz_world (P' := (RP D C K (upd (upd (upd (upd F 5 (nI (rk (kd (tc (G 3) tn) tn (sk (tc (G 3) tn) tn e0))))) 6 (nI (sk (tc (G 3) tn) tn e0))) 7 (r7 (tc (G 3) tn) tn (sk (tc (G 3) tn) tn e0) (F 7))) 8 (nI (sk (tc (G 3) tn) tn e0 + tl (tc (G 3) tn) tn (sk (tc (G 3) tn) tn e0)))) hs mv G)) (rp_F (by first | (rw [hsk, hk1, hk2, hk3]; done) | (rw [hsk, hk1, hk2, hk3]; rfl) | (rw [hsk, hk1, hk2, hk3, rk_sg (by assumption)]; done) | (rw [hsk, hk1, hk2, hk3, rk_sg (by assumption)]; rfl))) ?_
                        rw [← hQ]
                        refine zz_vret 210 X.1 hr hlk (upd (upd (upd (upd F 5 (nI (rk (kd (tc (G 3) tn) tn (sk (tc (G 3) tn) tn e0))))) 6 (nI (sk (tc (G 3) tn) tn e0))) 7 (r7 (tc (G 3) tn) tn (sk (tc (G 3) tn) tn e0) (F 7))) 8 (nI (sk (tc (G 3) tn) tn e0 + tl (tc (G 3) tn) tn (sk (tc (G 3) tn) tn e0))), hs, mv, G) ?_ (fun _ h _ => h) dX7_reads_210
                        exact rfl
                      · skip
                        refine zz_aload_n 162 X.1 1 dX7_reads_162 rfl ?_
                        refine rr_get 163 X 8 (by decide) (v := .int (nI (q0 + 1))) rfl (by decide +kernel) rfl dX7_reads_163 ?_
                        refine zz_aload_n 166 X.1 1 dX7_reads_166 rfl ?_
                        refine rr_get 167 X 4 (by decide) (v := .int (F 4)) rfl (by decide +kernel) rfl dX7_reads_167 ?_
                        refine zz_topi (nI tn) (hT) ?_
                        refine zz_icmp_ge 170 205 X.1 (nI_toInt (by omega)) (nI_toInt (by omega)) dX7_reads_170 (by decide) (fun h170 => ?_) (fun h170 => ?_)
                        · skip
                          have htn0 := tc_n (g := G 3) (n := tn) (q0 + 1)
                          obtain ⟨hk1, hk2, hk3⟩ := kd_oth (n := tn) (p := q0) (t := (tc (G 3) tn)) (by omega) h91 (by omega) h145 (by omega)
                          refine zz_aload_n 205 X.1 1 dX7_reads_205 rfl ?_
                          refine zz_iconst 206 X.1 (v := nI 5) dX7_reads_206 rfl ?_
                          refine rr_put 207 hAp X 5 (by decide) (F' := upd (upd (upd (upd F 5 (nI 5)) 6 (nI q0)) 7 (nI (tc (G 3) tn (q0)))) 8 (nI (q0 + 1))) rfl (by decide +kernel) ⟨rfl, rfl⟩ (by decide +kernel) dX7_reads_207 ?_
                          refine zz_world (P' := (RP D C K (upd (upd (upd (upd F 5 (nI (rk (kd (tc (G 3) tn) tn (sk (tc (G 3) tn) tn e0))))) 6 (nI (sk (tc (G 3) tn) tn e0))) 7 (r7 (tc (G 3) tn) tn (sk (tc (G 3) tn) tn e0) (F 7))) 8 (nI (sk (tc (G 3) tn) tn e0 + tl (tc (G 3) tn) tn (sk (tc (G 3) tn) tn e0)))) hs mv G)) (rp_F (by first | (rw [hsk, hk1, hk2, hk3]; done) | (rw [hsk, hk1, hk2, hk3]; rfl) | (rw [hsk, hk1, hk2, hk3, rk_sg (by assumption)]; done) | (rw [hsk, hk1, hk2, hk3, rk_sg (by assumption)]; rfl))) ?_
                          rw [← hQ]
                          refine zz_vret 210 X.1 hr hlk (upd (upd (upd (upd F 5 (nI (rk (kd (tc (G 3) tn) tn (sk (tc (G 3) tn) tn e0))))) 6 (nI (sk (tc (G 3) tn) tn e0))) 7 (r7 (tc (G 3) tn) tn (sk (tc (G 3) tn) tn e0) (F 7))) 8 (nI (sk (tc (G 3) tn) tn e0 + tl (tc (G 3) tn) tn (sk (tc (G 3) tn) tn e0))), hs, mv, G) ?_ (fun _ h _ => h) dX7_reads_210
                          exact rfl
                        · skip
                          refine zz_aload_n 173 X.1 1 dX7_reads_173 rfl ?_
                          refine rr_get 174 X 3 (by decide) (v := .ref (K 3)) rfl (by decide +kernel) rfl dX7_reads_174 ?_
                          refine zz_aload_n 177 X.1 1 dX7_reads_177 rfl ?_
                          refine rr_get 178 X 8 (by decide) (v := .int (nI (q0 + 1))) rfl (by decide +kernel) rfl dX7_reads_178 ?_
                          refine rr_iald 181 X 2 3 (len := 400) (f := G 3) rfl (by omega) (by decide) dX7_reads_181 ?_
                          refine zz_topi (nI (tc (G 3) tn (q0 + 1))) ((tc_v (by omega))) ?_
                          refine zz_bipush 182 X.1 (v := nI 46) dX7_reads_182 rfl ?_
                          refine zz_icmp_ne 184 205 X.1 (nI_toInt (by omega)) (nI_toInt (by omega)) dX7_reads_184 (by decide) (fun h184 => ?_) (fun h184 => ?_)
                          · skip
                            have htn0 := tc_n (g := G 3) (n := tn) (q0 + 1)
                            obtain ⟨hk1, hk2, hk3⟩ := kd_oth (n := tn) (p := q0) (t := (tc (G 3) tn)) (by omega) h91 (by omega) h145 (by omega)
                            refine zz_aload_n 205 X.1 1 dX7_reads_205 rfl ?_
                            refine zz_iconst 206 X.1 (v := nI 5) dX7_reads_206 rfl ?_
                            refine rr_put 207 hAp X 5 (by decide) (F' := upd (upd (upd (upd F 5 (nI 5)) 6 (nI q0)) 7 (nI (tc (G 3) tn (q0)))) 8 (nI (q0 + 1))) rfl (by decide +kernel) ⟨rfl, rfl⟩ (by decide +kernel) dX7_reads_207 ?_
                            refine zz_world (P' := (RP D C K (upd (upd (upd (upd F 5 (nI (rk (kd (tc (G 3) tn) tn (sk (tc (G 3) tn) tn e0))))) 6 (nI (sk (tc (G 3) tn) tn e0))) 7 (r7 (tc (G 3) tn) tn (sk (tc (G 3) tn) tn e0) (F 7))) 8 (nI (sk (tc (G 3) tn) tn e0 + tl (tc (G 3) tn) tn (sk (tc (G 3) tn) tn e0)))) hs mv G)) (rp_F (by first | (rw [hsk, hk1, hk2, hk3]; done) | (rw [hsk, hk1, hk2, hk3]; rfl) | (rw [hsk, hk1, hk2, hk3, rk_sg (by assumption)]; done) | (rw [hsk, hk1, hk2, hk3, rk_sg (by assumption)]; rfl))) ?_
                            rw [← hQ]
                            refine zz_vret 210 X.1 hr hlk (upd (upd (upd (upd F 5 (nI (rk (kd (tc (G 3) tn) tn (sk (tc (G 3) tn) tn e0))))) 6 (nI (sk (tc (G 3) tn) tn e0))) 7 (r7 (tc (G 3) tn) tn (sk (tc (G 3) tn) tn e0) (F 7))) 8 (nI (sk (tc (G 3) tn) tn e0 + tl (tc (G 3) tn) tn (sk (tc (G 3) tn) tn e0))), hs, mv, G) ?_ (fun _ h _ => h) dX7_reads_210
                            exact rfl
                          · skip
                            refine zz_aload_n 187 X.1 1 dX7_reads_187 rfl ?_
                            refine zz_iconst 188 X.1 (v := nI 4) dX7_reads_188 rfl ?_
                            refine rr_put 189 hAp X 5 (by decide) (F' := upd (upd (upd (upd F 5 (nI 4)) 6 (nI q0)) 7 (nI (tc (G 3) tn (q0)))) 8 (nI (q0 + 1))) rfl (by decide +kernel) ⟨rfl, rfl⟩ (by decide +kernel) dX7_reads_189 ?_
                            refine zz_aload_n 192 X.1 1 dX7_reads_192 rfl ?_
                            refine zz_dup 193 X.1 dX7_reads_193 rfl ?_
                            refine rr_get 194 X 8 (by decide) (v := .int (nI (q0 + 1))) rfl (by decide +kernel) rfl dX7_reads_194 ?_
                            refine zz_iconst 197 X.1 (v := nI 1) dX7_reads_197 rfl ?_
                            refine zz_iadd 198 X.1 (v := (nI ((q0 + 1) + 1))) dX7_reads_198 (nI_add _ _) ?_
                            refine rr_put 199 hAp X 8 (by decide) (F' := upd (upd (upd (upd F 5 (nI 4)) 6 (nI q0)) 7 (nI (tc (G 3) tn (q0)))) 8 (nI ((q0 + 1) + 1))) rfl (by decide +kernel) ⟨rfl, rfl⟩ (by decide +kernel) dX7_reads_199 ?_
                            obtain ⟨hk1, hk2, hk3⟩ := kd_pts (n := tn) (p := q0) (t := (tc (G 3) tn)) (by omega) (by omega) (by omega)
                            refine zz_goto 202 210 X.1 dX7_reads_202 (by decide) ?_
                            refine zz_world (P' := (RP D C K (upd (upd (upd (upd F 5 (nI (rk (kd (tc (G 3) tn) tn (sk (tc (G 3) tn) tn e0))))) 6 (nI (sk (tc (G 3) tn) tn e0))) 7 (r7 (tc (G 3) tn) tn (sk (tc (G 3) tn) tn e0) (F 7))) 8 (nI (sk (tc (G 3) tn) tn e0 + tl (tc (G 3) tn) tn (sk (tc (G 3) tn) tn e0)))) hs mv G)) (rp_F (by first | (rw [hsk, hk1, hk2, hk3]; done) | (rw [hsk, hk1, hk2, hk3]; rfl) | (rw [hsk, hk1, hk2, hk3, rk_sg (by assumption)]; done) | (rw [hsk, hk1, hk2, hk3, rk_sg (by assumption)]; rfl))) ?_
                            rw [← hQ]
                            refine zz_vret 210 X.1 hr hlk (upd (upd (upd (upd F 5 (nI (rk (kd (tc (G 3) tn) tn (sk (tc (G 3) tn) tn e0))))) 6 (nI (sk (tc (G 3) tn) tn e0))) 7 (r7 (tc (G 3) tn) tn (sk (tc (G 3) tn) tn e0) (F 7))) 8 (nI (sk (tc (G 3) tn) tn e0 + tl (tc (G 3) tn) tn (sk (tc (G 3) tn) tn e0))), hs, mv, G) ?_ (fun _ h _ => h) dX7_reads_210
                            exact rfl
                    · skip
                      refine zz_aload_n 148 X.1 1 dX7_reads_148 rfl ?_
                      refine zz_iconst 149 X.1 (v := nI 3) dX7_reads_149 rfl ?_
                      refine rr_put 150 hAp X 5 (by decide) (F' := upd (upd (upd (upd F 5 (nI 3)) 6 (nI q0)) 7 (nI (tc (G 3) tn (q0)))) 8 (nI (q0 + 1))) rfl (by decide +kernel) ⟨rfl, rfl⟩ (by decide +kernel) dX7_reads_150 ?_
                      obtain ⟨hk1, hk2, hk3⟩ := kd_sg (n := tn) (p := q0) (t := (tc (G 3) tn)) (by omega) h145
                      refine zz_goto 153 210 X.1 dX7_reads_153 (by decide) ?_
                      refine zz_world (P' := (RP D C K (upd (upd (upd (upd F 5 (nI (rk (kd (tc (G 3) tn) tn (sk (tc (G 3) tn) tn e0))))) 6 (nI (sk (tc (G 3) tn) tn e0))) 7 (r7 (tc (G 3) tn) tn (sk (tc (G 3) tn) tn e0) (F 7))) 8 (nI (sk (tc (G 3) tn) tn e0 + tl (tc (G 3) tn) tn (sk (tc (G 3) tn) tn e0)))) hs mv G)) (rp_F (by first | (rw [hsk, hk1, hk2, hk3]; done) | (rw [hsk, hk1, hk2, hk3]; rfl) | (rw [hsk, hk1, hk2, hk3, rk_sg (by assumption)]; done) | (rw [hsk, hk1, hk2, hk3, rk_sg (by assumption)]; rfl))) ?_
                      rw [← hQ]
                      refine zz_vret 210 X.1 hr hlk (upd (upd (upd (upd F 5 (nI (rk (kd (tc (G 3) tn) tn (sk (tc (G 3) tn) tn e0))))) 6 (nI (sk (tc (G 3) tn) tn e0))) 7 (r7 (tc (G 3) tn) tn (sk (tc (G 3) tn) tn e0) (F 7))) 8 (nI (sk (tc (G 3) tn) tn e0 + tl (tc (G 3) tn) tn (sk (tc (G 3) tn) tn e0))), hs, mv, G) ?_ (fun _ h _ => h) dX7_reads_210
                      exact rfl
                  · exact absurd h122 (by decide)
              · skip
                refine zz_aload_n 94 X.1 1 dX7_reads_94 rfl ?_
                refine rr_callVv 95 X hml (As := []) (kt_X7_readsNumber l D C K hAp (upd (upd (upd F 5 (nI 0)) 6 (nI q0)) 8 (nI q0)) hs mv G q0 tn (hT) (by first | rfl | assumption | omega) (by first | rfl | assumption | omega) (rfl) (by first | rfl | assumption | omega) (by first | rfl | assumption | omega)) gX7_reads_X7_readsNumber rfl ⟨rfl, rfl⟩ yd_X7_readsNumber ⟨Nat.le_of_ble_eq_true rfl, Nat.le_of_ble_eq_true rfl⟩ rfl rfl (Nat.le_of_ble_eq_true rfl) dX7_reads_95 ?_
                rintro ⟨F4, hs4, mv4, G4⟩ hu4
                cases hu4
                refine zz_world (P' := (RP D C K (upd (upd (upd (upd F 5 (nI (rk (kd (tc (G 3) tn) tn q0)))) 6 (nI q0)) 7 (r7 (tc (G 3) tn) tn q0 (F 7))) 8 (nI (q0 + tl (tc (G 3) tn) tn q0))) hs mv G)) (fun _ h => h) ?_
                refine zz_world (P' := (RP D C K (upd (upd (upd (upd F 5 (nI (rk (kd (tc (G 3) tn) tn (sk (tc (G 3) tn) tn e0))))) 6 (nI (sk (tc (G 3) tn) tn e0))) 7 (r7 (tc (G 3) tn) tn (sk (tc (G 3) tn) tn e0) (F 7))) 8 (nI (sk (tc (G 3) tn) tn e0 + tl (tc (G 3) tn) tn (sk (tc (G 3) tn) tn e0)))) hs mv G)) (rp_F (by first | (rw [hsk]; done) | (rw [hsk]; rfl))) ?_
                rw [← hQ]
                refine zz_vret 98 X.1 hr hlk (upd (upd (upd (upd F 5 (nI (rk (kd (tc (G 3) tn) tn (sk (tc (G 3) tn) tn e0))))) 6 (nI (sk (tc (G 3) tn) tn e0))) 7 (r7 (tc (G 3) tn) tn (sk (tc (G 3) tn) tn e0) (F 7))) 8 (nI (sk (tc (G 3) tn) tn e0 + tl (tc (G 3) tn) tn (sk (tc (G 3) tn) tn e0))), hs, mv, G) ?_ (fun _ h _ => h) dX7_reads_98
                exact rfl
            · exfalso; omega
          · skip
            refine zz_aload_n 39 X.1 0 dX7_reads_39 rfl ?_
            refine zz_dup 40 X.1 dX7_reads_40 rfl ?_
            refine rr_get 41 X 8 (by decide) (v := .int (nI q0)) rfl (by decide +kernel) rfl dX7_reads_41 ?_
            refine zz_iconst 44 X.1 (v := nI 1) dX7_reads_44 rfl ?_
            refine zz_iadd 45 X.1 (v := (nI (q0 + 1))) dX7_reads_45 (nI_add _ _) ?_
            refine rr_put 46 hAp X 8 (by decide) (F' := upd F 8 (nI (q0 + 1))) rfl (by decide +kernel) ⟨rfl, rfl⟩ (by decide +kernel) dX7_reads_46 ?_
            refine zz_goto 49 0 X.1 dX7_reads_49 (by decide) ?_
            refine zz_lvs [0] rfl ?_
            exact ih0 (q0 + 1) (by omega) (fun k h1 h2 => by rcases Nat.lt_or_ge k q0 with z | z; exact hbl k h1 z; rw [show k = q0 by omega]; exact decide_eq_true (by omega)) (by omega)
  refine zz_lvs [0] rfl ?_
  exact C0 (tn - e0 + 1) e0 (by omega) (fun k h1 h2 => by omega) (Nat.lt_succ_self _)
