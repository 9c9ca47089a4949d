/-! The law's loop. -/
set_option maxHeartbeats 8000000 in
set_option maxRecDepth 100000 in
theorem law_body {p : Program} {l : Launch} {e : Env} {s : State} {m : MethodId} {args : Array Value} {below : List Frame} {meth : Method} {c : Code} {Q : State → Prop} {D : va_G} {C : Nat → ClassId} {cD : ClassId} {K KR : Nat → Nat} {A : Nat → Prop} {adK adV : Nat → Nat} {ao ad b L : Nat} {xs : Nat → Int32} {u : CSt} {v : MSt} {o : Int64} {od : UInt64} {cells slots i : Nat} (Z : LCx p l s m args c meth A D C cD K KR adK adV ao ad b L xs) (hI : INV u v) (hi : i + 8 ≤ L) (hcs : cells + 1 ≤ room_1.cells ∧ slots + 6 ≤ room_1.slots) (kk : NXT p l e s m args below meth c Q A D C cD K KR ao ad b i cells slots) : ZZ p l e room_1 s m args below meth c cells slots Q A (PL D C cD K KR ao ad u v o od) 10 (lvL b (K 0) (KR 0) ao ad i) [] 38 := by
  refine zz_aload_n 38 Z.1.1 0 dL_law_38 rfl ?_
  refine zz_iload 39 Z.1.1 5 dL_law_39 rfl ?_
  refine lw_sld 41 Z (j := i) (by omega) rfl dL_law_41 ?_
  refine zz_bipush 42 Z.1.1 (v := nI 63) dL_law_42 rfl ?_
  obtain ⟨k, hk, ek⟩ := pk_andE (xs i) (m := nI 63) 6 (by decide)
  refine zz_iand 44 Z.1.1 (v := nI k) dL_law_44 ek ?_
  rcases (show k < 8 ∨ (8 ≤ k ∧ k < 16) ∨ (16 ≤ k ∧ k < 24) ∨ (24 ≤ k ∧ k < 32) ∨ (32 ≤ k ∧ k < 40) ∨ (40 ≤ k ∧ k < 48) ∨ (48 ≤ k ∧ k < 56) ∨ 56 ≤ k by omega) with h | h | h | h | h | h | h | h
  · rcases (show k = 0 ∨ k = 1 ∨ k = 2 ∨ k = 3 ∨ k = 4 ∨ k = 5 ∨ k = 6 ∨ k = 7 by omega) with rfl | rfl | rfl | rfl | rfl | rfl | rfl | rfl
    · refine zz_tabIn 45 284 Z.1.1 (off := 239) dL_law_45 (by decide) (by decide) (by decide +kernel) (by decide) ?_
      exact cs_append Z hI hi hcs kk
    · refine zz_tabIn 45 388 Z.1.1 (off := 343) dL_law_45 (by decide) (by decide) (by decide +kernel) (by decide) ?_
      exact cs_clearTape Z hI hi hcs kk
    · refine zz_tabIn 45 401 Z.1.1 (off := 356) dL_law_45 (by decide) (by decide) (by decide +kernel) (by decide) ?_
      exact cs_run Z hI hi hcs kk
    · refine zz_tabIn 45 445 Z.1.1 (off := 400) dL_law_45 (by decide) (by decide) (by decide +kernel) (by decide) ?_
      exact cs_errorPosition Z hI hi hcs kk
    · refine zz_tabIn 45 458 Z.1.1 (off := 413) dL_law_45 (by decide) (by decide) (by decide +kernel) (by decide) ?_
      exact cs_stoppedAt Z hI hi hcs kk
    · refine zz_tabIn 45 471 Z.1.1 (off := 426) dL_law_45 (by decide) (by decide) (by decide +kernel) (by decide) ?_
      exact cs_add Z hI hi hcs kk
    · refine zz_tabIn 45 546 Z.1.1 (off := 501) dL_law_45 (by decide) (by decide) (by decide +kernel) (by decide) ?_
      exact cs_remove Z hI hi hcs kk
    · refine zz_tabIn 45 621 Z.1.1 (off := 576) dL_law_45 (by decide) (by decide) (by decide +kernel) (by decide) ?_
      exact cs_put Z hI hi hcs kk
  · rcases (show k = 8 ∨ k = 9 ∨ k = 10 ∨ k = 11 ∨ k = 12 ∨ k = 13 ∨ k = 14 ∨ k = 15 by omega) with rfl | rfl | rfl | rfl | rfl | rfl | rfl | rfl
    · refine zz_tabIn 45 724 Z.1.1 (off := 679) dL_law_45 (by decide) (by decide) (by decide +kernel) (by decide) ?_
      exact cs_flip Z hI hi hcs kk
    · refine zz_tabIn 45 799 Z.1.1 (off := 754) dL_law_45 (by decide) (by decide) (by decide +kernel) (by decide) ?_
      exact cs_addRange Z hI hi hcs kk
    · refine zz_tabIn 45 879 Z.1.1 (off := 834) dL_law_45 (by decide) (by decide) (by decide +kernel) (by decide) ?_
      exact cs_removeRange Z hI hi hcs kk
    · refine zz_tabIn 45 959 Z.1.1 (off := 914) dL_law_45 (by decide) (by decide) (by decide +kernel) (by decide) ?_
      exact cs_putRange Z hI hi hcs kk
    · refine zz_tabIn 45 1067 Z.1.1 (off := 1022) dL_law_45 (by decide) (by decide) (by decide +kernel) (by decide) ?_
      exact cs_flipRange Z hI hi hcs kk
    · refine zz_tabIn 45 1147 Z.1.1 (off := 1102) dL_law_45 (by decide) (by decide) (by decide +kernel) (by decide) ?_
      exact cs_removeAll Z hI hi hcs kk
    · refine zz_tabIn 45 1203 Z.1.1 (off := 1158) dL_law_45 (by decide) (by decide) (by decide +kernel) (by decide) ?_
      exact cs_renew Z hI hi hcs kk
    · refine zz_tabIn 45 1271 Z.1.1 (off := 1226) dL_law_45 (by decide) (by decide) (by decide +kernel) (by decide) ?_
      exact cs_intersect Z hI hi hcs kk
  · rcases (show k = 16 ∨ k = 17 ∨ k = 18 ∨ k = 19 ∨ k = 20 ∨ k = 21 ∨ k = 22 ∨ k = 23 by omega) with rfl | rfl | rfl | rfl | rfl | rfl | rfl | rfl
    · refine zz_tabIn 45 1339 Z.1.1 (off := 1294) dL_law_45 (by decide) (by decide) (by decide +kernel) (by decide) ?_
      exact cs_unite Z hI hi hcs kk
    · refine zz_tabIn 45 1407 Z.1.1 (off := 1362) dL_law_45 (by decide) (by decide) (by decide +kernel) (by decide) ?_
      exact cs_differ Z hI hi hcs kk
    · refine zz_tabIn 45 1475 Z.1.1 (off := 1430) dL_law_45 (by decide) (by decide) (by decide +kernel) (by decide) ?_
      exact cs_subtract Z hI hi hcs kk
    · refine zz_tabIn 45 1543 Z.1.1 (off := 1498) dL_law_45 (by decide) (by decide) (by decide +kernel) (by decide) ?_
      exact cs_copy Z hI hi hcs kk
    · refine zz_tabIn 45 1611 Z.1.1 (off := 1566) dL_law_45 (by decide) (by decide) (by decide +kernel) (by decide) ?_
      exact cs_takePart Z hI hi hcs kk
    · refine zz_tabIn 45 1703 Z.1.1 (off := 1658) dL_law_45 (by decide) (by decide) (by decide +kernel) (by decide) ?_
      exact cs_shift Z hI hi hcs kk
    · refine zz_tabIn 45 1771 Z.1.1 (off := 1726) dL_law_45 (by decide) (by decide) (by decide +kernel) (by decide) ?_
      exact cs_sieve Z hI hi hcs kk
    · refine zz_tabIn 45 1839 Z.1.1 (off := 1794) dL_law_45 (by decide) (by decide) (by decide +kernel) (by decide) ?_
      exact cs_loadWords Z hI hi hcs kk
  · rcases (show k = 24 ∨ k = 25 ∨ k = 26 ∨ k = 27 ∨ k = 28 ∨ k = 29 ∨ k = 30 ∨ k = 31 by omega) with rfl | rfl | rfl | rfl | rfl | rfl | rfl | rfl
    · refine zz_tabIn 45 2031 Z.1.1 (off := 1986) dL_law_45 (by decide) (by decide) (by decide +kernel) (by decide) ?_
      exact cs_loadTape Z hI hi hcs kk
    · refine zz_tabIn 45 2087 Z.1.1 (off := 2042) dL_law_45 (by decide) (by decide) (by decide +kernel) (by decide) ?_
      exact cs_wordCount Z hI hi hcs kk
    · refine zz_tabIn 45 2143 Z.1.1 (off := 2098) dL_law_45 (by decide) (by decide) (by decide +kernel) (by decide) ?_
      exact cs_wordAt Z hI hi hcs kk
    · refine zz_tabIn 45 2210 Z.1.1 (off := 2165) dL_law_45 (by decide) (by decide) (by decide +kernel) (by decide) ?_
      exact cs_byteCount Z hI hi hcs kk
    · refine zz_tabIn 45 2266 Z.1.1 (off := 2221) dL_law_45 (by decide) (by decide) (by decide +kernel) (by decide) ?_
      exact cs_byteAt Z hI hi hcs kk
    · refine zz_tabIn 45 2334 Z.1.1 (off := 2289) dL_law_45 (by decide) (by decide) (by decide +kernel) (by decide) ?_
      exact cs_fingerprint Z hI hi hcs kk
    · refine zz_tabIn 45 2390 Z.1.1 (off := 2345) dL_law_45 (by decide) (by decide) (by decide +kernel) (by decide) ?_
      exact cs_has Z hI hi hcs kk
    · refine zz_tabIn 45 2465 Z.1.1 (off := 2420) dL_law_45 (by decide) (by decide) (by decide +kernel) (by decide) ?_
      exact cs_count Z hI hi hcs kk
  · rcases (show k = 32 ∨ k = 33 ∨ k = 34 ∨ k = 35 ∨ k = 36 ∨ k = 37 ∨ k = 38 ∨ k = 39 by omega) with rfl | rfl | rfl | rfl | rfl | rfl | rfl | rfl
    · refine zz_tabIn 45 2521 Z.1.1 (off := 2476) dL_law_45 (by decide) (by decide) (by decide +kernel) (by decide) ?_
      exact cs_countIn Z hI hi hcs kk
    · refine zz_tabIn 45 2601 Z.1.1 (off := 2556) dL_law_45 (by decide) (by decide) (by decide +kernel) (by decide) ?_
      exact cs_length Z hI hi hcs kk
    · refine zz_tabIn 45 2657 Z.1.1 (off := 2612) dL_law_45 (by decide) (by decide) (by decide +kernel) (by decide) ?_
      exact cs_isEmpty Z hI hi hcs kk
    · refine zz_tabIn 45 2720 Z.1.1 (off := 2675) dL_law_45 (by decide) (by decide) (by decide +kernel) (by decide) ?_
      exact cs_isRoomy Z hI hi hcs kk
    · refine zz_tabIn 45 2783 Z.1.1 (off := 2738) dL_law_45 (by decide) (by decide) (by decide +kernel) (by decide) ?_
      exact cs_next Z hI hi hcs kk
    · refine zz_tabIn 45 2851 Z.1.1 (off := 2806) dL_law_45 (by decide) (by decide) (by decide +kernel) (by decide) ?_
      exact cs_nextMissing Z hI hi hcs kk
    · refine zz_tabIn 45 2919 Z.1.1 (off := 2874) dL_law_45 (by decide) (by decide) (by decide +kernel) (by decide) ?_
      exact cs_previous Z hI hi hcs kk
    · refine zz_tabIn 45 2987 Z.1.1 (off := 2942) dL_law_45 (by decide) (by decide) (by decide +kernel) (by decide) ?_
      exact cs_previousMissing Z hI hi hcs kk
  · rcases (show k = 40 ∨ k = 41 ∨ k = 42 ∨ k = 43 ∨ k = 44 ∨ k = 45 ∨ k = 46 ∨ k = 47 by omega) with rfl | rfl | rfl | rfl | rfl | rfl | rfl | rfl
    · refine zz_tabIn 45 3055 Z.1.1 (off := 3010) dL_law_45 (by decide) (by decide) (by decide +kernel) (by decide) ?_
      exact cs_memberAt Z hI hi hcs kk
    · refine zz_tabIn 45 3123 Z.1.1 (off := 3078) dL_law_45 (by decide) (by decide) (by decide +kernel) (by decide) ?_
      exact cs_sum Z hI hi hcs kk
    · refine zz_tabIn 45 3178 Z.1.1 (off := 3133) dL_law_45 (by decide) (by decide) (by decide +kernel) (by decide) ?_
      exact cs_runs Z hI hi hcs kk
    · refine zz_tabIn 45 3234 Z.1.1 (off := 3189) dL_law_45 (by decide) (by decide) (by decide +kernel) (by decide) ?_
      exact cs_longestRun Z hI hi hcs kk
    · refine zz_tabIn 45 3290 Z.1.1 (off := 3245) dL_law_45 (by decide) (by decide) (by decide +kernel) (by decide) ?_
      exact cs_areEqual Z hI hi hcs kk
    · refine zz_tabIn 45 3365 Z.1.1 (off := 3320) dL_law_45 (by decide) (by decide) (by decide +kernel) (by decide) ?_
      exact cs_meet Z hI hi hcs kk
    · refine zz_tabIn 45 3440 Z.1.1 (off := 3395) dL_law_45 (by decide) (by decide) (by decide +kernel) (by decide) ?_
      exact cs_isWithin Z hI hi hcs kk
    · refine zz_tabIn 45 3515 Z.1.1 (off := 3470) dL_law_45 (by decide) (by decide) (by decide +kernel) (by decide) ?_
      exact cs_unionCount Z hI hi hcs kk
  · rcases (show k = 48 ∨ k = 49 ∨ k = 50 ∨ k = 51 ∨ k = 52 ∨ k = 53 ∨ k = 54 ∨ k = 55 by omega) with rfl | rfl | rfl | rfl | rfl | rfl | rfl | rfl
    · refine zz_tabIn 45 3583 Z.1.1 (off := 3538) dL_law_45 (by decide) (by decide) (by decide +kernel) (by decide) ?_
      exact cs_distance Z hI hi hcs kk
    · refine zz_tabIn 45 3651 Z.1.1 (off := 3606) dL_law_45 (by decide) (by decide) (by decide +kernel) (by decide) ?_
      exact cs_firstCommon Z hI hi hcs kk
    · refine zz_tabIn 45 3719 Z.1.1 (off := 3674) dL_law_45 (by decide) (by decide) (by decide +kernel) (by decide) ?_
      exact cs_write Z hI hi hcs kk
    · refine zz_tabIn 45 3775 Z.1.1 (off := 3730) dL_law_45 (by decide) (by decide) (by decide +kernel) (by decide) ?_
      exact cs_writtenAt Z hI hi hcs kk
    · refine zz_tabIn 45 3831 Z.1.1 (off := 3786) dL_law_45 (by decide) (by decide) (by decide +kernel) (by decide) ?_
      exact cs_refusals Z hI hi hcs kk
    · refine zz_tabIn 45 3844 Z.1.1 (off := 3799) dL_law_45 (by decide) (by decide) (by decide +kernel) (by decide) ?_
      exact cs_meanCount Z hI hi hcs kk
    · refine zz_tabIn 45 3885 Z.1.1 (off := 3840) dL_law_45 (by decide) (by decide) (by decide +kernel) (by decide) ?_
      exact cs_share Z hI hi hcs kk
    · refine zz_tabIn 45 3975 Z.1.1 (off := 3930) dL_law_45 (by decide) (by decide) (by decide +kernel) (by decide) ?_
      exact cs_errors Z hI hi hcs kk
  · refine zz_tabOut 45 3988 Z.1.1 dL_law_45 (Or.inr (by rw [nI_toInt (by omega)]; omega)) (by decide) ?_
    exact kk u v o od _ _ hI (by omega) (by omega)
set_option maxHeartbeats 8000000 in
set_option maxRecDepth 100000 in
theorem law_loop {p : Program} {l : Launch} {e : Env} {s : State} {m : MethodId} {args : Array Value} {below : List Frame} {meth : Method} {c : Code} {Q : State → Prop} {D : va_G} {C : Nat → ClassId} {cD : ClassId} {K KR : Nat → Nat} {A : Nat → Prop} {adK adV : Nat → Nat} {ao ad b L : Nat} {xs : Nat → Int32} (Z : LCx p l s m args c meth A D C cD K KR adK adV ao ad b L xs) (hx : ∀ (u : CSt) (v : MSt) (o : Int64) (od : UInt64) (cells slots i : Nat), cells ≤ 601024 → slots ≤ 7293033 → ZZ p l e room_1 s m args below meth c cells slots Q A (PL D C cD K KR ao ad u v o od) 10 (lvL b (K 0) (KR 0) ao ad i) [] 3994) : ∀ (d i cells slots : Nat) (u : CSt) (v : MSt) (o : Int64) (od : UInt64), INV u v → i ≤ L → L - i < d → cells + (L - i) + 8 ≤ 601024 → slots + 6 * (L - i) + 48 ≤ 7293033 → ZZ p l e room_1 s m args below meth c cells slots Q A (PL D C cD K KR ao ad u v o od) 10 (lvL b (K 0) (KR 0) ao ad i) [] 28 := by
  intro d
  induction d with
  | zero => intro i cells slots u v o od _ _ hd; exact absurd hd (Nat.not_lt_zero _)
  | succ d ih =>
    intro i cells slots u v o od hI hi hd hc hs
    have hL : L ≤ 4096 := Z.2.2.2.2.2.2.2.2.2.2
    refine zz_iload 28 Z.1.1 5 dL_law_28 rfl ?_
    refine zz_aload_n 30 Z.1.1 0 dL_law_30 rfl ?_
    refine lw_slen 31 Z dL_law_31 ?_
    refine zz_bipush 32 Z.1.1 (v := nI 8) dL_law_32 rfl ?_
    refine zz_isub 34 Z.1.1 (v := nI L - nI 8) dL_law_34 rfl ?_
    refine zz_icmp_gt 35 3994 Z.1.1 (nI_toInt (by omega)) (zi_subN (by omega) (by omega)) dL_law_35 (by decide) (fun h => ?_) (fun h => ?_)
    · exact hx u v o od cells slots i (by omega) (by omega)
    · refine law_body Z hI (by omega) ⟨by show cells + 1 ≤ 601024; omega, by show slots + 6 ≤ 7293033; omega⟩ ?_
      intro u v o od c1 s1 hI hc1 hs1
      refine zz_iinc 3988 Z.1.1 5 (v := nI (i + 8)) (lv' := [(5, .int (nI (i + 8))), (0, .ref b), (1, .ref (K 0)), (2, .ref (KR 0)), (3, .ref ao), (4, .ref ad)]) dL_law_3988 rfl (nI_add i 8) (by decide) rfl ?_
      refine zz_goto 3991 28 Z.1.1 dL_law_3991 (by decide) ?_
      refine zz_lvs [1, 2, 3, 4, 5, 0] rfl ?_
      exact ih (i + 8) c1 s1 u v o od hI (by omega) (by omega) (by omega) (by omega)
