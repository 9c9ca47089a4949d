/-! The pairs. -/
set_option maxHeartbeats 4000000 in
set_option maxRecDepth 100000 in
theorem pr_shift (l : Launch) (hl : l.stackTraces = false) (D : va_G) (C : Nat → ClassId) (cD : ClassId) (K KR adK adV : Nat → Nat) (ao : Nat) (hDA : DAp K) (hRA : RAp KR) (hao : ¬ DAd K ao) (u : CSt) (v : MSt) (o : Int64) (hI : INV u v) (x1 : Int32) (x2 : Int32) : PairI (fun post => LM l yL_shift wsL_shift rw_shift D C cD K adK adV ao (OLn C ao) [.int x1, .int x2] u o post) (fun post => RMi l yX7_shift wsX7_shift rm_X7_shift D C KR [.int x1, .int x2] v.1 v.2.1 v.2.2.1 v.2.2.2 post) Int32.toInt64 := by
  obtain ⟨F, hs, G, T⟩ := u
  obtain ⟨F', hs', mv, G'⟩ := v
  obtain ⟨hh, ⟨h2, h16, h17⟩, ⟨hg3, hg19⟩, ⟨tn, htn, hTu, hTv, hHB⟩, w, hw, hWu, hWv⟩ := hI
  change hs = hs' at hh
  change F 2 = F' 2 at h2
  change F 16 = F' 16 at h16
  change F 17 = F' 17 at h17
  change G 3 = G' 3 at hg3
  change G 19 = G' 19 at hg19
  change F 4 = nI tn at hTu
  change F' 4 = nI tn at hTv
  change HB (G 3) tn at hHB
  change F 20 = nI w at hWu
  change F' 20 = nI w at hWv
  subst hh
  rcases (show ((0 ≤ x1.toInt ∧ x1.toInt < 8) ∧ -1023 ≤ x2.toInt ∧ x2.toInt ≤ 1023) ∨ (¬ (0 ≤ x1.toInt ∧ x1.toInt < 8)) ∨ ((0 ≤ x1.toInt ∧ x1.toInt < 8) ∧ ¬ (-1023 ≤ x2.toInt ∧ x2.toInt ≤ 1023)) by omega) with hc | hc | hc
  · obtain ⟨s0, e0, k0, q0⟩ := zi_ofm (x := x1) rfl (by omega)
    subst e0
    refine ⟨0, (nI (ct (pH (hM hs s0) x2.toInt) 1024)), ((nI (ct (pH (hM hs s0) x2.toInt) 1024)).toInt64), (fun z => z = (F, sS hs s0 (pH (hM hs s0) x2.toInt), G, T)), (fun z => z = (upd F' 0 (nI 0), sS hs s0 (pH (hM hs s0) x2.toInt), mF mv (pH (hM hs s0) x2.toInt) 1024, G')), _, wL_shift_ok l D C cD K adK adV ao hDA hao (F, hs, G, T) o (nI s0) x2 (kt_X6_shift_ok l D C K hDA F hs G T s0 x2 x2.toInt rfl (by omega) (by omega)) (nI (ct (pH (hM hs s0) x2.toInt) 1024)) (fun z => z = (F, sS hs s0 (pH (hM hs s0) x2.toInt), G, T)) (fun r z h => h), (kt_X7_shift_ok l D C KR hRA F' hs mv G' s0 x2 x2.toInt rfl (by omega) (by omega)), fun r z h => h, ?_, by decide, fun _ => rfl⟩
    rintro q z rfl rfl
    exact ⟨rfl, rfl, ⟨h2, h16, h17⟩, ⟨hg3, hg19⟩, ⟨tn, htn, hTu, hTv, hHB⟩, ⟨w, hw, hWu, hWv⟩⟩
  · refine ⟨1, (nI 0), o, (fun z => z = (F, hs, G, T)), (fun z => z = (upd F' 0 (nI 1), hs, mv, G')), _, wL_shift_x1 l D C cD K adK adV ao hDA hao (F, hs, G, T) o x1 x2 (kt_X6_shift_x1 l hl D C K hDA F hs G T x1 x2 x1.toInt rfl (by omega)), (kt_X7_shift_no l D C KR hRA F' hs mv G' x1 x2 x1.toInt x2.toInt rfl rfl (by omega)), fun r z h => h, ?_, by decide, fun z => absurd z (by decide)⟩
    rintro q z rfl rfl
    exact ⟨rfl, rfl, ⟨h2, h16, h17⟩, ⟨hg3, hg19⟩, ⟨tn, htn, hTu, hTv, hHB⟩, ⟨w, hw, hWu, hWv⟩⟩
  · obtain ⟨s0, e0, k0, q0⟩ := zi_ofm (x := x1) rfl (by omega)
    subst e0
    refine ⟨1, (nI 0), o, (fun z => z = (F, hs, G, T)), (fun z => z = (upd F' 0 (nI 1), hs, mv, G')), _, wL_shift_x1 l D C cD K adK adV ao hDA hao (F, hs, G, T) o (nI s0) x2 (kt_X6_shift_x2 l hl D C K hDA F hs G T s0 x2 x2.toInt rfl (by omega) (by omega)), (kt_X7_shift_no l D C KR hRA F' hs mv G' (nI s0) x2 ((nI s0)).toInt x2.toInt rfl rfl (by omega)), fun r z h => h, ?_, by decide, fun z => absurd z (by decide)⟩
    rintro q z rfl rfl
    exact ⟨rfl, rfl, ⟨h2, h16, h17⟩, ⟨hg3, hg19⟩, ⟨tn, htn, hTu, hTv, hHB⟩, ⟨w, hw, hWu, hWv⟩⟩

set_option maxHeartbeats 4000000 in
set_option maxRecDepth 100000 in
theorem pr_sieve (l : Launch) (hl : l.stackTraces = false) (D : va_G) (C : Nat → ClassId) (cD : ClassId) (K KR adK adV : Nat → Nat) (ao : Nat) (hDA : DAp K) (hRA : RAp KR) (hao : ¬ DAd K ao) (u : CSt) (v : MSt) (o : Int64) (hI : INV u v) (x1 : Int32) (x2 : Int32) : PairI (fun post => LM l yL_sieve wsL_sieve rw_sieve D C cD K adK adV ao (OLn C ao) [.int x1, .int x2] u o post) (fun post => RMi l yX7_sieve wsX7_sieve rm_X7_sieve D C KR [.int x1, .int x2] v.1 v.2.1 v.2.2.1 v.2.2.2 post) Int32.toInt64 := by
  obtain ⟨F, hs, G, T⟩ := u
  obtain ⟨F', hs', mv, G'⟩ := v
  obtain ⟨hh, ⟨h2, h16, h17⟩, ⟨hg3, hg19⟩, ⟨tn, htn, hTu, hTv, hHB⟩, w, hw, hWu, hWv⟩ := hI
  change hs = hs' at hh
  change F 2 = F' 2 at h2
  change F 16 = F' 16 at h16
  change F 17 = F' 17 at h17
  change G 3 = G' 3 at hg3
  change G 19 = G' 19 at hg19
  change F 4 = nI tn at hTu
  change F' 4 = nI tn at hTv
  change HB (G 3) tn at hHB
  change F 20 = nI w at hWu
  change F' 20 = nI w at hWv
  subst hh
  rcases (show ((0 ≤ x1.toInt ∧ x1.toInt < 8) ∧ 0 ≤ x2.toInt ∧ x2.toInt ≤ 1024) ∨ (¬ (0 ≤ x1.toInt ∧ x1.toInt < 8)) ∨ ((0 ≤ x1.toInt ∧ x1.toInt < 8) ∧ ¬ (0 ≤ x2.toInt ∧ x2.toInt ≤ 1024)) by omega) with hc | hc | hc
  · obtain ⟨s0, e0, k0, q0⟩ := zi_ofm (x := x1) rfl (by omega)
    subst e0
    obtain ⟨t, e1, k1, q1⟩ := zi_ofm (x := x2) rfl (by omega)
    subst e1
    refine ⟨0, (nI (ct (fun i => decide (i < t) && pr i) 1024)), ((nI (ct (fun i => decide (i < t) && pr i) 1024)).toInt64), (fun z => z = (F, sS hs s0 (fun i => decide (i < t) && pr i), G, T)), (fun z => z = (upd F' 0 (nI 0), sS hs s0 (fun i => decide (i < t) && pr i), mv, G')), _, wL_sieve_ok l D C cD K adK adV ao hDA hao (F, hs, G, T) o (nI s0) (nI t) (kt_X6_sieve_ok l D C K hDA F hs G T s0 t (by omega) (by omega)) (nI (ct (fun i => decide (i < t) && pr i) 1024)) (fun z => z = (F, sS hs s0 (fun i => decide (i < t) && pr i), G, T)) (fun r z h => h), (kt_X7_sieve_ok l D C KR hRA F' hs mv G' s0 t (by omega) (by omega)), fun r z h => h, ?_, by decide, fun _ => rfl⟩
    rintro q z rfl rfl
    exact ⟨rfl, rfl, ⟨h2, h16, h17⟩, ⟨hg3, hg19⟩, ⟨tn, htn, hTu, hTv, hHB⟩, ⟨w, hw, hWu, hWv⟩⟩
  · refine ⟨1, (nI 0), o, (fun z => z = (F, hs, G, T)), (fun z => z = (upd F' 0 (nI 1), hs, mv, G')), _, wL_sieve_x1 l D C cD K adK adV ao hDA hao (F, hs, G, T) o x1 x2 (kt_X6_sieve_x1 l hl D C K hDA F hs G T x1 x2 x1.toInt rfl (by omega)), (kt_X7_sieve_no l D C KR hRA F' hs mv G' x1 x2 x1.toInt x2.toInt rfl rfl (by omega)), fun r z h => h, ?_, by decide, fun z => absurd z (by decide)⟩
    rintro q z rfl rfl
    exact ⟨rfl, rfl, ⟨h2, h16, h17⟩, ⟨hg3, hg19⟩, ⟨tn, htn, hTu, hTv, hHB⟩, ⟨w, hw, hWu, hWv⟩⟩
  · obtain ⟨s0, e0, k0, q0⟩ := zi_ofm (x := x1) rfl (by omega)
    subst e0
    refine ⟨1, (nI 0), o, (fun z => z = (F, hs, G, T)), (fun z => z = (upd F' 0 (nI 1), hs, mv, G')), _, wL_sieve_x1 l D C cD K adK adV ao hDA hao (F, hs, G, T) o (nI s0) x2 (kt_X6_sieve_x2 l hl D C K hDA F hs G T s0 x2 x2.toInt rfl (by omega) (by omega)), (kt_X7_sieve_no l D C KR hRA F' hs mv G' (nI s0) x2 ((nI s0)).toInt x2.toInt rfl rfl (by omega)), fun r z h => h, ?_, by decide, fun z => absurd z (by decide)⟩
    rintro q z rfl rfl
    exact ⟨rfl, rfl, ⟨h2, h16, h17⟩, ⟨hg3, hg19⟩, ⟨tn, htn, hTu, hTv, hHB⟩, ⟨w, hw, hWu, hWv⟩⟩

set_option maxHeartbeats 4000000 in
set_option maxRecDepth 100000 in
theorem pr_loadWords (l : Launch) (hl : l.stackTraces = false) (D : va_G) (C : Nat → ClassId) (cD : ClassId) (K KR adK adV : Nat → Nat) (ao : Nat) (hDA : DAp K) (hRA : RAp KR) (hao : ¬ DAd K ao) (u : CSt) (v : MSt) (o : Int64) (hI : INV u v) (x1 : Int32) (x2 : Int64) (x3 : Int64) (x4 : Int64) : PairI (fun post => LM l yL_loadWords wsL_loadWords rw_loadWords D C cD K adK adV ao (OLn C ao) [.int x1, .long x2, .long x3, .long x4] u o post) (fun post => RMi l yX7_loadWords wsX7_loadWords rm_X7_loadWords D C KR [.int x1, .long x2, .long x3, .long x4] v.1 v.2.1 v.2.2.1 v.2.2.2 post) Int32.toInt64 := by
  obtain ⟨F, hs, G, T⟩ := u
  obtain ⟨F', hs', mv, G'⟩ := v
  obtain ⟨hh, ⟨h2, h16, h17⟩, ⟨hg3, hg19⟩, ⟨tn, htn, hTu, hTv, hHB⟩, w, hw, hWu, hWv⟩ := hI
  change hs = hs' at hh
  change F 2 = F' 2 at h2
  change F 16 = F' 16 at h16
  change F 17 = F' 17 at h17
  change G 3 = G' 3 at hg3
  change G 19 = G' 19 at hg19
  change F 4 = nI tn at hTu
  change F' 4 = nI tn at hTv
  change HB (G 3) tn at hHB
  change F 20 = nI w at hWu
  change F' 20 = nI w at hWv
  subst hh
  rcases (show (0 ≤ x1.toInt ∧ x1.toInt < 8) ∨ (¬ (0 ≤ x1.toInt ∧ x1.toInt < 8)) by omega) with hc | hc
  · obtain ⟨s0, e0, k0, q0⟩ := zi_ofm (x := x1) rfl (by omega)
    subst e0
    refine ⟨0, (nI (ln (pW3 x2 x3 x4) 1024)), ((nI (ln (pW3 x2 x3 x4) 1024)).toInt64), (fun z => z = (F, sS hs s0 (pW3 x2 x3 x4), G, T)), (fun z => z = (upd F' 0 (nI 0), sS hs s0 (pW3 x2 x3 x4), mv, G')), _, wL_loadWords_ok l D C cD K adK adV ao hDA hao (F, hs, G, T) o (nI s0) x2 x3 x4 (kt_X6_loadWords_ok l D C K hDA F hs G T s0 x2 x3 x4 (by omega)) (nI (ln (pW3 x2 x3 x4) 1024)) (fun z => z = (F, sS hs s0 (pW3 x2 x3 x4), G, T)) (fun r z h => h), (kt_X7_loadWords_ok l D C KR hRA F' hs mv G' s0 x2 x3 x4 (by omega)), fun r z h => h, ?_, by decide, fun _ => rfl⟩
    rintro q z rfl rfl
    exact ⟨rfl, rfl, ⟨h2, h16, h17⟩, ⟨hg3, hg19⟩, ⟨tn, htn, hTu, hTv, hHB⟩, ⟨w, hw, hWu, hWv⟩⟩
  · refine ⟨1, (nI 0), o, (fun z => z = (F, hs, G, T)), (fun z => z = (upd F' 0 (nI 1), hs, mv, G')), _, wL_loadWords_x1 l D C cD K adK adV ao hDA hao (F, hs, G, T) o x1 x2 x3 x4 (kt_X6_loadWords_x1 l hl D C K hDA F hs G T x1 x2 x3 x4 x1.toInt rfl (by omega)), (kt_X7_loadWords_no l D C KR hRA F' hs mv G' x1 x2 x3 x4 x1.toInt rfl (by omega)), fun r z h => h, ?_, by decide, fun z => absurd z (by decide)⟩
    rintro q z rfl rfl
    exact ⟨rfl, rfl, ⟨h2, h16, h17⟩, ⟨hg3, hg19⟩, ⟨tn, htn, hTu, hTv, hHB⟩, ⟨w, hw, hWu, hWv⟩⟩

set_option maxHeartbeats 4000000 in
set_option maxRecDepth 100000 in
theorem pr_loadTape (l : Launch) (hl : l.stackTraces = false) (D : va_G) (C : Nat → ClassId) (cD : ClassId) (K KR adK adV : Nat → Nat) (ao : Nat) (hDA : DAp K) (hRA : RAp KR) (hao : ¬ DAd K ao) (u : CSt) (v : MSt) (o : Int64) (hI : INV u v) (x1 : Int32) : PairI (fun post => LM l yL_loadTape wsL_loadTape rw_loadTape D C cD K adK adV ao (OLn C ao) [.int x1] u o post) (fun post => RMi l yX7_loadTape wsX7_loadTape rm_X7_loadTape D C KR [.int x1] v.1 v.2.1 v.2.2.1 v.2.2.2 post) Int32.toInt64 := by
  obtain ⟨F, hs, G, T⟩ := u
  obtain ⟨F', hs', mv, G'⟩ := v
  obtain ⟨hh, ⟨h2, h16, h17⟩, ⟨hg3, hg19⟩, ⟨tn, htn, hTu, hTv, hHB⟩, w, hw, hWu, hWv⟩ := hI
  change hs = hs' at hh
  change F 2 = F' 2 at h2
  change F 16 = F' 16 at h16
  change F 17 = F' 17 at h17
  change G 3 = G' 3 at hg3
  change G 19 = G' 19 at hg19
  change F 4 = nI tn at hTu
  change F' 4 = nI tn at hTv
  change HB (G 3) tn at hHB
  change F 20 = nI w at hWu
  change F' 20 = nI w at hWv
  subst hh
  rcases (show ((0 ≤ x1.toInt ∧ x1.toInt < 8) ∧ tn ≤ 128) ∨ (¬ (0 ≤ x1.toInt ∧ x1.toInt < 8)) ∨ ((0 ≤ x1.toInt ∧ x1.toInt < 8) ∧ 128 < tn) by omega) with hc | hc | hc
  · obtain ⟨s0, e0, k0, q0⟩ := zi_ofm (x := x1) rfl (by omega)
    subst e0
    refine ⟨0, (nI (ln (pTp (G' 3) tn) 1024)), ((nI (ln (pTp (G 3) tn) 1024)).toInt64), (fun z => z = (upd F 4 (nI 0), sS hs s0 (pTp (G 3) tn), G, T)), (fun z => z = (upd (upd F' 0 (nI 0)) 4 (nI 0), sS hs s0 (pTp (G' 3) tn), mv, G')), _, wL_loadTape_ok l D C cD K adK adV ao hDA hao (F, hs, G, T) o (nI s0) (kt_X6_loadTape_ok l D C K hDA F hs G T s0 tn (by omega) hTu (by omega) hHB) (nI (ln (pTp (G 3) tn) 1024)) (fun z => z = (upd F 4 (nI 0), sS hs s0 (pTp (G 3) tn), G, T)) (fun r z h => h), (kt_X7_loadTape_ok l D C KR hRA F' hs mv G' s0 tn (by omega) hTv htn (by omega)), fun r z h => h, ?_, by decide, fun _ => by rw [hg3]⟩
    rintro q z rfl rfl
    exact ⟨rfl, (by rw [hg3] <;> rfl), ⟨h2, h16, h17⟩, ⟨hg3, hg19⟩, ⟨0, by omega, rfl, rfl, fun j hj => absurd hj (Nat.not_lt_zero j)⟩, ⟨w, hw, hWu, hWv⟩⟩
  · refine ⟨1, (nI 0), o, (fun z => z = (F, hs, G, T)), (fun z => z = (upd F' 0 (nI 1), hs, mv, G')), _, wL_loadTape_x1 l D C cD K adK adV ao hDA hao (F, hs, G, T) o x1 (kt_X6_loadTape_x1 l hl D C K hDA F hs G T x1 x1.toInt rfl (by omega)), (kt_X7_loadTape_no l D C KR hRA F' hs mv G' x1 x1.toInt rfl (by omega)), fun r z h => h, ?_, by decide, fun z => absurd z (by decide)⟩
    rintro q z rfl rfl
    exact ⟨rfl, rfl, ⟨h2, h16, h17⟩, ⟨hg3, hg19⟩, ⟨tn, htn, hTu, hTv, hHB⟩, ⟨w, hw, hWu, hWv⟩⟩
  · obtain ⟨s0, e0, k0, q0⟩ := zi_ofm (x := x1) rfl (by omega)
    subst e0
    refine ⟨2, (nI 0), o, (fun z => z = (F, hs, G, T)), (fun z => z = (upd F' 0 (nI 2), hs, mv, G')), _, wL_loadTape_x2 l D C cD K adK adV ao hDA hao (F, hs, G, T) o (nI s0) (kt_X6_loadTape_x2 l hl D C K hDA F hs G T s0 tn (by omega) hTu htn (by omega)), (kt_X7_loadTape_no2 l D C KR hRA F' hs mv G' s0 tn (by omega) hTv htn (by omega)), fun r z h => h, ?_, by decide, fun z => absurd z (by decide)⟩
    rintro q z rfl rfl
    exact ⟨rfl, rfl, ⟨h2, h16, h17⟩, ⟨hg3, hg19⟩, ⟨tn, htn, hTu, hTv, hHB⟩, ⟨w, hw, hWu, hWv⟩⟩

set_option maxHeartbeats 4000000 in
set_option maxRecDepth 100000 in
theorem pr_wordCount (l : Launch) (hl : l.stackTraces = false) (D : va_G) (C : Nat → ClassId) (cD : ClassId) (K KR adK adV : Nat → Nat) (ao : Nat) (hDA : DAp K) (hRA : RAp KR) (hao : ¬ DAd K ao) (u : CSt) (v : MSt) (o : Int64) (hI : INV u v) (x1 : Int32) : PairI (fun post => LM l yL_wordCount wsL_wordCount rw_wordCount D C cD K adK adV ao (OLn C ao) [.int x1] u o post) (fun post => RMi l yX7_wordCount wsX7_wordCount rm_X7_wordCount D C KR [.int x1] v.1 v.2.1 v.2.2.1 v.2.2.2 post) Int32.toInt64 := by
  obtain ⟨F, hs, G, T⟩ := u
  obtain ⟨F', hs', mv, G'⟩ := v
  obtain ⟨hh, ⟨h2, h16, h17⟩, ⟨hg3, hg19⟩, ⟨tn, htn, hTu, hTv, hHB⟩, w, hw, hWu, hWv⟩ := hI
  change hs = hs' at hh
  change F 2 = F' 2 at h2
  change F 16 = F' 16 at h16
  change F 17 = F' 17 at h17
  change G 3 = G' 3 at hg3
  change G 19 = G' 19 at hg19
  change F 4 = nI tn at hTu
  change F' 4 = nI tn at hTv
  change HB (G 3) tn at hHB
  change F 20 = nI w at hWu
  change F' 20 = nI w at hWv
  subst hh
  rcases (show (0 ≤ x1.toInt ∧ x1.toInt < 8) ∨ (¬ (0 ≤ x1.toInt ∧ x1.toInt < 8)) by omega) with hc | hc
  · obtain ⟨s0, e0, k0, q0⟩ := zi_ofm (x := x1) rfl (by omega)
    subst e0
    refine ⟨0, (nI ((ln (hM hs s0) 1024 + 63) / 64)), ((nI ((ln (hM hs s0) 1024 + 63) / 64)).toInt64), (fun z => z = (F, hs, G, T)), (fun z => z = (upd F' 0 (nI 0), hs, mv, G')), _, wL_wordCount_ok l D C cD K adK adV ao hDA hao (F, hs, G, T) o (nI s0) (kt_X6_wordCount_ok l D C K hDA F hs G T s0 (by omega)) (nI ((ln (hM hs s0) 1024 + 63) / 64)) (fun z => z = (F, hs, G, T)) (fun r z h => h), (kt_X7_wordCount_ok l D C KR hRA F' hs mv G' s0 (by omega)), fun r z h => h, ?_, by decide, fun _ => rfl⟩
    rintro q z rfl rfl
    exact ⟨rfl, rfl, ⟨h2, h16, h17⟩, ⟨hg3, hg19⟩, ⟨tn, htn, hTu, hTv, hHB⟩, ⟨w, hw, hWu, hWv⟩⟩
  · refine ⟨1, (nI 0), o, (fun z => z = (F, hs, G, T)), (fun z => z = (upd F' 0 (nI 1), hs, mv, G')), _, wL_wordCount_x1 l D C cD K adK adV ao hDA hao (F, hs, G, T) o x1 (kt_X6_wordCount_x1 l hl D C K hDA F hs G T x1 x1.toInt rfl (by omega)), (kt_X7_wordCount_no l D C KR hRA F' hs mv G' x1 x1.toInt rfl (by omega)), fun r z h => h, ?_, by decide, fun z => absurd z (by decide)⟩
    rintro q z rfl rfl
    exact ⟨rfl, rfl, ⟨h2, h16, h17⟩, ⟨hg3, hg19⟩, ⟨tn, htn, hTu, hTv, hHB⟩, ⟨w, hw, hWu, hWv⟩⟩

set_option maxHeartbeats 4000000 in
set_option maxRecDepth 100000 in
theorem pr_wordAt (l : Launch) (hl : l.stackTraces = false) (D : va_G) (C : Nat → ClassId) (cD : ClassId) (K KR adK adV : Nat → Nat) (ao : Nat) (hDA : DAp K) (hRA : RAp KR) (hao : ¬ DAd K ao) (u : CSt) (v : MSt) (o : Int64) (hI : INV u v) (x1 : Int32) (x2 : Int32) : PairI (fun post => LM l yL_wordAt wsL_wordAt rw_wordAt D C cD K adK adV ao (OLn C ao) [.int x1, .int x2] u o post) (fun post => RMl l yX7_wordAt wsX7_wordAt rm_X7_wordAt D C KR [.int x1, .int x2] v.1 v.2.1 v.2.2.1 v.2.2.2 post) (fun r => r) := by
  obtain ⟨F, hs, G, T⟩ := u
  obtain ⟨F', hs', mv, G'⟩ := v
  obtain ⟨hh, ⟨h2, h16, h17⟩, ⟨hg3, hg19⟩, ⟨tn, htn, hTu, hTv, hHB⟩, w, hw, hWu, hWv⟩ := hI
  change hs = hs' at hh
  change F 2 = F' 2 at h2
  change F 16 = F' 16 at h16
  change F 17 = F' 17 at h17
  change G 3 = G' 3 at hg3
  change G 19 = G' 19 at hg19
  change F 4 = nI tn at hTu
  change F' 4 = nI tn at hTv
  change HB (G 3) tn at hHB
  change F 20 = nI w at hWu
  change F' 20 = nI w at hWv
  subst hh
  rcases (show (0 ≤ x1.toInt ∧ x1.toInt < 8) ∨ (¬ (0 ≤ x1.toInt ∧ x1.toInt < 8)) by omega) with hc | hc
  · obtain ⟨s0, e0, k0, q0⟩ := zi_ofm (x := x1) rfl (by omega)
    subst e0
    have hs0 : s0 < 8 := by omega
    rcases Classical.em (0 ≤ x2.toInt ∧ x2.toInt < ((((ln (hM hs s0) 1024 + 63) / 64 : Nat)) : Int)) with hd | hd
    · obtain ⟨k2, e1, k1, q1⟩ := zi_ofm (x := x2) rfl hd.1
      subst e1
      refine ⟨0, (lN (nB (hM hs s0) (64 * k2) 64)), (lN (nB (hM hs s0) (64 * k2) 64)), (fun z => z = (F, hs, G, T)), (fun z => z = (upd F' 0 (nI 0), hs, mv, G')), _, wL_wordAt_ok l D C cD K adK adV ao hDA hao (F, hs, G, T) o (nI s0) (nI k2) (kt_X6_wordAt_ok l D C K hDA F hs G T s0 k2 (by omega) (by omega)) (lN (nB (hM hs s0) (64 * k2) 64)) (fun z => z = (F, hs, G, T)) (fun r z h => h), (kt_X7_wordAt_ok l D C KR hRA F' hs mv G' s0 k2 (by omega) (by omega)), fun r z h => h, ?_, by decide, fun _ => rfl⟩
      rintro q z rfl rfl
      exact ⟨rfl, rfl, ⟨h2, h16, h17⟩, ⟨hg3, hg19⟩, ⟨tn, htn, hTu, hTv, hHB⟩, ⟨w, hw, hWu, hWv⟩⟩
    · refine ⟨2, 0, o, (fun z => z = (F, hs, G, T)), (fun z => z = (upd F' 0 (nI 2), hs, mv, G')), _, wL_wordAt_x2 l D C cD K adK adV ao hDA hao (F, hs, G, T) o (nI s0) x2 (kt_X6_wordAt_x2 l hl D C K hDA F hs G T s0 x2 x2.toInt rfl (by omega) hd), (kt_X7_wordAt_no2 l D C KR hRA F' hs mv G' s0 x2 x2.toInt rfl (by omega) hd), fun r z h => h, ?_, by decide, fun z => absurd z (by decide)⟩
      rintro q z rfl rfl
      exact ⟨rfl, rfl, ⟨h2, h16, h17⟩, ⟨hg3, hg19⟩, ⟨tn, htn, hTu, hTv, hHB⟩, ⟨w, hw, hWu, hWv⟩⟩
  · refine ⟨1, 0, o, (fun z => z = (F, hs, G, T)), (fun z => z = (upd F' 0 (nI 1), hs, mv, G')), _, wL_wordAt_x1 l D C cD K adK adV ao hDA hao (F, hs, G, T) o x1 x2 (kt_X6_wordAt_x1 l hl D C K hDA F hs G T x1 x2 x1.toInt rfl (by omega)), (kt_X7_wordAt_no l D C KR hRA F' hs mv G' x1 x2 x1.toInt rfl (by omega)), fun r z h => h, ?_, by decide, fun z => absurd z (by decide)⟩
    rintro q z rfl rfl
    exact ⟨rfl, rfl, ⟨h2, h16, h17⟩, ⟨hg3, hg19⟩, ⟨tn, htn, hTu, hTv, hHB⟩, ⟨w, hw, hWu, hWv⟩⟩

set_option maxHeartbeats 4000000 in
set_option maxRecDepth 100000 in
theorem pr_byteCount (l : Launch) (hl : l.stackTraces = false) (D : va_G) (C : Nat → ClassId) (cD : ClassId) (K KR adK adV : Nat → Nat) (ao : Nat) (hDA : DAp K) (hRA : RAp KR) (hao : ¬ DAd K ao) (u : CSt) (v : MSt) (o : Int64) (hI : INV u v) (x1 : Int32) : PairI (fun post => LM l yL_byteCount wsL_byteCount rw_byteCount D C cD K adK adV ao (OLn C ao) [.int x1] u o post) (fun post => RMi l yX7_byteCount wsX7_byteCount rm_X7_byteCount D C KR [.int x1] v.1 v.2.1 v.2.2.1 v.2.2.2 post) Int32.toInt64 := by
  obtain ⟨F, hs, G, T⟩ := u
  obtain ⟨F', hs', mv, G'⟩ := v
  obtain ⟨hh, ⟨h2, h16, h17⟩, ⟨hg3, hg19⟩, ⟨tn, htn, hTu, hTv, hHB⟩, w, hw, hWu, hWv⟩ := hI
  change hs = hs' at hh
  change F 2 = F' 2 at h2
  change F 16 = F' 16 at h16
  change F 17 = F' 17 at h17
  change G 3 = G' 3 at hg3
  change G 19 = G' 19 at hg19
  change F 4 = nI tn at hTu
  change F' 4 = nI tn at hTv
  change HB (G 3) tn at hHB
  change F 20 = nI w at hWu
  change F' 20 = nI w at hWv
  subst hh
  rcases (show (0 ≤ x1.toInt ∧ x1.toInt < 8) ∨ (¬ (0 ≤ x1.toInt ∧ x1.toInt < 8)) by omega) with hc | hc
  · obtain ⟨s0, e0, k0, q0⟩ := zi_ofm (x := x1) rfl (by omega)
    subst e0
    refine ⟨0, (nI ((ln (hM hs s0) 1024 + 7) / 8)), ((nI ((ln (hM hs s0) 1024 + 7) / 8)).toInt64), (fun z => z = (F, hs, G, T)), (fun z => z = (upd F' 0 (nI 0), hs, mv, G')), _, wL_byteCount_ok l D C cD K adK adV ao hDA hao (F, hs, G, T) o (nI s0) (kt_X6_byteCount_ok l D C K hDA F hs G T s0 (by omega)) (nI ((ln (hM hs s0) 1024 + 7) / 8)) (fun z => z = (F, hs, G, T)) (fun r z h => h), (kt_X7_byteCount_ok l D C KR hRA F' hs mv G' s0 (by omega)), fun r z h => h, ?_, by decide, fun _ => rfl⟩
    rintro q z rfl rfl
    exact ⟨rfl, rfl, ⟨h2, h16, h17⟩, ⟨hg3, hg19⟩, ⟨tn, htn, hTu, hTv, hHB⟩, ⟨w, hw, hWu, hWv⟩⟩
  · refine ⟨1, (nI 0), o, (fun z => z = (F, hs, G, T)), (fun z => z = (upd F' 0 (nI 1), hs, mv, G')), _, wL_byteCount_x1 l D C cD K adK adV ao hDA hao (F, hs, G, T) o x1 (kt_X6_byteCount_x1 l hl D C K hDA F hs G T x1 x1.toInt rfl (by omega)), (kt_X7_byteCount_no l D C KR hRA F' hs mv G' x1 x1.toInt rfl (by omega)), fun r z h => h, ?_, by decide, fun z => absurd z (by decide)⟩
    rintro q z rfl rfl
    exact ⟨rfl, rfl, ⟨h2, h16, h17⟩, ⟨hg3, hg19⟩, ⟨tn, htn, hTu, hTv, hHB⟩, ⟨w, hw, hWu, hWv⟩⟩

set_option maxHeartbeats 4000000 in
set_option maxRecDepth 100000 in
theorem pr_byteAt (l : Launch) (hl : l.stackTraces = false) (D : va_G) (C : Nat → ClassId) (cD : ClassId) (K KR adK adV : Nat → Nat) (ao : Nat) (hDA : DAp K) (hRA : RAp KR) (hao : ¬ DAd K ao) (u : CSt) (v : MSt) (o : Int64) (hI : INV u v) (x1 : Int32) (x2 : Int32) : PairI (fun post => LM l yL_byteAt wsL_byteAt rw_byteAt D C cD K adK adV ao (OLn C ao) [.int x1, .int x2] u o post) (fun post => RMi l yX7_byteAt wsX7_byteAt rm_X7_byteAt D C KR [.int x1, .int x2] v.1 v.2.1 v.2.2.1 v.2.2.2 post) Int32.toInt64 := by
  obtain ⟨F, hs, G, T⟩ := u
  obtain ⟨F', hs', mv, G'⟩ := v
  obtain ⟨hh, ⟨h2, h16, h17⟩, ⟨hg3, hg19⟩, ⟨tn, htn, hTu, hTv, hHB⟩, w, hw, hWu, hWv⟩ := hI
  change hs = hs' at hh
  change F 2 = F' 2 at h2
  change F 16 = F' 16 at h16
  change F 17 = F' 17 at h17
  change G 3 = G' 3 at hg3
  change G 19 = G' 19 at hg19
  change F 4 = nI tn at hTu
  change F' 4 = nI tn at hTv
  change HB (G 3) tn at hHB
  change F 20 = nI w at hWu
  change F' 20 = nI w at hWv
  subst hh
  rcases (show (0 ≤ x1.toInt ∧ x1.toInt < 8) ∨ (¬ (0 ≤ x1.toInt ∧ x1.toInt < 8)) by omega) with hc | hc
  · obtain ⟨s0, e0, k0, q0⟩ := zi_ofm (x := x1) rfl (by omega)
    subst e0
    have hs0 : s0 < 8 := by omega
    rcases Classical.em (0 ≤ x2.toInt ∧ x2.toInt < ((((ln (hM hs s0) 1024 + 7) / 8 : Nat)) : Int)) with hd | hd
    · obtain ⟨k2, e1, k1, q1⟩ := zi_ofm (x := x2) rfl hd.1
      subst e1
      refine ⟨0, ((lN (nB (hM hs s0) (8 * k2) 8)).toInt32), (((lN (nB (hM hs s0) (8 * k2) 8)).toInt32).toInt64), (fun z => z = (F, hs, G, T)), (fun z => z = (upd F' 0 (nI 0), hs, mv, G')), _, wL_byteAt_ok l D C cD K adK adV ao hDA hao (F, hs, G, T) o (nI s0) (nI k2) (kt_X6_byteAt_ok l D C K hDA F hs G T s0 k2 (by omega) (by omega)) ((lN (nB (hM hs s0) (8 * k2) 8)).toInt32) (fun z => z = (F, hs, G, T)) (fun r z h => h), (kt_X7_byteAt_ok l D C KR hRA F' hs mv G' s0 k2 (by omega) (by omega)), fun r z h => h, ?_, by decide, fun _ => rfl⟩
      rintro q z rfl rfl
      exact ⟨rfl, rfl, ⟨h2, h16, h17⟩, ⟨hg3, hg19⟩, ⟨tn, htn, hTu, hTv, hHB⟩, ⟨w, hw, hWu, hWv⟩⟩
    · refine ⟨2, (nI 0), o, (fun z => z = (F, hs, G, T)), (fun z => z = (upd F' 0 (nI 2), hs, mv, G')), _, wL_byteAt_x2 l D C cD K adK adV ao hDA hao (F, hs, G, T) o (nI s0) x2 (kt_X6_byteAt_x2 l hl D C K hDA F hs G T s0 x2 x2.toInt rfl (by omega) hd), (kt_X7_byteAt_no2 l D C KR hRA F' hs mv G' s0 x2 x2.toInt rfl (by omega) hd), fun r z h => h, ?_, by decide, fun z => absurd z (by decide)⟩
      rintro q z rfl rfl
      exact ⟨rfl, rfl, ⟨h2, h16, h17⟩, ⟨hg3, hg19⟩, ⟨tn, htn, hTu, hTv, hHB⟩, ⟨w, hw, hWu, hWv⟩⟩
  · refine ⟨1, (nI 0), o, (fun z => z = (F, hs, G, T)), (fun z => z = (upd F' 0 (nI 1), hs, mv, G')), _, wL_byteAt_x1 l D C cD K adK adV ao hDA hao (F, hs, G, T) o x1 x2 (kt_X6_byteAt_x1 l hl D C K hDA F hs G T x1 x2 x1.toInt rfl (by omega)), (kt_X7_byteAt_no l D C KR hRA F' hs mv G' x1 x2 x1.toInt rfl (by omega)), fun r z h => h, ?_, by decide, fun z => absurd z (by decide)⟩
    rintro q z rfl rfl
    exact ⟨rfl, rfl, ⟨h2, h16, h17⟩, ⟨hg3, hg19⟩, ⟨tn, htn, hTu, hTv, hHB⟩, ⟨w, hw, hWu, hWv⟩⟩

set_option maxHeartbeats 4000000 in
set_option maxRecDepth 100000 in
theorem pr_fingerprint (l : Launch) (hl : l.stackTraces = false) (D : va_G) (C : Nat → ClassId) (cD : ClassId) (K KR adK adV : Nat → Nat) (ao : Nat) (hDA : DAp K) (hRA : RAp KR) (hao : ¬ DAd K ao) (u : CSt) (v : MSt) (o : Int64) (hI : INV u v) (x1 : Int32) : PairI (fun post => LM l yL_fingerprint wsL_fingerprint rw_fingerprint D C cD K adK adV ao (OLn C ao) [.int x1] u o post) (fun post => RMi l yX7_fingerprint wsX7_fingerprint rm_X7_fingerprint D C KR [.int x1] v.1 v.2.1 v.2.2.1 v.2.2.2 post) Int32.toInt64 := by
  obtain ⟨F, hs, G, T⟩ := u
  obtain ⟨F', hs', mv, G'⟩ := v
  obtain ⟨hh, ⟨h2, h16, h17⟩, ⟨hg3, hg19⟩, ⟨tn, htn, hTu, hTv, hHB⟩, w, hw, hWu, hWv⟩ := hI
  change hs = hs' at hh
  change F 2 = F' 2 at h2
  change F 16 = F' 16 at h16
  change F 17 = F' 17 at h17
  change G 3 = G' 3 at hg3
  change G 19 = G' 19 at hg19
  change F 4 = nI tn at hTu
  change F' 4 = nI tn at hTv
  change HB (G 3) tn at hHB
  change F 20 = nI w at hWu
  change F' 20 = nI w at hWv
  subst hh
  rcases (show (0 ≤ x1.toInt ∧ x1.toInt < 8) ∨ (¬ (0 ≤ x1.toInt ∧ x1.toInt < 8)) by omega) with hc | hc
  · obtain ⟨s0, e0, k0, q0⟩ := zi_ofm (x := x1) rfl (by omega)
    subst e0
    refine ⟨0, (fpr (hM hs s0)), ((fpr (hM hs s0)).toInt64), (fun z => z = (F, hs, G, T)), (fun z => z = (upd F' 0 (nI 0), hs, mv, G')), _, wL_fingerprint_ok l D C cD K adK adV ao hDA hao (F, hs, G, T) o (nI s0) (kt_X6_fingerprint_ok l D C K hDA F hs G T s0 (by omega)) (fpr (hM hs s0)) (fun z => z = (F, hs, G, T)) (fun r z h => h), (kt_X7_fingerprint_ok l D C KR hRA F' hs mv G' s0 (by omega)), fun r z h => h, ?_, by decide, fun _ => rfl⟩
    rintro q z rfl rfl
    exact ⟨rfl, rfl, ⟨h2, h16, h17⟩, ⟨hg3, hg19⟩, ⟨tn, htn, hTu, hTv, hHB⟩, ⟨w, hw, hWu, hWv⟩⟩
  · refine ⟨1, (nI 0), o, (fun z => z = (F, hs, G, T)), (fun z => z = (upd F' 0 (nI 1), hs, mv, G')), _, wL_fingerprint_x1 l D C cD K adK adV ao hDA hao (F, hs, G, T) o x1 (kt_X6_fingerprint_x1 l hl D C K hDA F hs G T x1 x1.toInt rfl (by omega)), (kt_X7_fingerprint_no l D C KR hRA F' hs mv G' x1 x1.toInt rfl (by omega)), fun r z h => h, ?_, by decide, fun z => absurd z (by decide)⟩
    rintro q z rfl rfl
    exact ⟨rfl, rfl, ⟨h2, h16, h17⟩, ⟨hg3, hg19⟩, ⟨tn, htn, hTu, hTv, hHB⟩, ⟨w, hw, hWu, hWv⟩⟩

set_option maxHeartbeats 4000000 in
set_option maxRecDepth 100000 in
theorem pr_has (l : Launch) (hl : l.stackTraces = false) (D : va_G) (C : Nat → ClassId) (cD : ClassId) (K KR adK adV : Nat → Nat) (ao : Nat) (hDA : DAp K) (hRA : RAp KR) (hao : ¬ DAd K ao) (u : CSt) (v : MSt) (o : Int64) (hI : INV u v) (x1 : Int32) (x2 : Int32) : PairI (fun post => LM l yL_has wsL_has rw_has D C cD K adK adV ao (OLn C ao) [.int x1, .int x2] u o post) (fun post => RMi l yX7_has wsX7_has rm_X7_has D C KR [.int x1, .int x2] v.1 v.2.1 v.2.2.1 v.2.2.2 post) vB := by
  obtain ⟨F, hs, G, T⟩ := u
  obtain ⟨F', hs', mv, G'⟩ := v
  obtain ⟨hh, ⟨h2, h16, h17⟩, ⟨hg3, hg19⟩, ⟨tn, htn, hTu, hTv, hHB⟩, w, hw, hWu, hWv⟩ := hI
  change hs = hs' at hh
  change F 2 = F' 2 at h2
  change F 16 = F' 16 at h16
  change F 17 = F' 17 at h17
  change G 3 = G' 3 at hg3
  change G 19 = G' 19 at hg19
  change F 4 = nI tn at hTu
  change F' 4 = nI tn at hTv
  change HB (G 3) tn at hHB
  change F 20 = nI w at hWu
  change F' 20 = nI w at hWv
  subst hh
  rcases (show ((0 ≤ x1.toInt ∧ x1.toInt < 8) ∧ 0 ≤ x2.toInt) ∨ (¬ (0 ≤ x1.toInt ∧ x1.toInt < 8)) ∨ ((0 ≤ x1.toInt ∧ x1.toInt < 8) ∧ x2.toInt < 0) by omega) with hc | hc | hc
  · obtain ⟨s0, e0, k0, q0⟩ := zi_ofm (x := x1) rfl (by omega)
    subst e0
    obtain ⟨i0, e1, k1, q1⟩ := zi_ofm (x := x2) rfl (by omega)
    subst e1
    refine ⟨0, (bI (decide (i0 < 1024) && hM hs s0 i0)), (if (bI (decide (i0 < 1024) && hM hs s0 i0)) = 0 then 0 else 1 : Int64), (fun z => z = (F, hs, G, T)), (fun z => z = (upd F' 0 (nI 0), hs, mv, G')), _, wL_has_ok l D C cD K adK adV ao hDA hao (F, hs, G, T) o (nI s0) (nI i0) (kt_X6_has_ok l D C K hDA F hs G T s0 i0 (by omega) (by omega)) (bI (decide (i0 < 1024) && hM hs s0 i0)) (fun z => z = (F, hs, G, T)) (fun r z h => h), (kt_X7_has_ok l D C KR hRA F' hs mv G' s0 i0 (by omega) (by omega)), fun r z h => h, ?_, by decide, fun _ => rfl⟩
    rintro q z rfl rfl
    exact ⟨rfl, rfl, ⟨h2, h16, h17⟩, ⟨hg3, hg19⟩, ⟨tn, htn, hTu, hTv, hHB⟩, ⟨w, hw, hWu, hWv⟩⟩
  · refine ⟨1, (bI false), o, (fun z => z = (F, hs, G, T)), (fun z => z = (upd F' 0 (nI 1), hs, mv, G')), _, wL_has_x1 l D C cD K adK adV ao hDA hao (F, hs, G, T) o x1 x2 (kt_X6_has_x1 l hl D C K hDA F hs G T x1 x2 x1.toInt rfl (by omega)), (kt_X7_has_no l D C KR hRA F' hs mv G' x1 x2 x1.toInt x2.toInt rfl rfl (by omega)), fun r z h => h.1 (by omega), ?_, by decide, fun z => absurd z (by decide)⟩
    rintro q z rfl rfl
    exact ⟨rfl, rfl, ⟨h2, h16, h17⟩, ⟨hg3, hg19⟩, ⟨tn, htn, hTu, hTv, hHB⟩, ⟨w, hw, hWu, hWv⟩⟩
  · obtain ⟨s0, e0, k0, q0⟩ := zi_ofm (x := x1) rfl (by omega)
    subst e0
    refine ⟨2, (bI false), o, (fun z => z = (upd F 2 (F 2 + 1), hs, G, T)), (fun z => z = (upd (upd F' 0 (nI 2)) 2 (F' 2 + 1), hs, mv, G')), _, wL_has_x2 l D C cD K adK adV ao hDA hao (F, hs, G, T) o (nI s0) x2 (kt_X6_has_x2 l hl D C K hDA F hs G T s0 x2 x2.toInt rfl (by omega) (by omega)), (kt_X7_has_no l D C KR hRA F' hs mv G' (nI s0) x2 ((nI s0)).toInt x2.toInt rfl rfl (by omega)), fun r z h => h.2 (by omega), ?_, by decide, fun z => absurd z (by decide)⟩
    rintro q z rfl rfl
    exact ⟨rfl, rfl, ⟨congrArg (fun z => z + 1) h2, h16, h17⟩, ⟨hg3, hg19⟩, ⟨tn, htn, hTu, hTv, hHB⟩, ⟨w, hw, hWu, hWv⟩⟩

set_option maxHeartbeats 4000000 in
set_option maxRecDepth 100000 in
theorem pr_count (l : Launch) (hl : l.stackTraces = false) (D : va_G) (C : Nat → ClassId) (cD : ClassId) (K KR adK adV : Nat → Nat) (ao : Nat) (hDA : DAp K) (hRA : RAp KR) (hao : ¬ DAd K ao) (u : CSt) (v : MSt) (o : Int64) (hI : INV u v) (x1 : Int32) : PairI (fun post => LM l yL_count wsL_count rw_count D C cD K adK adV ao (OLn C ao) [.int x1] u o post) (fun post => RMi l yX7_count wsX7_count rm_X7_count D C KR [.int x1] v.1 v.2.1 v.2.2.1 v.2.2.2 post) Int32.toInt64 := by
  obtain ⟨F, hs, G, T⟩ := u
  obtain ⟨F', hs', mv, G'⟩ := v
  obtain ⟨hh, ⟨h2, h16, h17⟩, ⟨hg3, hg19⟩, ⟨tn, htn, hTu, hTv, hHB⟩, w, hw, hWu, hWv⟩ := hI
  change hs = hs' at hh
  change F 2 = F' 2 at h2
  change F 16 = F' 16 at h16
  change F 17 = F' 17 at h17
  change G 3 = G' 3 at hg3
  change G 19 = G' 19 at hg19
  change F 4 = nI tn at hTu
  change F' 4 = nI tn at hTv
  change HB (G 3) tn at hHB
  change F 20 = nI w at hWu
  change F' 20 = nI w at hWv
  subst hh
  rcases (show (0 ≤ x1.toInt ∧ x1.toInt < 8) ∨ (¬ (0 ≤ x1.toInt ∧ x1.toInt < 8)) by omega) with hc | hc
  · obtain ⟨s0, e0, k0, q0⟩ := zi_ofm (x := x1) rfl (by omega)
    subst e0
    refine ⟨0, (nI (ct (hM hs s0) 1024)), ((nI (ct (hM hs s0) 1024)).toInt64), (fun z => z = (F, hs, G, T)), (fun z => z = (upd F' 0 (nI 0), hs, mv, G')), _, wL_count_ok l D C cD K adK adV ao hDA hao (F, hs, G, T) o (nI s0) (kt_X6_count_ok l D C K hDA F hs G T s0 (by omega)) (nI (ct (hM hs s0) 1024)) (fun z => z = (F, hs, G, T)) (fun r z h => h), (kt_X7_count_ok l D C KR hRA F' hs mv G' s0 (by omega)), fun r z h => h, ?_, by decide, fun _ => rfl⟩
    rintro q z rfl rfl
    exact ⟨rfl, rfl, ⟨h2, h16, h17⟩, ⟨hg3, hg19⟩, ⟨tn, htn, hTu, hTv, hHB⟩, ⟨w, hw, hWu, hWv⟩⟩
  · refine ⟨1, (nI 0), o, (fun z => z = (F, hs, G, T)), (fun z => z = (upd F' 0 (nI 1), hs, mv, G')), _, wL_count_x1 l D C cD K adK adV ao hDA hao (F, hs, G, T) o x1 (kt_X6_count_x1 l hl D C K hDA F hs G T x1 x1.toInt rfl (by omega)), (kt_X7_count_no l D C KR hRA F' hs mv G' x1 x1.toInt rfl (by omega)), fun r z h => h, ?_, by decide, fun z => absurd z (by decide)⟩
    rintro q z rfl rfl
    exact ⟨rfl, rfl, ⟨h2, h16, h17⟩, ⟨hg3, hg19⟩, ⟨tn, htn, hTu, hTv, hHB⟩, ⟨w, hw, hWu, hWv⟩⟩

set_option maxHeartbeats 4000000 in
set_option maxRecDepth 100000 in
theorem pr_countIn (l : Launch) (hl : l.stackTraces = false) (D : va_G) (C : Nat → ClassId) (cD : ClassId) (K KR adK adV : Nat → Nat) (ao : Nat) (hDA : DAp K) (hRA : RAp KR) (hao : ¬ DAd K ao) (u : CSt) (v : MSt) (o : Int64) (hI : INV u v) (x1 : Int32) (x2 : Int32) (x3 : Int32) : PairI (fun post => LM l yL_countIn wsL_countIn rw_countIn D C cD K adK adV ao (OLn C ao) [.int x1, .int x2, .int x3] u o post) (fun post => RMi l yX7_countIn wsX7_countIn rm_X7_countIn D C KR [.int x1, .int x2, .int x3] v.1 v.2.1 v.2.2.1 v.2.2.2 post) Int32.toInt64 := by
  obtain ⟨F, hs, G, T⟩ := u
  obtain ⟨F', hs', mv, G'⟩ := v
  obtain ⟨hh, ⟨h2, h16, h17⟩, ⟨hg3, hg19⟩, ⟨tn, htn, hTu, hTv, hHB⟩, w, hw, hWu, hWv⟩ := hI
  change hs = hs' at hh
  change F 2 = F' 2 at h2
  change F 16 = F' 16 at h16
  change F 17 = F' 17 at h17
  change G 3 = G' 3 at hg3
  change G 19 = G' 19 at hg19
  change F 4 = nI tn at hTu
  change F' 4 = nI tn at hTv
  change HB (G 3) tn at hHB
  change F 20 = nI w at hWu
  change F' 20 = nI w at hWv
  subst hh
  rcases (show ((0 ≤ x1.toInt ∧ x1.toInt < 8) ∧ 0 ≤ x2.toInt ∧ x2.toInt ≤ x3.toInt) ∨ (¬ (0 ≤ x1.toInt ∧ x1.toInt < 8)) ∨ ((0 ≤ x1.toInt ∧ x1.toInt < 8) ∧ ¬ (0 ≤ x2.toInt ∧ x2.toInt ≤ x3.toInt)) by omega) with hc | hc | hc
  · obtain ⟨s0, e0, k0, q0⟩ := zi_ofm (x := x1) rfl (by omega)
    subst e0
    obtain ⟨f, e1, k1, q1⟩ := zi_ofm (x := x2) rfl (by omega)
    subst e1
    obtain ⟨t, e2, k2, q2⟩ := zi_ofm (x := x3) rfl (by omega)
    subst e2
    refine ⟨0, (nI (ct (pC (hM hs s0) f t) 1024)), ((nI (ct (pC (hM hs s0) f t) 1024)).toInt64), (fun z => z = (F, hs, G, T)), (fun z => z = (upd F' 0 (nI 0), hs, mv, G')), _, wL_countIn_ok l D C cD K adK adV ao hDA hao (F, hs, G, T) o (nI s0) (nI f) (nI t) (kt_X6_countIn_ok l D C K hDA F hs G T s0 f t (by omega) (by omega)) (nI (ct (pC (hM hs s0) f t) 1024)) (fun z => z = (F, hs, G, T)) (fun r z h => h), (kt_X7_countIn_ok l D C KR hRA F' hs mv G' s0 f t (by omega) (by omega)), fun r z h => h, ?_, by decide, fun _ => rfl⟩
    rintro q z rfl rfl
    exact ⟨rfl, rfl, ⟨h2, h16, h17⟩, ⟨hg3, hg19⟩, ⟨tn, htn, hTu, hTv, hHB⟩, ⟨w, hw, hWu, hWv⟩⟩
  · refine ⟨1, (nI 0), o, (fun z => z = (F, hs, G, T)), (fun z => z = (upd F' 0 (nI 1), hs, mv, G')), _, wL_countIn_x1 l D C cD K adK adV ao hDA hao (F, hs, G, T) o x1 x2 x3 (kt_X6_countIn_x1 l hl D C K hDA F hs G T x1 x2 x3 x1.toInt rfl (by omega)), (kt_X7_countIn_no l D C KR hRA F' hs mv G' x1 x2 x3 x1.toInt x2.toInt x3.toInt rfl rfl rfl (by omega)), fun r z h => h.1 (by omega), ?_, by decide, fun z => absurd z (by decide)⟩
    rintro q z rfl rfl
    exact ⟨rfl, rfl, ⟨h2, h16, h17⟩, ⟨hg3, hg19⟩, ⟨tn, htn, hTu, hTv, hHB⟩, ⟨w, hw, hWu, hWv⟩⟩
  · obtain ⟨s0, e0, k0, q0⟩ := zi_ofm (x := x1) rfl (by omega)
    subst e0
    refine ⟨2, (nI 0), o, (fun z => z = (upd F 2 (F 2 + 1), hs, G, T)), (fun z => z = (upd (upd F' 0 (nI 2)) 2 (F' 2 + 1), hs, mv, G')), _, wL_countIn_x2 l D C cD K adK adV ao hDA hao (F, hs, G, T) o (nI s0) x2 x3 (kt_X6_countIn_x2 l hl D C K hDA F hs G T s0 x2 x3 x2.toInt x3.toInt rfl rfl (by omega) (by omega)), (kt_X7_countIn_no l D C KR hRA F' hs mv G' (nI s0) x2 x3 ((nI s0)).toInt x2.toInt x3.toInt rfl rfl rfl (by omega)), fun r z h => h.2 (by omega), ?_, by decide, fun z => absurd z (by decide)⟩
    rintro q z rfl rfl
    exact ⟨rfl, rfl, ⟨congrArg (fun z => z + 1) h2, h16, h17⟩, ⟨hg3, hg19⟩, ⟨tn, htn, hTu, hTv, hHB⟩, ⟨w, hw, hWu, hWv⟩⟩

set_option maxHeartbeats 4000000 in
set_option maxRecDepth 100000 in
theorem pr_length (l : Launch) (hl : l.stackTraces = false) (D : va_G) (C : Nat → ClassId) (cD : ClassId) (K KR adK adV : Nat → Nat) (ao : Nat) (hDA : DAp K) (hRA : RAp KR) (hao : ¬ DAd K ao) (u : CSt) (v : MSt) (o : Int64) (hI : INV u v) (x1 : Int32) : PairI (fun post => LM l yL_length wsL_length rw_length D C cD K adK adV ao (OLn C ao) [.int x1] u o post) (fun post => RMi l yX7_length wsX7_length rm_X7_length D C KR [.int x1] v.1 v.2.1 v.2.2.1 v.2.2.2 post) Int32.toInt64 := by
  obtain ⟨F, hs, G, T⟩ := u
  obtain ⟨F', hs', mv, G'⟩ := v
  obtain ⟨hh, ⟨h2, h16, h17⟩, ⟨hg3, hg19⟩, ⟨tn, htn, hTu, hTv, hHB⟩, w, hw, hWu, hWv⟩ := hI
  change hs = hs' at hh
  change F 2 = F' 2 at h2
  change F 16 = F' 16 at h16
  change F 17 = F' 17 at h17
  change G 3 = G' 3 at hg3
  change G 19 = G' 19 at hg19
  change F 4 = nI tn at hTu
  change F' 4 = nI tn at hTv
  change HB (G 3) tn at hHB
  change F 20 = nI w at hWu
  change F' 20 = nI w at hWv
  subst hh
  rcases (show (0 ≤ x1.toInt ∧ x1.toInt < 8) ∨ (¬ (0 ≤ x1.toInt ∧ x1.toInt < 8)) by omega) with hc | hc
  · obtain ⟨s0, e0, k0, q0⟩ := zi_ofm (x := x1) rfl (by omega)
    subst e0
    refine ⟨0, (nI (ln (hM hs s0) 1024)), ((nI (ln (hM hs s0) 1024)).toInt64), (fun z => z = (F, hs, G, T)), (fun z => z = (upd F' 0 (nI 0), hs, mv, G')), _, wL_length_ok l D C cD K adK adV ao hDA hao (F, hs, G, T) o (nI s0) (kt_X6_length_ok l D C K hDA F hs G T s0 (by omega)) (nI (ln (hM hs s0) 1024)) (fun z => z = (F, hs, G, T)) (fun r z h => h), (kt_X7_length_ok l D C KR hRA F' hs mv G' s0 (by omega)), fun r z h => h, ?_, by decide, fun _ => rfl⟩
    rintro q z rfl rfl
    exact ⟨rfl, rfl, ⟨h2, h16, h17⟩, ⟨hg3, hg19⟩, ⟨tn, htn, hTu, hTv, hHB⟩, ⟨w, hw, hWu, hWv⟩⟩
  · refine ⟨1, (nI 0), o, (fun z => z = (F, hs, G, T)), (fun z => z = (upd F' 0 (nI 1), hs, mv, G')), _, wL_length_x1 l D C cD K adK adV ao hDA hao (F, hs, G, T) o x1 (kt_X6_length_x1 l hl D C K hDA F hs G T x1 x1.toInt rfl (by omega)), (kt_X7_length_no l D C KR hRA F' hs mv G' x1 x1.toInt rfl (by omega)), fun r z h => h, ?_, by decide, fun z => absurd z (by decide)⟩
    rintro q z rfl rfl
    exact ⟨rfl, rfl, ⟨h2, h16, h17⟩, ⟨hg3, hg19⟩, ⟨tn, htn, hTu, hTv, hHB⟩, ⟨w, hw, hWu, hWv⟩⟩

set_option maxHeartbeats 4000000 in
set_option maxRecDepth 100000 in
theorem pr_isEmpty (l : Launch) (hl : l.stackTraces = false) (D : va_G) (C : Nat → ClassId) (cD : ClassId) (K KR adK adV : Nat → Nat) (ao : Nat) (hDA : DAp K) (hRA : RAp KR) (hao : ¬ DAd K ao) (u : CSt) (v : MSt) (o : Int64) (hI : INV u v) (x1 : Int32) : PairI (fun post => LM l yL_isEmpty wsL_isEmpty rw_isEmpty D C cD K adK adV ao (OLn C ao) [.int x1] u o post) (fun post => RMi l yX7_isEmpty wsX7_isEmpty rm_X7_isEmpty D C KR [.int x1] v.1 v.2.1 v.2.2.1 v.2.2.2 post) vB := by
  obtain ⟨F, hs, G, T⟩ := u
  obtain ⟨F', hs', mv, G'⟩ := v
  obtain ⟨hh, ⟨h2, h16, h17⟩, ⟨hg3, hg19⟩, ⟨tn, htn, hTu, hTv, hHB⟩, w, hw, hWu, hWv⟩ := hI
  change hs = hs' at hh
  change F 2 = F' 2 at h2
  change F 16 = F' 16 at h16
  change F 17 = F' 17 at h17
  change G 3 = G' 3 at hg3
  change G 19 = G' 19 at hg19
  change F 4 = nI tn at hTu
  change F' 4 = nI tn at hTv
  change HB (G 3) tn at hHB
  change F 20 = nI w at hWu
  change F' 20 = nI w at hWv
  subst hh
  rcases (show (0 ≤ x1.toInt ∧ x1.toInt < 8) ∨ (¬ (0 ≤ x1.toInt ∧ x1.toInt < 8)) by omega) with hc | hc
  · obtain ⟨s0, e0, k0, q0⟩ := zi_ofm (x := x1) rfl (by omega)
    subst e0
    refine ⟨0, (bI (decide (ln (hM hs s0) 1024 = 0))), (if (bI (decide (ln (hM hs s0) 1024 = 0))) = 0 then 0 else 1 : Int64), (fun z => z = (F, hs, G, T)), (fun z => z = (upd F' 0 (nI 0), hs, mv, G')), _, wL_isEmpty_ok l D C cD K adK adV ao hDA hao (F, hs, G, T) o (nI s0) (kt_X6_isEmpty_ok l D C K hDA F hs G T s0 (by omega)) (bI (decide (ln (hM hs s0) 1024 = 0))) (fun z => z = (F, hs, G, T)) (fun r z h => h), (kt_X7_isEmpty_ok l D C KR hRA F' hs mv G' s0 (by omega)), fun r z h => h, ?_, by decide, fun _ => rfl⟩
    rintro q z rfl rfl
    exact ⟨rfl, rfl, ⟨h2, h16, h17⟩, ⟨hg3, hg19⟩, ⟨tn, htn, hTu, hTv, hHB⟩, ⟨w, hw, hWu, hWv⟩⟩
  · refine ⟨1, (bI false), o, (fun z => z = (F, hs, G, T)), (fun z => z = (upd F' 0 (nI 1), hs, mv, G')), _, wL_isEmpty_x1 l D C cD K adK adV ao hDA hao (F, hs, G, T) o x1 (kt_X6_isEmpty_x1 l hl D C K hDA F hs G T x1 x1.toInt rfl (by omega)), (kt_X7_isEmpty_no l D C KR hRA F' hs mv G' x1 x1.toInt rfl (by omega)), fun r z h => h, ?_, by decide, fun z => absurd z (by decide)⟩
    rintro q z rfl rfl
    exact ⟨rfl, rfl, ⟨h2, h16, h17⟩, ⟨hg3, hg19⟩, ⟨tn, htn, hTu, hTv, hHB⟩, ⟨w, hw, hWu, hWv⟩⟩

set_option maxHeartbeats 4000000 in
set_option maxRecDepth 100000 in
theorem pr_isRoomy (l : Launch) (hl : l.stackTraces = false) (D : va_G) (C : Nat → ClassId) (cD : ClassId) (K KR adK adV : Nat → Nat) (ao : Nat) (hDA : DAp K) (hRA : RAp KR) (hao : ¬ DAd K ao) (u : CSt) (v : MSt) (o : Int64) (hI : INV u v) (x1 : Int32) : PairI (fun post => LM l yL_isRoomy wsL_isRoomy rw_isRoomy D C cD K adK adV ao (OLn C ao) [.int x1] u o post) (fun post => RMi l yX7_isRoomy wsX7_isRoomy rm_X7_isRoomy D C KR [.int x1] v.1 v.2.1 v.2.2.1 v.2.2.2 post) vB := by
  obtain ⟨F, hs, G, T⟩ := u
  obtain ⟨F', hs', mv, G'⟩ := v
  obtain ⟨hh, ⟨h2, h16, h17⟩, ⟨hg3, hg19⟩, ⟨tn, htn, hTu, hTv, hHB⟩, w, hw, hWu, hWv⟩ := hI
  change hs = hs' at hh
  change F 2 = F' 2 at h2
  change F 16 = F' 16 at h16
  change F 17 = F' 17 at h17
  change G 3 = G' 3 at hg3
  change G 19 = G' 19 at hg19
  change F 4 = nI tn at hTu
  change F' 4 = nI tn at hTv
  change HB (G 3) tn at hHB
  change F 20 = nI w at hWu
  change F' 20 = nI w at hWv
  subst hh
  rcases (show (0 ≤ x1.toInt ∧ x1.toInt < 8) ∨ (¬ (0 ≤ x1.toInt ∧ x1.toInt < 8)) by omega) with hc | hc
  · obtain ⟨s0, e0, k0, q0⟩ := zi_ofm (x := x1) rfl (by omega)
    subst e0
    refine ⟨0, (bI true), (if (bI true) = 0 then 0 else 1 : Int64), (fun z => z = (F, hs, G, T)), (fun z => z = (upd F' 0 (nI 0), hs, mv, G')), _, wL_isRoomy_ok l D C cD K adK adV ao hDA hao (F, hs, G, T) o (nI s0) (kt_X6_isRoomy_ok l D C K hDA F hs G T s0 (by omega)) (bI true) (fun z => z = (F, hs, G, T)) (fun r z h => h), (kt_X7_isRoomy_ok l D C KR hRA F' hs mv G' s0 (by omega)), fun r z h => h, ?_, by decide, fun _ => rfl⟩
    rintro q z rfl rfl
    exact ⟨rfl, rfl, ⟨h2, h16, h17⟩, ⟨hg3, hg19⟩, ⟨tn, htn, hTu, hTv, hHB⟩, ⟨w, hw, hWu, hWv⟩⟩
  · refine ⟨1, (bI false), o, (fun z => z = (F, hs, G, T)), (fun z => z = (upd F' 0 (nI 1), hs, mv, G')), _, wL_isRoomy_x1 l D C cD K adK adV ao hDA hao (F, hs, G, T) o x1 (kt_X6_isRoomy_x1 l hl D C K hDA F hs G T x1 x1.toInt rfl (by omega)), (kt_X7_isRoomy_no l D C KR hRA F' hs mv G' x1 x1.toInt rfl (by omega)), fun r z h => h, ?_, by decide, fun z => absurd z (by decide)⟩
    rintro q z rfl rfl
    exact ⟨rfl, rfl, ⟨h2, h16, h17⟩, ⟨hg3, hg19⟩, ⟨tn, htn, hTu, hTv, hHB⟩, ⟨w, hw, hWu, hWv⟩⟩

set_option maxHeartbeats 4000000 in
set_option maxRecDepth 100000 in
theorem pr_next (l : Launch) (hl : l.stackTraces = false) (D : va_G) (C : Nat → ClassId) (cD : ClassId) (K KR adK adV : Nat → Nat) (ao : Nat) (hDA : DAp K) (hRA : RAp KR) (hao : ¬ DAd K ao) (u : CSt) (v : MSt) (o : Int64) (hI : INV u v) (x1 : Int32) (x2 : Int32) : PairI (fun post => LM l yL_next wsL_next rw_next D C cD K adK adV ao (OLn C ao) [.int x1, .int x2] u o post) (fun post => RMi l yX7_next wsX7_next rm_X7_next D C KR [.int x1, .int x2] v.1 v.2.1 v.2.2.1 v.2.2.2 post) Int32.toInt64 := by
  obtain ⟨F, hs, G, T⟩ := u
  obtain ⟨F', hs', mv, G'⟩ := v
  obtain ⟨hh, ⟨h2, h16, h17⟩, ⟨hg3, hg19⟩, ⟨tn, htn, hTu, hTv, hHB⟩, w, hw, hWu, hWv⟩ := hI
  change hs = hs' at hh
  change F 2 = F' 2 at h2
  change F 16 = F' 16 at h16
  change F 17 = F' 17 at h17
  change G 3 = G' 3 at hg3
  change G 19 = G' 19 at hg19
  change F 4 = nI tn at hTu
  change F' 4 = nI tn at hTv
  change HB (G 3) tn at hHB
  change F 20 = nI w at hWu
  change F' 20 = nI w at hWv
  subst hh
  rcases (show ((0 ≤ x1.toInt ∧ x1.toInt < 8) ∧ 0 ≤ x2.toInt) ∨ (¬ (0 ≤ x1.toInt ∧ x1.toInt < 8)) ∨ ((0 ≤ x1.toInt ∧ x1.toInt < 8) ∧ x2.toInt < 0) by omega) with hc | hc | hc
  · obtain ⟨s0, e0, k0, q0⟩ := zi_ofm (x := x1) rfl (by omega)
    subst e0
    obtain ⟨i0, e1, k1, q1⟩ := zi_ofm (x := x2) rfl (by omega)
    subst e1
    refine ⟨0, (nx (hM hs s0) i0), ((nx (hM hs s0) i0).toInt64), (fun z => z = (F, hs, G, T)), (fun z => z = (upd F' 0 (nI 0), hs, mv, G')), _, wL_next_ok l D C cD K adK adV ao hDA hao (F, hs, G, T) o (nI s0) (nI i0) (kt_X6_next_ok l D C K hDA F hs G T s0 i0 (by omega) (by omega)) (nx (hM hs s0) i0) (fun z => z = (F, hs, G, T)) (fun r z h => h), (kt_X7_next_ok l D C KR hRA F' hs mv G' s0 i0 (by omega) (by omega)), fun r z h => h, ?_, by decide, fun _ => rfl⟩
    rintro q z rfl rfl
    exact ⟨rfl, rfl, ⟨h2, h16, h17⟩, ⟨hg3, hg19⟩, ⟨tn, htn, hTu, hTv, hHB⟩, ⟨w, hw, hWu, hWv⟩⟩
  · refine ⟨1, (nI 0), o, (fun z => z = (F, hs, G, T)), (fun z => z = (upd F' 0 (nI 1), hs, mv, G')), _, wL_next_x1 l D C cD K adK adV ao hDA hao (F, hs, G, T) o x1 x2 (kt_X6_next_x1 l hl D C K hDA F hs G T x1 x2 x1.toInt rfl (by omega)), (kt_X7_next_no l D C KR hRA F' hs mv G' x1 x2 x1.toInt x2.toInt rfl rfl (by omega)), fun r z h => h.1 (by omega), ?_, by decide, fun z => absurd z (by decide)⟩
    rintro q z rfl rfl
    exact ⟨rfl, rfl, ⟨h2, h16, h17⟩, ⟨hg3, hg19⟩, ⟨tn, htn, hTu, hTv, hHB⟩, ⟨w, hw, hWu, hWv⟩⟩
  · obtain ⟨s0, e0, k0, q0⟩ := zi_ofm (x := x1) rfl (by omega)
    subst e0
    refine ⟨2, (nI 0), o, (fun z => z = (upd F 2 (F 2 + 1), hs, G, T)), (fun z => z = (upd (upd F' 0 (nI 2)) 2 (F' 2 + 1), hs, mv, G')), _, wL_next_x2 l D C cD K adK adV ao hDA hao (F, hs, G, T) o (nI s0) x2 (kt_X6_next_x2 l hl D C K hDA F hs G T s0 x2 x2.toInt rfl (by omega) (by omega)), (kt_X7_next_no l D C KR hRA F' hs mv G' (nI s0) x2 ((nI s0)).toInt x2.toInt rfl rfl (by omega)), fun r z h => h.2 (by omega), ?_, by decide, fun z => absurd z (by decide)⟩
    rintro q z rfl rfl
    exact ⟨rfl, rfl, ⟨congrArg (fun z => z + 1) h2, h16, h17⟩, ⟨hg3, hg19⟩, ⟨tn, htn, hTu, hTv, hHB⟩, ⟨w, hw, hWu, hWv⟩⟩

set_option maxHeartbeats 4000000 in
set_option maxRecDepth 100000 in
theorem pr_nextMissing (l : Launch) (hl : l.stackTraces = false) (D : va_G) (C : Nat → ClassId) (cD : ClassId) (K KR adK adV : Nat → Nat) (ao : Nat) (hDA : DAp K) (hRA : RAp KR) (hao : ¬ DAd K ao) (u : CSt) (v : MSt) (o : Int64) (hI : INV u v) (x1 : Int32) (x2 : Int32) : PairI (fun post => LM l yL_nextMissing wsL_nextMissing rw_nextMissing D C cD K adK adV ao (OLn C ao) [.int x1, .int x2] u o post) (fun post => RMi l yX7_nextMissing wsX7_nextMissing rm_X7_nextMissing D C KR [.int x1, .int x2] v.1 v.2.1 v.2.2.1 v.2.2.2 post) Int32.toInt64 := by
  obtain ⟨F, hs, G, T⟩ := u
  obtain ⟨F', hs', mv, G'⟩ := v
  obtain ⟨hh, ⟨h2, h16, h17⟩, ⟨hg3, hg19⟩, ⟨tn, htn, hTu, hTv, hHB⟩, w, hw, hWu, hWv⟩ := hI
  change hs = hs' at hh
  change F 2 = F' 2 at h2
  change F 16 = F' 16 at h16
  change F 17 = F' 17 at h17
  change G 3 = G' 3 at hg3
  change G 19 = G' 19 at hg19
  change F 4 = nI tn at hTu
  change F' 4 = nI tn at hTv
  change HB (G 3) tn at hHB
  change F 20 = nI w at hWu
  change F' 20 = nI w at hWv
  subst hh
  rcases (show ((0 ≤ x1.toInt ∧ x1.toInt < 8) ∧ 0 ≤ x2.toInt) ∨ (¬ (0 ≤ x1.toInt ∧ x1.toInt < 8)) ∨ ((0 ≤ x1.toInt ∧ x1.toInt < 8) ∧ x2.toInt < 0) by omega) with hc | hc | hc
  · obtain ⟨s0, e0, k0, q0⟩ := zi_ofm (x := x1) rfl (by omega)
    subst e0
    obtain ⟨i0, e1, k1, q1⟩ := zi_ofm (x := x2) rfl (by omega)
    subst e1
    refine ⟨0, (nI (gm (hM hs s0) i0)), ((nI (gm (hM hs s0) i0)).toInt64), (fun z => z = (F, hs, G, T)), (fun z => z = (upd F' 0 (nI 0), hs, mv, G')), _, wL_nextMissing_ok l D C cD K adK adV ao hDA hao (F, hs, G, T) o (nI s0) (nI i0) (kt_X6_nextMissing_ok l D C K hDA F hs G T s0 i0 (by omega) (by omega)) (nI (gm (hM hs s0) i0)) (fun z => z = (F, hs, G, T)) (fun r z h => h), (kt_X7_nextMissing_ok l D C KR hRA F' hs mv G' s0 i0 (by omega) (by omega)), fun r z h => h, ?_, by decide, fun _ => rfl⟩
    rintro q z rfl rfl
    exact ⟨rfl, rfl, ⟨h2, h16, h17⟩, ⟨hg3, hg19⟩, ⟨tn, htn, hTu, hTv, hHB⟩, ⟨w, hw, hWu, hWv⟩⟩
  · refine ⟨1, (nI 0), o, (fun z => z = (F, hs, G, T)), (fun z => z = (upd F' 0 (nI 1), hs, mv, G')), _, wL_nextMissing_x1 l D C cD K adK adV ao hDA hao (F, hs, G, T) o x1 x2 (kt_X6_nextMissing_x1 l hl D C K hDA F hs G T x1 x2 x1.toInt rfl (by omega)), (kt_X7_nextMissing_no l D C KR hRA F' hs mv G' x1 x2 x1.toInt x2.toInt rfl rfl (by omega)), fun r z h => h.1 (by omega), ?_, by decide, fun z => absurd z (by decide)⟩
    rintro q z rfl rfl
    exact ⟨rfl, rfl, ⟨h2, h16, h17⟩, ⟨hg3, hg19⟩, ⟨tn, htn, hTu, hTv, hHB⟩, ⟨w, hw, hWu, hWv⟩⟩
  · obtain ⟨s0, e0, k0, q0⟩ := zi_ofm (x := x1) rfl (by omega)
    subst e0
    refine ⟨2, (nI 0), o, (fun z => z = (upd F 2 (F 2 + 1), hs, G, T)), (fun z => z = (upd (upd F' 0 (nI 2)) 2 (F' 2 + 1), hs, mv, G')), _, wL_nextMissing_x2 l D C cD K adK adV ao hDA hao (F, hs, G, T) o (nI s0) x2 (kt_X6_nextMissing_x2 l hl D C K hDA F hs G T s0 x2 x2.toInt rfl (by omega) (by omega)), (kt_X7_nextMissing_no l D C KR hRA F' hs mv G' (nI s0) x2 ((nI s0)).toInt x2.toInt rfl rfl (by omega)), fun r z h => h.2 (by omega), ?_, by decide, fun z => absurd z (by decide)⟩
    rintro q z rfl rfl
    exact ⟨rfl, rfl, ⟨congrArg (fun z => z + 1) h2, h16, h17⟩, ⟨hg3, hg19⟩, ⟨tn, htn, hTu, hTv, hHB⟩, ⟨w, hw, hWu, hWv⟩⟩
