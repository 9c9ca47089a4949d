/-! The pairs. -/
set_option maxHeartbeats 4000000 in
set_option maxRecDepth 100000 in
theorem pr_previous (l : Launch) (hl : l.stackTraces = false) (D : va_G) (C : Nat → ClassId) (cD : ClassId) (K KR adK adV : Nat → Nat) (ao : Nat) (hDA : DAp K) (hRA : RAp KR) (hao : ¬ DAd K ao) (u : CSt) (v : MSt) (o : Int64) (hI : INV u v) (x1 : Int32) (x2 : Int32) : PairI (fun post => LM l yL_previous wsL_previous rw_previous D C cD K adK adV ao (OLn C ao) [.int x1, .int x2] u o post) (fun post => RMi l yX7_previous wsX7_previous rm_X7_previous D C KR [.int x1, .int x2] v.1 v.2.1 v.2.2.1 v.2.2.2 post) Int32.toInt64 := by
  obtain ⟨F, hs, G, T⟩ := u
  obtain ⟨F', hs', mv, G'⟩ := v
  obtain ⟨hh, ⟨h2, h16, h17⟩, ⟨hg3, hg19⟩, ⟨tn, htn, hTu, hTv, hHB⟩, w, hw, hWu, hWv⟩ := hI
  change hs = hs' at hh
  change F 2 = F' 2 at h2
  change F 16 = F' 16 at h16
  change F 17 = F' 17 at h17
  change G 3 = G' 3 at hg3
  change G 19 = G' 19 at hg19
  change F 4 = nI tn at hTu
  change F' 4 = nI tn at hTv
  change HB (G 3) tn at hHB
  change F 20 = nI w at hWu
  change F' 20 = nI w at hWv
  subst hh
  rcases (show ((0 ≤ x1.toInt ∧ x1.toInt < 8) ∧ -1 ≤ x2.toInt) ∨ (¬ (0 ≤ x1.toInt ∧ x1.toInt < 8)) ∨ ((0 ≤ x1.toInt ∧ x1.toInt < 8) ∧ x2.toInt < -1) by omega) with hc | hc | hc
  · obtain ⟨s0, e0, k0, q0⟩ := zi_ofm (x := x1) rfl (by omega)
    subst e0
    obtain ⟨m0, hm0⟩ : ∃ m0 : Nat, x2.toInt = (m0 : Int) - 1 := ⟨(x2.toInt + 1).toNat, by omega⟩
    refine ⟨0, (nI (ln (hM hs s0) (min m0 1024)) - 1), ((nI (ln (hM hs s0) (min m0 1024)) - 1).toInt64), (fun z => z = (F, hs, G, T)), (fun z => z = (upd F' 0 (nI 0), hs, mv, G')), _, wL_previous_ok l D C cD K adK adV ao hDA hao (F, hs, G, T) o (nI s0) x2 (kt_X6_previous_ok l D C K hDA F hs G T s0 x2 m0 x2.toInt rfl (by omega) (by omega)) (nI (ln (hM hs s0) (min m0 1024)) - 1) (fun z => z = (F, hs, G, T)) (fun r z h => h), (kt_X7_previous_ok l D C KR hRA F' hs mv G' s0 x2 m0 x2.toInt rfl (by omega) (by omega)), fun r z h => h, ?_, by decide, fun _ => rfl⟩
    rintro q z rfl rfl
    exact ⟨rfl, rfl, ⟨h2, h16, h17⟩, ⟨hg3, hg19⟩, ⟨tn, htn, hTu, hTv, hHB⟩, ⟨w, hw, hWu, hWv⟩⟩
  · refine ⟨1, (nI 0), o, (fun z => z = (F, hs, G, T)), (fun z => z = (upd F' 0 (nI 1), hs, mv, G')), _, wL_previous_x1 l D C cD K adK adV ao hDA hao (F, hs, G, T) o x1 x2 (kt_X6_previous_x1 l hl D C K hDA F hs G T x1 x2 x1.toInt rfl (by omega)), (kt_X7_previous_no l D C KR hRA F' hs mv G' x1 x2 x1.toInt x2.toInt rfl rfl (by omega)), fun r z h => h.1 (by omega), ?_, by decide, fun z => absurd z (by decide)⟩
    rintro q z rfl rfl
    exact ⟨rfl, rfl, ⟨h2, h16, h17⟩, ⟨hg3, hg19⟩, ⟨tn, htn, hTu, hTv, hHB⟩, ⟨w, hw, hWu, hWv⟩⟩
  · obtain ⟨s0, e0, k0, q0⟩ := zi_ofm (x := x1) rfl (by omega)
    subst e0
    refine ⟨2, (nI 0), o, (fun z => z = (upd F 2 (F 2 + 1), hs, G, T)), (fun z => z = (upd (upd F' 0 (nI 2)) 2 (F' 2 + 1), hs, mv, G')), _, wL_previous_x2 l D C cD K adK adV ao hDA hao (F, hs, G, T) o (nI s0) x2 (kt_X6_previous_x2 l hl D C K hDA F hs G T s0 x2 x2.toInt rfl (by omega) (by omega)), (kt_X7_previous_no l D C KR hRA F' hs mv G' (nI s0) x2 ((nI s0)).toInt x2.toInt rfl rfl (by omega)), fun r z h => h.2 (by omega), ?_, by decide, fun z => absurd z (by decide)⟩
    rintro q z rfl rfl
    exact ⟨rfl, rfl, ⟨congrArg (fun z => z + 1) h2, h16, h17⟩, ⟨hg3, hg19⟩, ⟨tn, htn, hTu, hTv, hHB⟩, ⟨w, hw, hWu, hWv⟩⟩

set_option maxHeartbeats 4000000 in
set_option maxRecDepth 100000 in
theorem pr_previousMissing (l : Launch) (hl : l.stackTraces = false) (D : va_G) (C : Nat → ClassId) (cD : ClassId) (K KR adK adV : Nat → Nat) (ao : Nat) (hDA : DAp K) (hRA : RAp KR) (hao : ¬ DAd K ao) (u : CSt) (v : MSt) (o : Int64) (hI : INV u v) (x1 : Int32) (x2 : Int32) : PairI (fun post => LM l yL_previousMissing wsL_previousMissing rw_previousMissing D C cD K adK adV ao (OLn C ao) [.int x1, .int x2] u o post) (fun post => RMi l yX7_previousMissing wsX7_previousMissing rm_X7_previousMissing D C KR [.int x1, .int x2] v.1 v.2.1 v.2.2.1 v.2.2.2 post) Int32.toInt64 := by
  obtain ⟨F, hs, G, T⟩ := u
  obtain ⟨F', hs', mv, G'⟩ := v
  obtain ⟨hh, ⟨h2, h16, h17⟩, ⟨hg3, hg19⟩, ⟨tn, htn, hTu, hTv, hHB⟩, w, hw, hWu, hWv⟩ := hI
  change hs = hs' at hh
  change F 2 = F' 2 at h2
  change F 16 = F' 16 at h16
  change F 17 = F' 17 at h17
  change G 3 = G' 3 at hg3
  change G 19 = G' 19 at hg19
  change F 4 = nI tn at hTu
  change F' 4 = nI tn at hTv
  change HB (G 3) tn at hHB
  change F 20 = nI w at hWu
  change F' 20 = nI w at hWv
  subst hh
  rcases (show ((0 ≤ x1.toInt ∧ x1.toInt < 8) ∧ -1 ≤ x2.toInt) ∨ (¬ (0 ≤ x1.toInt ∧ x1.toInt < 8)) ∨ ((0 ≤ x1.toInt ∧ x1.toInt < 8) ∧ x2.toInt < -1) by omega) with hc | hc | hc
  · obtain ⟨s0, e0, k0, q0⟩ := zi_ofm (x := x1) rfl (by omega)
    subst e0
    obtain ⟨m0, hm0⟩ : ∃ m0 : Nat, x2.toInt = (m0 : Int) - 1 := ⟨(x2.toInt + 1).toNat, by omega⟩
    refine ⟨0, (pmv (hM hs s0) m0), ((pmv (hM hs s0) m0).toInt64), (fun z => z = (F, hs, G, T)), (fun z => z = (upd F' 0 (nI 0), hs, mv, G')), _, wL_previousMissing_ok l D C cD K adK adV ao hDA hao (F, hs, G, T) o (nI s0) x2 (kt_X6_previousMissing_ok l D C K hDA F hs G T s0 x2 m0 x2.toInt rfl (by omega) (by omega)) (pmv (hM hs s0) m0) (fun z => z = (F, hs, G, T)) (fun r z h => h), (kt_X7_previousMissing_ok l D C KR hRA F' hs mv G' s0 x2 m0 x2.toInt rfl (by omega) (by omega)), fun r z h => h, ?_, by decide, fun _ => rfl⟩
    rintro q z rfl rfl
    exact ⟨rfl, rfl, ⟨h2, h16, h17⟩, ⟨hg3, hg19⟩, ⟨tn, htn, hTu, hTv, hHB⟩, ⟨w, hw, hWu, hWv⟩⟩
  · refine ⟨1, (nI 0), o, (fun z => z = (F, hs, G, T)), (fun z => z = (upd F' 0 (nI 1), hs, mv, G')), _, wL_previousMissing_x1 l D C cD K adK adV ao hDA hao (F, hs, G, T) o x1 x2 (kt_X6_previousMissing_x1 l hl D C K hDA F hs G T x1 x2 x1.toInt rfl (by omega)), (kt_X7_previousMissing_no l D C KR hRA F' hs mv G' x1 x2 x1.toInt x2.toInt rfl rfl (by omega)), fun r z h => h.1 (by omega), ?_, by decide, fun z => absurd z (by decide)⟩
    rintro q z rfl rfl
    exact ⟨rfl, rfl, ⟨h2, h16, h17⟩, ⟨hg3, hg19⟩, ⟨tn, htn, hTu, hTv, hHB⟩, ⟨w, hw, hWu, hWv⟩⟩
  · obtain ⟨s0, e0, k0, q0⟩ := zi_ofm (x := x1) rfl (by omega)
    subst e0
    refine ⟨2, (nI 0), o, (fun z => z = (upd F 2 (F 2 + 1), hs, G, T)), (fun z => z = (upd (upd F' 0 (nI 2)) 2 (F' 2 + 1), hs, mv, G')), _, wL_previousMissing_x2 l D C cD K adK adV ao hDA hao (F, hs, G, T) o (nI s0) x2 (kt_X6_previousMissing_x2 l hl D C K hDA F hs G T s0 x2 x2.toInt rfl (by omega) (by omega)), (kt_X7_previousMissing_no l D C KR hRA F' hs mv G' (nI s0) x2 ((nI s0)).toInt x2.toInt rfl rfl (by omega)), fun r z h => h.2 (by omega), ?_, by decide, fun z => absurd z (by decide)⟩
    rintro q z rfl rfl
    exact ⟨rfl, rfl, ⟨congrArg (fun z => z + 1) h2, h16, h17⟩, ⟨hg3, hg19⟩, ⟨tn, htn, hTu, hTv, hHB⟩, ⟨w, hw, hWu, hWv⟩⟩

set_option maxHeartbeats 4000000 in
set_option maxRecDepth 100000 in
theorem pr_memberAt (l : Launch) (hl : l.stackTraces = false) (D : va_G) (C : Nat → ClassId) (cD : ClassId) (K KR adK adV : Nat → Nat) (ao : Nat) (hDA : DAp K) (hRA : RAp KR) (hao : ¬ DAd K ao) (u : CSt) (v : MSt) (o : Int64) (hI : INV u v) (x1 : Int32) (x2 : Int32) : PairI (fun post => LM l yL_memberAt wsL_memberAt rw_memberAt D C cD K adK adV ao (OLn C ao) [.int x1, .int x2] u o post) (fun post => RMi l yX7_memberAt wsX7_memberAt rm_X7_memberAt D C KR [.int x1, .int x2] v.1 v.2.1 v.2.2.1 v.2.2.2 post) Int32.toInt64 := by
  obtain ⟨F, hs, G, T⟩ := u
  obtain ⟨F', hs', mv, G'⟩ := v
  obtain ⟨hh, ⟨h2, h16, h17⟩, ⟨hg3, hg19⟩, ⟨tn, htn, hTu, hTv, hHB⟩, w, hw, hWu, hWv⟩ := hI
  change hs = hs' at hh
  change F 2 = F' 2 at h2
  change F 16 = F' 16 at h16
  change F 17 = F' 17 at h17
  change G 3 = G' 3 at hg3
  change G 19 = G' 19 at hg19
  change F 4 = nI tn at hTu
  change F' 4 = nI tn at hTv
  change HB (G 3) tn at hHB
  change F 20 = nI w at hWu
  change F' 20 = nI w at hWv
  subst hh
  rcases (show (0 ≤ x1.toInt ∧ x1.toInt < 8) ∨ (¬ (0 ≤ x1.toInt ∧ x1.toInt < 8)) by omega) with hc | hc
  · obtain ⟨s0, e0, k0, q0⟩ := zi_ofm (x := x1) rfl (by omega)
    subst e0
    refine ⟨0, (mA (hM hs s0) x2.toInt), ((mA (hM hs s0) x2.toInt).toInt64), (fun z => z = (F, hs, G, T)), (fun z => z = (upd F' 0 (nI 0), hs, mv, G')), _, wL_memberAt_ok l D C cD K adK adV ao hDA hao (F, hs, G, T) o (nI s0) x2 (kt_X6_memberAt_ok l D C K hDA F hs G T s0 x2 x2.toInt rfl (by omega)) (mA (hM hs s0) x2.toInt) (fun z => z = (F, hs, G, T)) (fun r z h => h), (kt_X7_memberAt_ok l D C KR hRA F' hs mv G' s0 x2 x2.toInt rfl (by omega)), fun r z h => h, ?_, by decide, fun _ => rfl⟩
    rintro q z rfl rfl
    exact ⟨rfl, rfl, ⟨h2, h16, h17⟩, ⟨hg3, hg19⟩, ⟨tn, htn, hTu, hTv, hHB⟩, ⟨w, hw, hWu, hWv⟩⟩
  · refine ⟨1, (nI 0), o, (fun z => z = (F, hs, G, T)), (fun z => z = (upd F' 0 (nI 1), hs, mv, G')), _, wL_memberAt_x1 l D C cD K adK adV ao hDA hao (F, hs, G, T) o x1 x2 (kt_X6_memberAt_x1 l hl D C K hDA F hs G T x1 x2 x1.toInt rfl (by omega)), (kt_X7_memberAt_no l D C KR hRA F' hs mv G' x1 x2 x1.toInt rfl (by omega)), fun r z h => h, ?_, by decide, fun z => absurd z (by decide)⟩
    rintro q z rfl rfl
    exact ⟨rfl, rfl, ⟨h2, h16, h17⟩, ⟨hg3, hg19⟩, ⟨tn, htn, hTu, hTv, hHB⟩, ⟨w, hw, hWu, hWv⟩⟩

set_option maxHeartbeats 4000000 in
set_option maxRecDepth 100000 in
theorem pr_sum (l : Launch) (hl : l.stackTraces = false) (D : va_G) (C : Nat → ClassId) (cD : ClassId) (K KR adK adV : Nat → Nat) (ao : Nat) (hDA : DAp K) (hRA : RAp KR) (hao : ¬ DAd K ao) (u : CSt) (v : MSt) (o : Int64) (hI : INV u v) (x1 : Int32) : PairI (fun post => LM l yL_sum wsL_sum rw_sum D C cD K adK adV ao (OLn C ao) [.int x1] u o post) (fun post => RMl l yX7_sum wsX7_sum rm_X7_sum D C KR [.int x1] v.1 v.2.1 v.2.2.1 v.2.2.2 post) (fun r => r) := by
  obtain ⟨F, hs, G, T⟩ := u
  obtain ⟨F', hs', mv, G'⟩ := v
  obtain ⟨hh, ⟨h2, h16, h17⟩, ⟨hg3, hg19⟩, ⟨tn, htn, hTu, hTv, hHB⟩, w, hw, hWu, hWv⟩ := hI
  change hs = hs' at hh
  change F 2 = F' 2 at h2
  change F 16 = F' 16 at h16
  change F 17 = F' 17 at h17
  change G 3 = G' 3 at hg3
  change G 19 = G' 19 at hg19
  change F 4 = nI tn at hTu
  change F' 4 = nI tn at hTv
  change HB (G 3) tn at hHB
  change F 20 = nI w at hWu
  change F' 20 = nI w at hWv
  subst hh
  rcases (show (0 ≤ x1.toInt ∧ x1.toInt < 8) ∨ (¬ (0 ≤ x1.toInt ∧ x1.toInt < 8)) by omega) with hc | hc
  · obtain ⟨s0, e0, k0, q0⟩ := zi_ofm (x := x1) rfl (by omega)
    subst e0
    refine ⟨0, (lN (su (hM hs s0) 1024)), (lN (su (hM hs s0) 1024)), (fun z => z = (F, hs, G, T)), (fun z => z = (upd F' 0 (nI 0), hs, mv, G')), _, wL_sum_ok l D C cD K adK adV ao hDA hao (F, hs, G, T) o (nI s0) (kt_X6_sum_ok l D C K hDA F hs G T s0 (by omega)) (lN (su (hM hs s0) 1024)) (fun z => z = (F, hs, G, T)) (fun r z h => h), (kt_X7_sum_ok l D C KR hRA F' hs mv G' s0 (by omega)), fun r z h => h, ?_, by decide, fun _ => rfl⟩
    rintro q z rfl rfl
    exact ⟨rfl, rfl, ⟨h2, h16, h17⟩, ⟨hg3, hg19⟩, ⟨tn, htn, hTu, hTv, hHB⟩, ⟨w, hw, hWu, hWv⟩⟩
  · refine ⟨1, 0, o, (fun z => z = (F, hs, G, T)), (fun z => z = (upd F' 0 (nI 1), hs, mv, G')), _, wL_sum_x1 l D C cD K adK adV ao hDA hao (F, hs, G, T) o x1 (kt_X6_sum_x1 l hl D C K hDA F hs G T x1 x1.toInt rfl (by omega)), (kt_X7_sum_no l D C KR hRA F' hs mv G' x1 x1.toInt rfl (by omega)), fun r z h => h, ?_, by decide, fun z => absurd z (by decide)⟩
    rintro q z rfl rfl
    exact ⟨rfl, rfl, ⟨h2, h16, h17⟩, ⟨hg3, hg19⟩, ⟨tn, htn, hTu, hTv, hHB⟩, ⟨w, hw, hWu, hWv⟩⟩

set_option maxHeartbeats 4000000 in
set_option maxRecDepth 100000 in
theorem pr_runs (l : Launch) (hl : l.stackTraces = false) (D : va_G) (C : Nat → ClassId) (cD : ClassId) (K KR adK adV : Nat → Nat) (ao : Nat) (hDA : DAp K) (hRA : RAp KR) (hao : ¬ DAd K ao) (u : CSt) (v : MSt) (o : Int64) (hI : INV u v) (x1 : Int32) : PairI (fun post => LM l yL_runs wsL_runs rw_runs D C cD K adK adV ao (OLn C ao) [.int x1] u o post) (fun post => RMi l yX7_runs wsX7_runs rm_X7_runs D C KR [.int x1] v.1 v.2.1 v.2.2.1 v.2.2.2 post) Int32.toInt64 := by
  obtain ⟨F, hs, G, T⟩ := u
  obtain ⟨F', hs', mv, G'⟩ := v
  obtain ⟨hh, ⟨h2, h16, h17⟩, ⟨hg3, hg19⟩, ⟨tn, htn, hTu, hTv, hHB⟩, w, hw, hWu, hWv⟩ := hI
  change hs = hs' at hh
  change F 2 = F' 2 at h2
  change F 16 = F' 16 at h16
  change F 17 = F' 17 at h17
  change G 3 = G' 3 at hg3
  change G 19 = G' 19 at hg19
  change F 4 = nI tn at hTu
  change F' 4 = nI tn at hTv
  change HB (G 3) tn at hHB
  change F 20 = nI w at hWu
  change F' 20 = nI w at hWv
  subst hh
  rcases (show (0 ≤ x1.toInt ∧ x1.toInt < 8) ∨ (¬ (0 ≤ x1.toInt ∧ x1.toInt < 8)) by omega) with hc | hc
  · obtain ⟨s0, e0, k0, q0⟩ := zi_ofm (x := x1) rfl (by omega)
    subst e0
    refine ⟨0, (nI (ct (bg (hM hs s0)) 1024)), ((nI (ct (bg (hM hs s0)) 1024)).toInt64), (fun z => z = (F, hs, G, T)), (fun z => z = (upd F' 0 (nI 0), hs, mv, G')), _, wL_runs_ok l D C cD K adK adV ao hDA hao (F, hs, G, T) o (nI s0) (kt_X6_runs_ok l D C K hDA F hs G T s0 (by omega)) (nI (ct (bg (hM hs s0)) 1024)) (fun z => z = (F, hs, G, T)) (fun r z h => h), (kt_X7_runs_ok l D C KR hRA F' hs mv G' s0 (by omega)), fun r z h => h, ?_, by decide, fun _ => rfl⟩
    rintro q z rfl rfl
    exact ⟨rfl, rfl, ⟨h2, h16, h17⟩, ⟨hg3, hg19⟩, ⟨tn, htn, hTu, hTv, hHB⟩, ⟨w, hw, hWu, hWv⟩⟩
  · refine ⟨1, (nI 0), o, (fun z => z = (F, hs, G, T)), (fun z => z = (upd F' 0 (nI 1), hs, mv, G')), _, wL_runs_x1 l D C cD K adK adV ao hDA hao (F, hs, G, T) o x1 (kt_X6_runs_x1 l hl D C K hDA F hs G T x1 x1.toInt rfl (by omega)), (kt_X7_runs_no l D C KR hRA F' hs mv G' x1 x1.toInt rfl (by omega)), fun r z h => h, ?_, by decide, fun z => absurd z (by decide)⟩
    rintro q z rfl rfl
    exact ⟨rfl, rfl, ⟨h2, h16, h17⟩, ⟨hg3, hg19⟩, ⟨tn, htn, hTu, hTv, hHB⟩, ⟨w, hw, hWu, hWv⟩⟩

set_option maxHeartbeats 4000000 in
set_option maxRecDepth 100000 in
theorem pr_longestRun (l : Launch) (hl : l.stackTraces = false) (D : va_G) (C : Nat → ClassId) (cD : ClassId) (K KR adK adV : Nat → Nat) (ao : Nat) (hDA : DAp K) (hRA : RAp KR) (hao : ¬ DAd K ao) (u : CSt) (v : MSt) (o : Int64) (hI : INV u v) (x1 : Int32) : PairI (fun post => LM l yL_longestRun wsL_longestRun rw_longestRun D C cD K adK adV ao (OLn C ao) [.int x1] u o post) (fun post => RMi l yX7_longestRun wsX7_longestRun rm_X7_longestRun D C KR [.int x1] v.1 v.2.1 v.2.2.1 v.2.2.2 post) Int32.toInt64 := by
  obtain ⟨F, hs, G, T⟩ := u
  obtain ⟨F', hs', mv, G'⟩ := v
  obtain ⟨hh, ⟨h2, h16, h17⟩, ⟨hg3, hg19⟩, ⟨tn, htn, hTu, hTv, hHB⟩, w, hw, hWu, hWv⟩ := hI
  change hs = hs' at hh
  change F 2 = F' 2 at h2
  change F 16 = F' 16 at h16
  change F 17 = F' 17 at h17
  change G 3 = G' 3 at hg3
  change G 19 = G' 19 at hg19
  change F 4 = nI tn at hTu
  change F' 4 = nI tn at hTv
  change HB (G 3) tn at hHB
  change F 20 = nI w at hWu
  change F' 20 = nI w at hWv
  subst hh
  rcases (show (0 ≤ x1.toInt ∧ x1.toInt < 8) ∨ (¬ (0 ≤ x1.toInt ∧ x1.toInt < 8)) by omega) with hc | hc
  · obtain ⟨s0, e0, k0, q0⟩ := zi_ofm (x := x1) rfl (by omega)
    subst e0
    refine ⟨0, ((bst (hM hs s0) 1024).1), (((bst (hM hs s0) 1024).1).toInt64), (fun z => z = (F, hs, G, T)), (fun z => z = (upd F' 0 (nI 0), hs, mv, G')), _, wL_longestRun_ok l D C cD K adK adV ao hDA hao (F, hs, G, T) o (nI s0) (kt_X6_longestRun_ok l D C K hDA F hs G T s0 (by omega)) ((bst (hM hs s0) 1024).1) (fun z => z = (F, hs, G, T)) (fun r z h => h), (kt_X7_longestRun_ok l D C KR hRA F' hs mv G' s0 (by omega)), fun r z h => h, ?_, by decide, fun _ => rfl⟩
    rintro q z rfl rfl
    exact ⟨rfl, rfl, ⟨h2, h16, h17⟩, ⟨hg3, hg19⟩, ⟨tn, htn, hTu, hTv, hHB⟩, ⟨w, hw, hWu, hWv⟩⟩
  · refine ⟨1, (nI 0), o, (fun z => z = (F, hs, G, T)), (fun z => z = (upd F' 0 (nI 1), hs, mv, G')), _, wL_longestRun_x1 l D C cD K adK adV ao hDA hao (F, hs, G, T) o x1 (kt_X6_longestRun_x1 l hl D C K hDA F hs G T x1 x1.toInt rfl (by omega)), (kt_X7_longestRun_no l D C KR hRA F' hs mv G' x1 x1.toInt rfl (by omega)), fun r z h => h, ?_, by decide, fun z => absurd z (by decide)⟩
    rintro q z rfl rfl
    exact ⟨rfl, rfl, ⟨h2, h16, h17⟩, ⟨hg3, hg19⟩, ⟨tn, htn, hTu, hTv, hHB⟩, ⟨w, hw, hWu, hWv⟩⟩

set_option maxHeartbeats 4000000 in
set_option maxRecDepth 100000 in
theorem pr_areEqual (l : Launch) (hl : l.stackTraces = false) (D : va_G) (C : Nat → ClassId) (cD : ClassId) (K KR adK adV : Nat → Nat) (ao : Nat) (hDA : DAp K) (hRA : RAp KR) (hao : ¬ DAd K ao) (u : CSt) (v : MSt) (o : Int64) (hI : INV u v) (x1 : Int32) (x2 : Int32) : PairI (fun post => LM l yL_areEqual wsL_areEqual rw_areEqual D C cD K adK adV ao (OLn C ao) [.int x1, .int x2] u o post) (fun post => RMi l yX7_areEqual wsX7_areEqual rm_X7_areEqual D C KR [.int x1, .int x2] v.1 v.2.1 v.2.2.1 v.2.2.2 post) vB := by
  obtain ⟨F, hs, G, T⟩ := u
  obtain ⟨F', hs', mv, G'⟩ := v
  obtain ⟨hh, ⟨h2, h16, h17⟩, ⟨hg3, hg19⟩, ⟨tn, htn, hTu, hTv, hHB⟩, w, hw, hWu, hWv⟩ := hI
  change hs = hs' at hh
  change F 2 = F' 2 at h2
  change F 16 = F' 16 at h16
  change F 17 = F' 17 at h17
  change G 3 = G' 3 at hg3
  change G 19 = G' 19 at hg19
  change F 4 = nI tn at hTu
  change F' 4 = nI tn at hTv
  change HB (G 3) tn at hHB
  change F 20 = nI w at hWu
  change F' 20 = nI w at hWv
  subst hh
  rcases (show ((0 ≤ x1.toInt ∧ x1.toInt < 8) ∧ 0 ≤ x2.toInt ∧ x2.toInt < 8) ∨ (¬ (0 ≤ x1.toInt ∧ x1.toInt < 8)) ∨ ((0 ≤ x1.toInt ∧ x1.toInt < 8) ∧ ¬ (0 ≤ x2.toInt ∧ x2.toInt < 8)) by omega) with hc | hc | hc
  · obtain ⟨s0, e0, k0, q0⟩ := zi_ofm (x := x1) rfl (by omega)
    subst e0
    obtain ⟨o0, e1, k1, q1⟩ := zi_ofm (x := x2) rfl (by omega)
    subst e1
    refine ⟨0, (bI (decide (ct (pA (hM hs s0) (hM hs o0) true false) 1024 + ct (pA (hM hs s0) (hM hs o0) false true) 1024 = 0))), (if (bI (decide (ct (pA (hM hs s0) (hM hs o0) true false) 1024 + ct (pA (hM hs s0) (hM hs o0) false true) 1024 = 0))) = 0 then 0 else 1 : Int64), (fun z => z = (F, hs, G, T)), (fun z => z = (upd F' 0 (nI 0), hs, mv, G')), _, wL_areEqual_ok l D C cD K adK adV ao hDA hao (F, hs, G, T) o (nI s0) (nI o0) (kt_X6_areEqual_ok l D C K hDA F hs G T s0 o0 (by omega) (by omega)) (bI (decide (ct (pA (hM hs s0) (hM hs o0) true false) 1024 + ct (pA (hM hs s0) (hM hs o0) false true) 1024 = 0))) (fun z => z = (F, hs, G, T)) (fun r z h => h), (kt_X7_areEqual_ok l D C KR hRA F' hs mv G' s0 o0 (by omega) (by omega)), fun r z h => h, ?_, by decide, fun _ => rfl⟩
    rintro q z rfl rfl
    exact ⟨rfl, rfl, ⟨h2, h16, h17⟩, ⟨hg3, hg19⟩, ⟨tn, htn, hTu, hTv, hHB⟩, ⟨w, hw, hWu, hWv⟩⟩
  · refine ⟨1, (bI false), o, (fun z => z = (F, hs, G, T)), (fun z => z = (upd F' 0 (nI 1), hs, mv, G')), _, wL_areEqual_x1 l D C cD K adK adV ao hDA hao (F, hs, G, T) o x1 x2 (kt_X6_areEqual_x1 l hl D C K hDA F hs G T x1 x2 x1.toInt rfl (by omega)), (kt_X7_areEqual_no l D C KR hRA F' hs mv G' x1 x2 x1.toInt x2.toInt rfl rfl (by omega)), fun r z h => h, ?_, by decide, fun z => absurd z (by decide)⟩
    rintro q z rfl rfl
    exact ⟨rfl, rfl, ⟨h2, h16, h17⟩, ⟨hg3, hg19⟩, ⟨tn, htn, hTu, hTv, hHB⟩, ⟨w, hw, hWu, hWv⟩⟩
  · obtain ⟨s0, e0, k0, q0⟩ := zi_ofm (x := x1) rfl (by omega)
    subst e0
    refine ⟨1, (bI false), o, (fun z => z = (F, hs, G, T)), (fun z => z = (upd F' 0 (nI 1), hs, mv, G')), _, wL_areEqual_x1 l D C cD K adK adV ao hDA hao (F, hs, G, T) o (nI s0) x2 (kt_X6_areEqual_x2 l hl D C K hDA F hs G T s0 x2 x2.toInt rfl (by omega) (by omega)), (kt_X7_areEqual_no l D C KR hRA F' hs mv G' (nI s0) x2 ((nI s0)).toInt x2.toInt rfl rfl (by omega)), fun r z h => h, ?_, by decide, fun z => absurd z (by decide)⟩
    rintro q z rfl rfl
    exact ⟨rfl, rfl, ⟨h2, h16, h17⟩, ⟨hg3, hg19⟩, ⟨tn, htn, hTu, hTv, hHB⟩, ⟨w, hw, hWu, hWv⟩⟩

set_option maxHeartbeats 4000000 in
set_option maxRecDepth 100000 in
theorem pr_meet (l : Launch) (hl : l.stackTraces = false) (D : va_G) (C : Nat → ClassId) (cD : ClassId) (K KR adK adV : Nat → Nat) (ao : Nat) (hDA : DAp K) (hRA : RAp KR) (hao : ¬ DAd K ao) (u : CSt) (v : MSt) (o : Int64) (hI : INV u v) (x1 : Int32) (x2 : Int32) : PairI (fun post => LM l yL_meet wsL_meet rw_meet D C cD K adK adV ao (OLn C ao) [.int x1, .int x2] u o post) (fun post => RMi l yX7_meet wsX7_meet rm_X7_meet D C KR [.int x1, .int x2] v.1 v.2.1 v.2.2.1 v.2.2.2 post) vB := by
  obtain ⟨F, hs, G, T⟩ := u
  obtain ⟨F', hs', mv, G'⟩ := v
  obtain ⟨hh, ⟨h2, h16, h17⟩, ⟨hg3, hg19⟩, ⟨tn, htn, hTu, hTv, hHB⟩, w, hw, hWu, hWv⟩ := hI
  change hs = hs' at hh
  change F 2 = F' 2 at h2
  change F 16 = F' 16 at h16
  change F 17 = F' 17 at h17
  change G 3 = G' 3 at hg3
  change G 19 = G' 19 at hg19
  change F 4 = nI tn at hTu
  change F' 4 = nI tn at hTv
  change HB (G 3) tn at hHB
  change F 20 = nI w at hWu
  change F' 20 = nI w at hWv
  subst hh
  rcases (show ((0 ≤ x1.toInt ∧ x1.toInt < 8) ∧ 0 ≤ x2.toInt ∧ x2.toInt < 8) ∨ (¬ (0 ≤ x1.toInt ∧ x1.toInt < 8)) ∨ ((0 ≤ x1.toInt ∧ x1.toInt < 8) ∧ ¬ (0 ≤ x2.toInt ∧ x2.toInt < 8)) by omega) with hc | hc | hc
  · obtain ⟨s0, e0, k0, q0⟩ := zi_ofm (x := x1) rfl (by omega)
    subst e0
    obtain ⟨o0, e1, k1, q1⟩ := zi_ofm (x := x2) rfl (by omega)
    subst e1
    refine ⟨0, (bI (decide (0 < ct (pA (hM hs s0) (hM hs o0) true true) 1024))), (if (bI (decide (0 < ct (pA (hM hs s0) (hM hs o0) true true) 1024))) = 0 then 0 else 1 : Int64), (fun z => z = (F, hs, G, T)), (fun z => z = (upd F' 0 (nI 0), hs, mv, G')), _, wL_meet_ok l D C cD K adK adV ao hDA hao (F, hs, G, T) o (nI s0) (nI o0) (kt_X6_meet_ok l D C K hDA F hs G T s0 o0 (by omega) (by omega)) (bI (decide (0 < ct (pA (hM hs s0) (hM hs o0) true true) 1024))) (fun z => z = (F, hs, G, T)) (fun r z h => h), (kt_X7_meet_ok l D C KR hRA F' hs mv G' s0 o0 (by omega) (by omega)), fun r z h => h, ?_, by decide, fun _ => rfl⟩
    rintro q z rfl rfl
    exact ⟨rfl, rfl, ⟨h2, h16, h17⟩, ⟨hg3, hg19⟩, ⟨tn, htn, hTu, hTv, hHB⟩, ⟨w, hw, hWu, hWv⟩⟩
  · refine ⟨1, (bI false), o, (fun z => z = (F, hs, G, T)), (fun z => z = (upd F' 0 (nI 1), hs, mv, G')), _, wL_meet_x1 l D C cD K adK adV ao hDA hao (F, hs, G, T) o x1 x2 (kt_X6_meet_x1 l hl D C K hDA F hs G T x1 x2 x1.toInt rfl (by omega)), (kt_X7_meet_no l D C KR hRA F' hs mv G' x1 x2 x1.toInt x2.toInt rfl rfl (by omega)), fun r z h => h, ?_, by decide, fun z => absurd z (by decide)⟩
    rintro q z rfl rfl
    exact ⟨rfl, rfl, ⟨h2, h16, h17⟩, ⟨hg3, hg19⟩, ⟨tn, htn, hTu, hTv, hHB⟩, ⟨w, hw, hWu, hWv⟩⟩
  · obtain ⟨s0, e0, k0, q0⟩ := zi_ofm (x := x1) rfl (by omega)
    subst e0
    refine ⟨1, (bI false), o, (fun z => z = (F, hs, G, T)), (fun z => z = (upd F' 0 (nI 1), hs, mv, G')), _, wL_meet_x1 l D C cD K adK adV ao hDA hao (F, hs, G, T) o (nI s0) x2 (kt_X6_meet_x2 l hl D C K hDA F hs G T s0 x2 x2.toInt rfl (by omega) (by omega)), (kt_X7_meet_no l D C KR hRA F' hs mv G' (nI s0) x2 ((nI s0)).toInt x2.toInt rfl rfl (by omega)), fun r z h => h, ?_, by decide, fun z => absurd z (by decide)⟩
    rintro q z rfl rfl
    exact ⟨rfl, rfl, ⟨h2, h16, h17⟩, ⟨hg3, hg19⟩, ⟨tn, htn, hTu, hTv, hHB⟩, ⟨w, hw, hWu, hWv⟩⟩

set_option maxHeartbeats 4000000 in
set_option maxRecDepth 100000 in
theorem pr_isWithin (l : Launch) (hl : l.stackTraces = false) (D : va_G) (C : Nat → ClassId) (cD : ClassId) (K KR adK adV : Nat → Nat) (ao : Nat) (hDA : DAp K) (hRA : RAp KR) (hao : ¬ DAd K ao) (u : CSt) (v : MSt) (o : Int64) (hI : INV u v) (x1 : Int32) (x2 : Int32) : PairI (fun post => LM l yL_isWithin wsL_isWithin rw_isWithin D C cD K adK adV ao (OLn C ao) [.int x1, .int x2] u o post) (fun post => RMi l yX7_isWithin wsX7_isWithin rm_X7_isWithin D C KR [.int x1, .int x2] v.1 v.2.1 v.2.2.1 v.2.2.2 post) vB := by
  obtain ⟨F, hs, G, T⟩ := u
  obtain ⟨F', hs', mv, G'⟩ := v
  obtain ⟨hh, ⟨h2, h16, h17⟩, ⟨hg3, hg19⟩, ⟨tn, htn, hTu, hTv, hHB⟩, w, hw, hWu, hWv⟩ := hI
  change hs = hs' at hh
  change F 2 = F' 2 at h2
  change F 16 = F' 16 at h16
  change F 17 = F' 17 at h17
  change G 3 = G' 3 at hg3
  change G 19 = G' 19 at hg19
  change F 4 = nI tn at hTu
  change F' 4 = nI tn at hTv
  change HB (G 3) tn at hHB
  change F 20 = nI w at hWu
  change F' 20 = nI w at hWv
  subst hh
  rcases (show ((0 ≤ x1.toInt ∧ x1.toInt < 8) ∧ 0 ≤ x2.toInt ∧ x2.toInt < 8) ∨ (¬ (0 ≤ x1.toInt ∧ x1.toInt < 8)) ∨ ((0 ≤ x1.toInt ∧ x1.toInt < 8) ∧ ¬ (0 ≤ x2.toInt ∧ x2.toInt < 8)) by omega) with hc | hc | hc
  · obtain ⟨s0, e0, k0, q0⟩ := zi_ofm (x := x1) rfl (by omega)
    subst e0
    obtain ⟨o0, e1, k1, q1⟩ := zi_ofm (x := x2) rfl (by omega)
    subst e1
    refine ⟨0, (bI (decide (ct (pA (hM hs s0) (hM hs o0) true false) 1024 = 0))), (if (bI (decide (ct (pA (hM hs s0) (hM hs o0) true false) 1024 = 0))) = 0 then 0 else 1 : Int64), (fun z => z = (F, hs, G, T)), (fun z => z = (upd F' 0 (nI 0), hs, mv, G')), _, wL_isWithin_ok l D C cD K adK adV ao hDA hao (F, hs, G, T) o (nI s0) (nI o0) (kt_X6_isWithin_ok l D C K hDA F hs G T s0 o0 (by omega) (by omega)) (bI (decide (ct (pA (hM hs s0) (hM hs o0) true false) 1024 = 0))) (fun z => z = (F, hs, G, T)) (fun r z h => h), (kt_X7_isWithin_ok l D C KR hRA F' hs mv G' s0 o0 (by omega) (by omega)), fun r z h => h, ?_, by decide, fun _ => rfl⟩
    rintro q z rfl rfl
    exact ⟨rfl, rfl, ⟨h2, h16, h17⟩, ⟨hg3, hg19⟩, ⟨tn, htn, hTu, hTv, hHB⟩, ⟨w, hw, hWu, hWv⟩⟩
  · refine ⟨1, (bI false), o, (fun z => z = (F, hs, G, T)), (fun z => z = (upd F' 0 (nI 1), hs, mv, G')), _, wL_isWithin_x1 l D C cD K adK adV ao hDA hao (F, hs, G, T) o x1 x2 (kt_X6_isWithin_x1 l hl D C K hDA F hs G T x1 x2 x1.toInt rfl (by omega)), (kt_X7_isWithin_no l D C KR hRA F' hs mv G' x1 x2 x1.toInt x2.toInt rfl rfl (by omega)), fun r z h => h, ?_, by decide, fun z => absurd z (by decide)⟩
    rintro q z rfl rfl
    exact ⟨rfl, rfl, ⟨h2, h16, h17⟩, ⟨hg3, hg19⟩, ⟨tn, htn, hTu, hTv, hHB⟩, ⟨w, hw, hWu, hWv⟩⟩
  · obtain ⟨s0, e0, k0, q0⟩ := zi_ofm (x := x1) rfl (by omega)
    subst e0
    refine ⟨1, (bI false), o, (fun z => z = (F, hs, G, T)), (fun z => z = (upd F' 0 (nI 1), hs, mv, G')), _, wL_isWithin_x1 l D C cD K adK adV ao hDA hao (F, hs, G, T) o (nI s0) x2 (kt_X6_isWithin_x2 l hl D C K hDA F hs G T s0 x2 x2.toInt rfl (by omega) (by omega)), (kt_X7_isWithin_no l D C KR hRA F' hs mv G' (nI s0) x2 ((nI s0)).toInt x2.toInt rfl rfl (by omega)), fun r z h => h, ?_, by decide, fun z => absurd z (by decide)⟩
    rintro q z rfl rfl
    exact ⟨rfl, rfl, ⟨h2, h16, h17⟩, ⟨hg3, hg19⟩, ⟨tn, htn, hTu, hTv, hHB⟩, ⟨w, hw, hWu, hWv⟩⟩

set_option maxHeartbeats 4000000 in
set_option maxRecDepth 100000 in
theorem pr_unionCount (l : Launch) (hl : l.stackTraces = false) (D : va_G) (C : Nat → ClassId) (cD : ClassId) (K KR adK adV : Nat → Nat) (ao : Nat) (hDA : DAp K) (hRA : RAp KR) (hao : ¬ DAd K ao) (u : CSt) (v : MSt) (o : Int64) (hI : INV u v) (x1 : Int32) (x2 : Int32) : PairI (fun post => LM l yL_unionCount wsL_unionCount rw_unionCount D C cD K adK adV ao (OLn C ao) [.int x1, .int x2] u o post) (fun post => RMi l yX7_unionCount wsX7_unionCount rm_X7_unionCount D C KR [.int x1, .int x2] v.1 v.2.1 v.2.2.1 v.2.2.2 post) Int32.toInt64 := by
  obtain ⟨F, hs, G, T⟩ := u
  obtain ⟨F', hs', mv, G'⟩ := v
  obtain ⟨hh, ⟨h2, h16, h17⟩, ⟨hg3, hg19⟩, ⟨tn, htn, hTu, hTv, hHB⟩, w, hw, hWu, hWv⟩ := hI
  change hs = hs' at hh
  change F 2 = F' 2 at h2
  change F 16 = F' 16 at h16
  change F 17 = F' 17 at h17
  change G 3 = G' 3 at hg3
  change G 19 = G' 19 at hg19
  change F 4 = nI tn at hTu
  change F' 4 = nI tn at hTv
  change HB (G 3) tn at hHB
  change F 20 = nI w at hWu
  change F' 20 = nI w at hWv
  subst hh
  rcases (show ((0 ≤ x1.toInt ∧ x1.toInt < 8) ∧ 0 ≤ x2.toInt ∧ x2.toInt < 8) ∨ (¬ (0 ≤ x1.toInt ∧ x1.toInt < 8)) ∨ ((0 ≤ x1.toInt ∧ x1.toInt < 8) ∧ ¬ (0 ≤ x2.toInt ∧ x2.toInt < 8)) by omega) with hc | hc | hc
  · obtain ⟨s0, e0, k0, q0⟩ := zi_ofm (x := x1) rfl (by omega)
    subst e0
    obtain ⟨o0, e1, k1, q1⟩ := zi_ofm (x := x2) rfl (by omega)
    subst e1
    refine ⟨0, (nI (1024 - ct (pA (hM hs s0) (hM hs o0) false false) 1024)), ((nI (1024 - ct (pA (hM hs s0) (hM hs o0) false false) 1024)).toInt64), (fun z => z = (F, hs, G, T)), (fun z => z = (upd F' 0 (nI 0), hs, mv, G')), _, wL_unionCount_ok l D C cD K adK adV ao hDA hao (F, hs, G, T) o (nI s0) (nI o0) (kt_X6_unionCount_ok l D C K hDA F hs G T s0 o0 (by omega) (by omega)) (nI (1024 - ct (pA (hM hs s0) (hM hs o0) false false) 1024)) (fun z => z = (F, hs, G, T)) (fun r z h => h), (kt_X7_unionCount_ok l D C KR hRA F' hs mv G' s0 o0 (by omega) (by omega)), fun r z h => h, ?_, by decide, fun _ => rfl⟩
    rintro q z rfl rfl
    exact ⟨rfl, rfl, ⟨h2, h16, h17⟩, ⟨hg3, hg19⟩, ⟨tn, htn, hTu, hTv, hHB⟩, ⟨w, hw, hWu, hWv⟩⟩
  · refine ⟨1, (nI 0), o, (fun z => z = (F, hs, G, T)), (fun z => z = (upd F' 0 (nI 1), hs, mv, G')), _, wL_unionCount_x1 l D C cD K adK adV ao hDA hao (F, hs, G, T) o x1 x2 (kt_X6_unionCount_x1 l hl D C K hDA F hs G T x1 x2 x1.toInt rfl (by omega)), (kt_X7_unionCount_no l D C KR hRA F' hs mv G' x1 x2 x1.toInt x2.toInt rfl rfl (by omega)), fun r z h => h, ?_, by decide, fun z => absurd z (by decide)⟩
    rintro q z rfl rfl
    exact ⟨rfl, rfl, ⟨h2, h16, h17⟩, ⟨hg3, hg19⟩, ⟨tn, htn, hTu, hTv, hHB⟩, ⟨w, hw, hWu, hWv⟩⟩
  · obtain ⟨s0, e0, k0, q0⟩ := zi_ofm (x := x1) rfl (by omega)
    subst e0
    refine ⟨1, (nI 0), o, (fun z => z = (F, hs, G, T)), (fun z => z = (upd F' 0 (nI 1), hs, mv, G')), _, wL_unionCount_x1 l D C cD K adK adV ao hDA hao (F, hs, G, T) o (nI s0) x2 (kt_X6_unionCount_x2 l hl D C K hDA F hs G T s0 x2 x2.toInt rfl (by omega) (by omega)), (kt_X7_unionCount_no l D C KR hRA F' hs mv G' (nI s0) x2 ((nI s0)).toInt x2.toInt rfl rfl (by omega)), fun r z h => h, ?_, by decide, fun z => absurd z (by decide)⟩
    rintro q z rfl rfl
    exact ⟨rfl, rfl, ⟨h2, h16, h17⟩, ⟨hg3, hg19⟩, ⟨tn, htn, hTu, hTv, hHB⟩, ⟨w, hw, hWu, hWv⟩⟩

set_option maxHeartbeats 4000000 in
set_option maxRecDepth 100000 in
theorem pr_distance (l : Launch) (hl : l.stackTraces = false) (D : va_G) (C : Nat → ClassId) (cD : ClassId) (K KR adK adV : Nat → Nat) (ao : Nat) (hDA : DAp K) (hRA : RAp KR) (hao : ¬ DAd K ao) (u : CSt) (v : MSt) (o : Int64) (hI : INV u v) (x1 : Int32) (x2 : Int32) : PairI (fun post => LM l yL_distance wsL_distance rw_distance D C cD K adK adV ao (OLn C ao) [.int x1, .int x2] u o post) (fun post => RMi l yX7_distance wsX7_distance rm_X7_distance D C KR [.int x1, .int x2] v.1 v.2.1 v.2.2.1 v.2.2.2 post) Int32.toInt64 := by
  obtain ⟨F, hs, G, T⟩ := u
  obtain ⟨F', hs', mv, G'⟩ := v
  obtain ⟨hh, ⟨h2, h16, h17⟩, ⟨hg3, hg19⟩, ⟨tn, htn, hTu, hTv, hHB⟩, w, hw, hWu, hWv⟩ := hI
  change hs = hs' at hh
  change F 2 = F' 2 at h2
  change F 16 = F' 16 at h16
  change F 17 = F' 17 at h17
  change G 3 = G' 3 at hg3
  change G 19 = G' 19 at hg19
  change F 4 = nI tn at hTu
  change F' 4 = nI tn at hTv
  change HB (G 3) tn at hHB
  change F 20 = nI w at hWu
  change F' 20 = nI w at hWv
  subst hh
  rcases (show ((0 ≤ x1.toInt ∧ x1.toInt < 8) ∧ 0 ≤ x2.toInt ∧ x2.toInt < 8) ∨ (¬ (0 ≤ x1.toInt ∧ x1.toInt < 8)) ∨ ((0 ≤ x1.toInt ∧ x1.toInt < 8) ∧ ¬ (0 ≤ x2.toInt ∧ x2.toInt < 8)) by omega) with hc | hc | hc
  · obtain ⟨s0, e0, k0, q0⟩ := zi_ofm (x := x1) rfl (by omega)
    subst e0
    obtain ⟨o0, e1, k1, q1⟩ := zi_ofm (x := x2) rfl (by omega)
    subst e1
    refine ⟨0, (nI (ct (pA (hM hs s0) (hM hs o0) true false) 1024 + ct (pA (hM hs s0) (hM hs o0) false true) 1024)), ((nI (ct (pA (hM hs s0) (hM hs o0) true false) 1024 + ct (pA (hM hs s0) (hM hs o0) false true) 1024)).toInt64), (fun z => z = (F, hs, G, T)), (fun z => z = (upd F' 0 (nI 0), hs, mv, G')), _, wL_distance_ok l D C cD K adK adV ao hDA hao (F, hs, G, T) o (nI s0) (nI o0) (kt_X6_distance_ok l D C K hDA F hs G T s0 o0 (by omega) (by omega)) (nI (ct (pA (hM hs s0) (hM hs o0) true false) 1024 + ct (pA (hM hs s0) (hM hs o0) false true) 1024)) (fun z => z = (F, hs, G, T)) (fun r z h => h), (kt_X7_distance_ok l D C KR hRA F' hs mv G' s0 o0 (by omega) (by omega)), fun r z h => h, ?_, by decide, fun _ => rfl⟩
    rintro q z rfl rfl
    exact ⟨rfl, rfl, ⟨h2, h16, h17⟩, ⟨hg3, hg19⟩, ⟨tn, htn, hTu, hTv, hHB⟩, ⟨w, hw, hWu, hWv⟩⟩
  · refine ⟨1, (nI 0), o, (fun z => z = (F, hs, G, T)), (fun z => z = (upd F' 0 (nI 1), hs, mv, G')), _, wL_distance_x1 l D C cD K adK adV ao hDA hao (F, hs, G, T) o x1 x2 (kt_X6_distance_x1 l hl D C K hDA F hs G T x1 x2 x1.toInt rfl (by omega)), (kt_X7_distance_no l D C KR hRA F' hs mv G' x1 x2 x1.toInt x2.toInt rfl rfl (by omega)), fun r z h => h, ?_, by decide, fun z => absurd z (by decide)⟩
    rintro q z rfl rfl
    exact ⟨rfl, rfl, ⟨h2, h16, h17⟩, ⟨hg3, hg19⟩, ⟨tn, htn, hTu, hTv, hHB⟩, ⟨w, hw, hWu, hWv⟩⟩
  · obtain ⟨s0, e0, k0, q0⟩ := zi_ofm (x := x1) rfl (by omega)
    subst e0
    refine ⟨1, (nI 0), o, (fun z => z = (F, hs, G, T)), (fun z => z = (upd F' 0 (nI 1), hs, mv, G')), _, wL_distance_x1 l D C cD K adK adV ao hDA hao (F, hs, G, T) o (nI s0) x2 (kt_X6_distance_x2 l hl D C K hDA F hs G T s0 x2 x2.toInt rfl (by omega) (by omega)), (kt_X7_distance_no l D C KR hRA F' hs mv G' (nI s0) x2 ((nI s0)).toInt x2.toInt rfl rfl (by omega)), fun r z h => h, ?_, by decide, fun z => absurd z (by decide)⟩
    rintro q z rfl rfl
    exact ⟨rfl, rfl, ⟨h2, h16, h17⟩, ⟨hg3, hg19⟩, ⟨tn, htn, hTu, hTv, hHB⟩, ⟨w, hw, hWu, hWv⟩⟩

set_option maxHeartbeats 4000000 in
set_option maxRecDepth 100000 in
theorem pr_firstCommon (l : Launch) (hl : l.stackTraces = false) (D : va_G) (C : Nat → ClassId) (cD : ClassId) (K KR adK adV : Nat → Nat) (ao : Nat) (hDA : DAp K) (hRA : RAp KR) (hao : ¬ DAd K ao) (u : CSt) (v : MSt) (o : Int64) (hI : INV u v) (x1 : Int32) (x2 : Int32) : PairI (fun post => LM l yL_firstCommon wsL_firstCommon rw_firstCommon D C cD K adK adV ao (OLn C ao) [.int x1, .int x2] u o post) (fun post => RMi l yX7_firstCommon wsX7_firstCommon rm_X7_firstCommon D C KR [.int x1, .int x2] v.1 v.2.1 v.2.2.1 v.2.2.2 post) Int32.toInt64 := by
  obtain ⟨F, hs, G, T⟩ := u
  obtain ⟨F', hs', mv, G'⟩ := v
  obtain ⟨hh, ⟨h2, h16, h17⟩, ⟨hg3, hg19⟩, ⟨tn, htn, hTu, hTv, hHB⟩, w, hw, hWu, hWv⟩ := hI
  change hs = hs' at hh
  change F 2 = F' 2 at h2
  change F 16 = F' 16 at h16
  change F 17 = F' 17 at h17
  change G 3 = G' 3 at hg3
  change G 19 = G' 19 at hg19
  change F 4 = nI tn at hTu
  change F' 4 = nI tn at hTv
  change HB (G 3) tn at hHB
  change F 20 = nI w at hWu
  change F' 20 = nI w at hWv
  subst hh
  rcases (show ((0 ≤ x1.toInt ∧ x1.toInt < 8) ∧ 0 ≤ x2.toInt ∧ x2.toInt < 8) ∨ (¬ (0 ≤ x1.toInt ∧ x1.toInt < 8)) ∨ ((0 ≤ x1.toInt ∧ x1.toInt < 8) ∧ ¬ (0 ≤ x2.toInt ∧ x2.toInt < 8)) by omega) with hc | hc | hc
  · obtain ⟨s0, e0, k0, q0⟩ := zi_ofm (x := x1) rfl (by omega)
    subst e0
    obtain ⟨o0, e1, k1, q1⟩ := zi_ofm (x := x2) rfl (by omega)
    subst e1
    refine ⟨0, (nx (fun i => hM hs s0 i && hM hs o0 i) 0), ((nx (fun i => hM hs s0 i && hM hs o0 i) 0).toInt64), (fun z => z = (F, hs, G, T)), (fun z => z = (upd F' 0 (nI 0), hs, mv, G')), _, wL_firstCommon_ok l D C cD K adK adV ao hDA hao (F, hs, G, T) o (nI s0) (nI o0) (kt_X6_firstCommon_ok l D C K hDA F hs G T s0 o0 (by omega) (by omega)) (nx (fun i => hM hs s0 i && hM hs o0 i) 0) (fun z => z = (F, hs, G, T)) (fun r z h => h), (kt_X7_firstCommon_ok l D C KR hRA F' hs mv G' s0 o0 (by omega) (by omega)), fun r z h => h, ?_, by decide, fun _ => rfl⟩
    rintro q z rfl rfl
    exact ⟨rfl, rfl, ⟨h2, h16, h17⟩, ⟨hg3, hg19⟩, ⟨tn, htn, hTu, hTv, hHB⟩, ⟨w, hw, hWu, hWv⟩⟩
  · refine ⟨1, (nI 0), o, (fun z => z = (F, hs, G, T)), (fun z => z = (upd F' 0 (nI 1), hs, mv, G')), _, wL_firstCommon_x1 l D C cD K adK adV ao hDA hao (F, hs, G, T) o x1 x2 (kt_X6_firstCommon_x1 l hl D C K hDA F hs G T x1 x2 x1.toInt rfl (by omega)), (kt_X7_firstCommon_no l D C KR hRA F' hs mv G' x1 x2 x1.toInt x2.toInt rfl rfl (by omega)), fun r z h => h, ?_, by decide, fun z => absurd z (by decide)⟩
    rintro q z rfl rfl
    exact ⟨rfl, rfl, ⟨h2, h16, h17⟩, ⟨hg3, hg19⟩, ⟨tn, htn, hTu, hTv, hHB⟩, ⟨w, hw, hWu, hWv⟩⟩
  · obtain ⟨s0, e0, k0, q0⟩ := zi_ofm (x := x1) rfl (by omega)
    subst e0
    refine ⟨1, (nI 0), o, (fun z => z = (F, hs, G, T)), (fun z => z = (upd F' 0 (nI 1), hs, mv, G')), _, wL_firstCommon_x1 l D C cD K adK adV ao hDA hao (F, hs, G, T) o (nI s0) x2 (kt_X6_firstCommon_x2 l hl D C K hDA F hs G T s0 x2 x2.toInt rfl (by omega) (by omega)), (kt_X7_firstCommon_no l D C KR hRA F' hs mv G' (nI s0) x2 ((nI s0)).toInt x2.toInt rfl rfl (by omega)), fun r z h => h, ?_, by decide, fun z => absurd z (by decide)⟩
    rintro q z rfl rfl
    exact ⟨rfl, rfl, ⟨h2, h16, h17⟩, ⟨hg3, hg19⟩, ⟨tn, htn, hTu, hTv, hHB⟩, ⟨w, hw, hWu, hWv⟩⟩

set_option maxHeartbeats 4000000 in
set_option maxRecDepth 100000 in
theorem pr_write (l : Launch) (hl : l.stackTraces = false) (D : va_G) (C : Nat → ClassId) (cD : ClassId) (K KR adK adV : Nat → Nat) (ao : Nat) (hDA : DAp K) (hRA : RAp KR) (hao : ¬ DAd K ao) (u : CSt) (v : MSt) (o : Int64) (hI : INV u v) (x1 : Int32) : PairI (fun post => LM l yL_write wsL_write rw_write D C cD K adK adV ao (OLn C ao) [.int x1] u o post) (fun post => RMi l yX7_write wsX7_write rm_X7_write D C KR [.int x1] v.1 v.2.1 v.2.2.1 v.2.2.2 post) Int32.toInt64 := by
  obtain ⟨F, hs, G, T⟩ := u
  obtain ⟨F', hs', mv, G'⟩ := v
  obtain ⟨hh, ⟨h2, h16, h17⟩, ⟨hg3, hg19⟩, ⟨tn, htn, hTu, hTv, hHB⟩, w, hw, hWu, hWv⟩ := hI
  change hs = hs' at hh
  change F 2 = F' 2 at h2
  change F 16 = F' 16 at h16
  change F 17 = F' 17 at h17
  change G 3 = G' 3 at hg3
  change G 19 = G' 19 at hg19
  change F 4 = nI tn at hTu
  change F' 4 = nI tn at hTv
  change HB (G 3) tn at hHB
  change F 20 = nI w at hWu
  change F' 20 = nI w at hWv
  subst hh
  rcases (show (0 ≤ x1.toInt ∧ x1.toInt < 8) ∨ (¬ (0 ≤ x1.toInt ∧ x1.toInt < 8)) by omega) with hc | hc
  · obtain ⟨s0, e0, k0, q0⟩ := zi_ofm (x := x1) rfl (by omega)
    subst e0
    refine ⟨0, (nI ((wT (hM hs s0) (G' 19)).2)), ((nI ((wT (hM hs s0) (G 19)).2)).toInt64), (fun z => z = (upd F 20 (nI ((wT (hM hs s0) (G 19)).2)), hs, va_up G 19 ((wT (hM hs s0) (G 19)).1), T)), (fun z => z = (upd (upd F' 0 (nI 0)) 20 (nI ((wT (hM hs s0) (G' 19)).2)), hs, mv, va_up G' 19 ((wT (hM hs s0) (G' 19)).1))), _, wL_write_ok l D C cD K adK adV ao hDA hao (F, hs, G, T) o (nI s0) (kt_X6_write_ok l D C K hDA F hs G T s0 (by omega)) (nI ((wT (hM hs s0) (G 19)).2)) (fun z => z = (upd F 20 (nI ((wT (hM hs s0) (G 19)).2)), hs, va_up G 19 ((wT (hM hs s0) (G 19)).1), T)) (fun r z h => h), (kt_X7_write_ok l D C KR hRA F' hs mv G' s0 (by omega)), fun r z h => h, ?_, by decide, fun _ => by rw [hg19]⟩
    rintro q z rfl rfl
    exact ⟨rfl, rfl, ⟨h2, h16, h17⟩, ⟨hg3, (by rw [hg19] <;> rfl)⟩, ⟨tn, htn, hTu, hTv, hHB⟩, ⟨_, wT_le, rfl, (by rw [hg19] <;> rfl)⟩⟩
  · refine ⟨1, (nI 0), o, (fun z => z = (F, hs, G, T)), (fun z => z = (upd F' 0 (nI 1), hs, mv, G')), _, wL_write_x1 l D C cD K adK adV ao hDA hao (F, hs, G, T) o x1 (kt_X6_write_x1 l hl D C K hDA F hs G T x1 x1.toInt rfl (by omega)), (kt_X7_write_no l D C KR hRA F' hs mv G' x1 x1.toInt rfl (by omega)), fun r z h => h, ?_, by decide, fun z => absurd z (by decide)⟩
    rintro q z rfl rfl
    exact ⟨rfl, rfl, ⟨h2, h16, h17⟩, ⟨hg3, hg19⟩, ⟨tn, htn, hTu, hTv, hHB⟩, ⟨w, hw, hWu, hWv⟩⟩

set_option maxHeartbeats 4000000 in
set_option maxRecDepth 100000 in
theorem pr_writtenAt (l : Launch) (hl : l.stackTraces = false) (D : va_G) (C : Nat → ClassId) (cD : ClassId) (K KR adK adV : Nat → Nat) (ao : Nat) (hDA : DAp K) (hRA : RAp KR) (hao : ¬ DAd K ao) (u : CSt) (v : MSt) (o : Int64) (hI : INV u v) (x1 : Int32) : PairI (fun post => LM l yL_writtenAt wsL_writtenAt rw_writtenAt D C cD K adK adV ao (OLn C ao) [.int x1] u o post) (fun post => RMi l yX7_writtenAt wsX7_writtenAt rm_X7_writtenAt D C KR [.int x1] v.1 v.2.1 v.2.2.1 v.2.2.2 post) Int32.toInt64 := by
  obtain ⟨F, hs, G, T⟩ := u
  obtain ⟨F', hs', mv, G'⟩ := v
  obtain ⟨hh, ⟨h2, h16, h17⟩, ⟨hg3, hg19⟩, ⟨tn, htn, hTu, hTv, hHB⟩, w, hw, hWu, hWv⟩ := hI
  change hs = hs' at hh
  change F 2 = F' 2 at h2
  change F 16 = F' 16 at h16
  change F 17 = F' 17 at h17
  change G 3 = G' 3 at hg3
  change G 19 = G' 19 at hg19
  change F 4 = nI tn at hTu
  change F' 4 = nI tn at hTv
  change HB (G 3) tn at hHB
  change F 20 = nI w at hWu
  change F' 20 = nI w at hWv
  subst hh
  rcases (show (0 ≤ x1.toInt ∧ x1.toInt < (w : Int)) ∨ (¬ (0 ≤ x1.toInt ∧ x1.toInt < (w : Int))) by omega) with hc | hc
  · obtain ⟨i0, e0, k0, q0⟩ := zi_ofm (x := x1) rfl (by omega)
    subst e0
    refine ⟨0, (G' 19 i0), ((G 19 i0).toInt64), (fun z => z = (F, hs, G, T)), (fun z => z = (upd F' 0 (nI 0), hs, mv, G')), _, wL_writtenAt_ok l D C cD K adK adV ao hDA hao (F, hs, G, T) o (nI i0) (kt_X6_writtenAt_ok l D C K hDA F hs G T w i0 hWu hw (by omega)) (G 19 i0) (fun z => z = (F, hs, G, T)) (fun r z h => h), (kt_X7_writtenAt_ok l D C KR hRA F' hs mv G' w i0 hWv (by omega) (by omega)), fun r z h => h, ?_, by decide, fun _ => by show (G 19 i0).toInt64 = (G' 19 i0).toInt64; rw [hg19]⟩
    rintro q z rfl rfl
    exact ⟨rfl, rfl, ⟨h2, h16, h17⟩, ⟨hg3, hg19⟩, ⟨tn, htn, hTu, hTv, hHB⟩, ⟨w, hw, hWu, hWv⟩⟩
  · refine ⟨1, (nI 0), o, (fun z => z = (F, hs, G, T)), (fun z => z = (upd F' 0 (nI 1), hs, mv, G')), _, wL_writtenAt_x1 l D C cD K adK adV ao hDA hao (F, hs, G, T) o x1 (kt_X6_writtenAt_x1 l hl D C K hDA F hs G T w x1 x1.toInt rfl hWu hw (by omega)), (kt_X7_writtenAt_no l D C KR hRA F' hs mv G' w x1 x1.toInt rfl hWv (by omega) (by omega)), fun r z h => h, ?_, by decide, fun z => absurd z (by decide)⟩
    rintro q z rfl rfl
    exact ⟨rfl, rfl, ⟨h2, h16, h17⟩, ⟨hg3, hg19⟩, ⟨tn, htn, hTu, hTv, hHB⟩, ⟨w, hw, hWu, hWv⟩⟩

set_option maxHeartbeats 4000000 in
set_option maxRecDepth 100000 in
theorem pr_share (l : Launch) (hl : l.stackTraces = false) (D : va_G) (C : Nat → ClassId) (cD : ClassId) (K KR adK adV : Nat → Nat) (ao : Nat) (hDA : DAp K) (hRA : RAp KR) (hao : ¬ DAd K ao) (u : CSt) (v : MSt) (o : UInt64) (hI : INV u v) (x1 : Int32) (x2 : Int32) : PairD (fun post => LM l yL_share wsL_share rw_share D C cD K adK adV ao (ODn cD ao) [.int x1, .int x2] u o post) (fun post => RMf l yX7_share wsX7_share rm_X7_share D C KR [.int x1, .int x2] v.1 v.2.1 v.2.2.1 v.2.2.2 post) := by
  obtain ⟨F, hs, G, T⟩ := u
  obtain ⟨F', hs', mv, G'⟩ := v
  obtain ⟨hh, ⟨h2, h16, h17⟩, ⟨hg3, hg19⟩, ⟨tn, htn, hTu, hTv, hHB⟩, w, hw, hWu, hWv⟩ := hI
  change hs = hs' at hh
  change F 2 = F' 2 at h2
  change F 16 = F' 16 at h16
  change F 17 = F' 17 at h17
  change G 3 = G' 3 at hg3
  change G 19 = G' 19 at hg19
  change F 4 = nI tn at hTu
  change F' 4 = nI tn at hTv
  change HB (G 3) tn at hHB
  change F 20 = nI w at hWu
  change F' 20 = nI w at hWv
  subst hh
  rcases (show ((0 ≤ x1.toInt ∧ x1.toInt < 8) ∧ 1 ≤ x2.toInt ∧ x2.toInt ≤ 1024) ∨ (¬ (0 ≤ x1.toInt ∧ x1.toInt < 8)) ∨ ((0 ≤ x1.toInt ∧ x1.toInt < 8) ∧ ¬ (1 ≤ x2.toInt ∧ x2.toInt ≤ 1024)) by omega) with hc | hc | hc
  · obtain ⟨s0, e0, k0, q0⟩ := zi_ofm (x := x1) rfl (by omega)
    subst e0
    obtain ⟨t, e1, k1, q1⟩ := zi_ofm (x := x2) rfl (by omega)
    subst e1
    refine ⟨0, (FP.fdiv (FP.i2f (nI (ct (pC (hM hs s0) 0 t) 1024))) (FP.i2f (nI t))), (FP.f2d (FP.fdiv (FP.i2f (nI (ct (pC (hM hs s0) 0 t) 1024))) (FP.i2f (nI t)))), (fun z => z = (F, hs, G, T)), (fun z => z = (upd F' 0 (nI 0), hs, mv, G')), _, wL_share_ok l D C cD K adK adV ao hDA hao (F, hs, G, T) o (nI s0) (nI t) (kt_X6_share_ok l D C K hDA F hs G T s0 t (by omega) (by omega)) (FP.fdiv (FP.i2f (nI (ct (pC (hM hs s0) 0 t) 1024))) (FP.i2f (nI t))) (fun z => z = (F, hs, G, T)) (fun r z h => h) (fl_f2d (fl_share (by omega) (by omega))), (kt_X7_share_ok l D C KR hRA F' hs mv G' s0 t (by omega) (by omega)), fun r z h => h, ?_, by decide, fun _ => ⟨rfl, fl_share (by omega) (by omega)⟩⟩
    rintro q z rfl rfl
    exact ⟨rfl, rfl, ⟨h2, h16, h17⟩, ⟨hg3, hg19⟩, ⟨tn, htn, hTu, hTv, hHB⟩, ⟨w, hw, hWu, hWv⟩⟩
  · refine ⟨1, FP.fconst0, o, (fun z => z = (F, hs, G, T)), (fun z => z = (upd F' 0 (nI 1), hs, mv, G')), _, wL_share_x1 l D C cD K adK adV ao hDA hao (F, hs, G, T) o x1 x2 (kt_X6_share_x1 l hl D C K hDA F hs G T x1 x2 x1.toInt rfl (by omega)), (kt_X7_share_no l D C KR hRA F' hs mv G' x1 x2 x1.toInt x2.toInt rfl rfl (by omega)), fun r z h => h, ?_, by decide, fun z => absurd z (by decide)⟩
    rintro q z rfl rfl
    exact ⟨rfl, rfl, ⟨h2, h16, h17⟩, ⟨hg3, hg19⟩, ⟨tn, htn, hTu, hTv, hHB⟩, ⟨w, hw, hWu, hWv⟩⟩
  · obtain ⟨s0, e0, k0, q0⟩ := zi_ofm (x := x1) rfl (by omega)
    subst e0
    refine ⟨1, FP.fconst0, o, (fun z => z = (F, hs, G, T)), (fun z => z = (upd F' 0 (nI 1), hs, mv, G')), _, wL_share_x1 l D C cD K adK adV ao hDA hao (F, hs, G, T) o (nI s0) x2 (kt_X6_share_x2 l hl D C K hDA F hs G T s0 x2 x2.toInt rfl (by omega) (by omega)), (kt_X7_share_no l D C KR hRA F' hs mv G' (nI s0) x2 ((nI s0)).toInt x2.toInt rfl rfl (by omega)), fun r z h => h, ?_, by decide, fun z => absurd z (by decide)⟩
    rintro q z rfl rfl
    exact ⟨rfl, rfl, ⟨h2, h16, h17⟩, ⟨hg3, hg19⟩, ⟨tn, htn, hTu, hTv, hHB⟩, ⟨w, hw, hWu, hWv⟩⟩

set_option maxHeartbeats 4000000 in
set_option maxRecDepth 100000 in
theorem pr_run (l : Launch) (hl : l.stackTraces = false) (D : va_G) (C : Nat → ClassId) (cD : ClassId) (K KR adK adV : Nat → Nat) (ao : Nat) (hDA : DAp K) (hRA : RAp KR) (hao : ¬ DAd K ao) (u : CSt) (v : MSt) (o : Int64) (hI : INV u v) : PairI (fun post => LM l yL_run wsL_run rw_run D C cD K adK adV ao (OLn C ao) [] u o post) (fun post => RMi l yX7_run wsX7_run rm_X7_run D C KR [] v.1 v.2.1 v.2.2.1 v.2.2.2 post) Int32.toInt64 := by
  obtain ⟨F, hs, G, T⟩ := u
  obtain ⟨F', hs', mv, G'⟩ := v
  obtain ⟨hh, ⟨h2, h16, h17⟩, ⟨hg3, hg19⟩, ⟨tn, htn, hTu, hTv, hHB⟩, w, hw, hWu, hWv⟩ := hI
  change hs = hs' at hh
  change F 2 = F' 2 at h2
  change F 16 = F' 16 at h16
  change F 17 = F' 17 at h17
  change G 3 = G' 3 at hg3
  change G 19 = G' 19 at hg19
  change F 4 = nI tn at hTu
  change F' 4 = nI tn at hTv
  change HB (G 3) tn at hHB
  change F 20 = nI w at hWu
  change F' 20 = nI w at hWv
  subst hh
  obtain ⟨m0, hok, hcase⟩ := okS_ex (K := tK (tc (G 3) tn) tn) (n := tn) (fun i hi => tK_lt tc_n hi)
  have hHB2 : HB (G' 3) tn := by rw [← hg3]; exact hHB
  have hok2 : okS (tK (tc (G' 3) tn) tn) m0 := by rw [← hg3]; exact hok
  rcases hcase with hz | hf
  · obtain ⟨k1, hst⟩ := stp_ex (tK (tc (G 3) tn) tn) (tV (tc (G 3) tn) tn) m0
    rcases Nat.lt_or_ge k1 m0 with hk | hk
    · refine ⟨0, nI k1, (nI k1).toInt64, (fun z => ∃ (T1 : Nat → Nat → Int32) (gl : Nat → Int32) (c1 : Nat) (ix : Nat) (nt : Nat) (g40 : Nat → Int32) (g41 : Nat → Int32) (g42 : Nat → Int32), z = (upd (upd (upd (upd (upd (upd (upd (upd (upd F 2 (F 2 + 1)) 4 (nI 0)) 16 (-1)) 17 (nI k1)) 30 (nI m0)) 31 (nI c1)) 32 (nI nt)) 33 (nI ix)) 34 (nI tn), hX (tK (tc (G 3) tn) tn) (tV (tc (G 3) tn) tn) hs k1, va_up (va_up (va_up (va_up G 40 g40) 41 g41) 42 g42) 43 gl, T1)), (fun z => ∃ (x5 : Int32) (x7 : Int32) (x8 : Int32) (x15 : Int32) (g9 : Nat → Int32) (g10 : Nat → Int32) (g11 : Nat → Int32) (g12 : Nat → Int32) (g13 : Nat → Int32), z = (upd (upd (upd (upd (upd (upd (upd (upd (upd (upd (upd F' 0 (nI 0)) 2 (F' 2 + 1)) 4 (nI 0)) 5 x5) 6 (nI (tS (tc (G' 3) tn) tn (sI (tK (tc (G' 3) tn) tn) m0)))) 7 x7) 8 x8) 14 (nI m0)) 15 x15) 16 (-1)) 17 (nI k1), hX (tK (tc (G' 3) tn) tn) (tV (tc (G' 3) tn) tn) hs k1, mv, va_up (va_up (va_up (va_up (va_up G' 9 g9) 10 g10) 11 g11) 12 g12) 13 g13)), _, wL_run_ok l D C cD K adK adV ao hDA hao (F, hs, G, T) o (kt_X6_run_stop l D C K adK adV hDA F hs G T (tK (tc (G 3) tn) tn) (tV (tc (G 3) tn) tn) (tS (tc (G 3) tn) tn) m0 tn k1 hTu htn hHB rfl rfl rfl hok hz hst hk) (nI k1) (fun z => ∃ (T1 : Nat → Nat → Int32) (gl : Nat → Int32) (c1 : Nat) (ix : Nat) (nt : Nat) (g40 : Nat → Int32) (g41 : Nat → Int32) (g42 : Nat → Int32), z = (upd (upd (upd (upd (upd (upd (upd (upd (upd F 2 (F 2 + 1)) 4 (nI 0)) 16 (-1)) 17 (nI k1)) 30 (nI m0)) 31 (nI c1)) 32 (nI nt)) 33 (nI ix)) 34 (nI tn), hX (tK (tc (G 3) tn) tn) (tV (tc (G 3) tn) tn) hs k1, va_up (va_up (va_up (va_up G 40 g40) 41 g41) 42 g42) 43 gl, T1)) (fun r z h => by obtain ⟨T1, gl, c1, ix, nt, g40, g41, g42, y1, y2⟩ := h; exact ⟨y1, T1, gl, c1, ix, nt, g40, g41, g42, y2⟩), (kt_X7_run_stop l D C KR hRA F' hs mv G' m0 k1 tn hTv htn hHB2 hok2 (by rw [← hg3]; exact hz) (by rw [← hg3]; exact hst) hk), fun r z h => ?_, ?_, by decide, fun _ => rfl⟩
      · obtain ⟨x5, x7, x8, x15, g9, g10, g11, g12, g13, y1, y2⟩ := h; exact ⟨y1, x5, x7, x8, x15, g9, g10, g11, g12, g13, y2⟩
      · rintro q z ⟨T1, gl, c1, ix, nt, g40, g41, g42, rfl⟩ ⟨x5, x7, x8, x15, g9, g10, g11, g12, g13, rfl⟩
        exact ⟨rfl, (by rw [hg3] <;> rfl), ⟨congrArg (fun z => z + 1) h2, rfl, rfl⟩, ⟨hg3, hg19⟩, ⟨0, by omega, rfl, rfl, fun j hj => absurd hj (Nat.not_lt_zero j)⟩, ⟨w, hw, hWu, hWv⟩⟩
    · have hk2 : k1 = m0 := Nat.le_antisymm hst.1 hk
      refine ⟨0, nI m0, (nI m0).toInt64, (fun z => ∃ (T1 : Nat → Nat → Int32) (gl : Nat → Int32) (c1 : Nat) (ix : Nat) (nt : Nat) (g40 : Nat → Int32) (g41 : Nat → Int32) (g42 : Nat → Int32), z = (upd (upd (upd (upd (upd (upd (upd (upd F 4 (nI 0)) 16 (-1)) 17 (-1)) 30 (nI m0)) 31 (nI c1)) 32 (nI nt)) 33 (nI ix)) 34 (nI tn), hX (tK (tc (G 3) tn) tn) (tV (tc (G 3) tn) tn) hs k1, va_up (va_up (va_up (va_up G 40 g40) 41 g41) 42 g42) 43 gl, T1)), (fun z => ∃ (x5 : Int32) (x7 : Int32) (x8 : Int32) (x15 : Int32) (g9 : Nat → Int32) (g10 : Nat → Int32) (g11 : Nat → Int32) (g12 : Nat → Int32) (g13 : Nat → Int32), z = (upd (upd (upd (upd (upd (upd (upd (upd (upd (upd F' 0 (nI 0)) 4 (nI 0)) 5 x5) 6 (nI (tS (tc (G' 3) tn) tn (sI (tK (tc (G' 3) tn) tn) m0)))) 7 x7) 8 x8) 14 (nI m0)) 15 x15) 16 (-1)) 17 (-1), hX (tK (tc (G' 3) tn) tn) (tV (tc (G' 3) tn) tn) hs k1, mv, va_up (va_up (va_up (va_up (va_up G' 9 g9) 10 g10) 11 g11) 12 g12) 13 g13)), _, wL_run_ok l D C cD K adK adV ao hDA hao (F, hs, G, T) o (kt_X6_run_ok l D C K adK adV hDA F hs G T (tK (tc (G 3) tn) tn) (tV (tc (G 3) tn) tn) (tS (tc (G 3) tn) tn) m0 tn k1 hTu htn hHB rfl rfl rfl hok hz hst hk2) (nI m0) (fun z => ∃ (T1 : Nat → Nat → Int32) (gl : Nat → Int32) (c1 : Nat) (ix : Nat) (nt : Nat) (g40 : Nat → Int32) (g41 : Nat → Int32) (g42 : Nat → Int32), z = (upd (upd (upd (upd (upd (upd (upd (upd F 4 (nI 0)) 16 (-1)) 17 (-1)) 30 (nI m0)) 31 (nI c1)) 32 (nI nt)) 33 (nI ix)) 34 (nI tn), hX (tK (tc (G 3) tn) tn) (tV (tc (G 3) tn) tn) hs k1, va_up (va_up (va_up (va_up G 40 g40) 41 g41) 42 g42) 43 gl, T1)) (fun r z h => by obtain ⟨T1, gl, c1, ix, nt, g40, g41, g42, y1, y2⟩ := h; exact ⟨y1, T1, gl, c1, ix, nt, g40, g41, g42, y2⟩), (kt_X7_run_ok l D C KR hRA F' hs mv G' m0 k1 tn hTv htn hHB2 hok2 (by rw [← hg3]; exact hz) (by rw [← hg3]; exact hst) hk2), fun r z h => ?_, ?_, by decide, fun _ => rfl⟩
      · obtain ⟨x5, x7, x8, x15, g9, g10, g11, g12, g13, y1, y2⟩ := h; exact ⟨y1, x5, x7, x8, x15, g9, g10, g11, g12, g13, y2⟩
      · rintro q z ⟨T1, gl, c1, ix, nt, g40, g41, g42, rfl⟩ ⟨x5, x7, x8, x15, g9, g10, g11, g12, g13, rfl⟩
        exact ⟨rfl, (by rw [hg3] <;> rfl), ⟨h2, rfl, rfl⟩, ⟨hg3, hg19⟩, ⟨0, by omega, rfl, rfl, fun j hj => absurd hj (Nat.not_lt_zero j)⟩, ⟨w, hw, hWu, hWv⟩⟩
  · rcases Nat.eq_zero_or_pos (tK (tc (G 3) tn) tn (sI (tK (tc (G 3) tn) tn) m0)) with hz | hz
    · obtain ⟨k1, hst⟩ := stp_ex (tK (tc (G 3) tn) tn) (tV (tc (G 3) tn) tn) m0
      rcases Nat.lt_or_ge k1 m0 with hk | hk
      · refine ⟨0, nI k1, (nI k1).toInt64, (fun z => ∃ (T1 : Nat → Nat → Int32) (gl : Nat → Int32) (c1 : Nat) (ix : Nat) (nt : Nat) (g40 : Nat → Int32) (g41 : Nat → Int32) (g42 : Nat → Int32), z = (upd (upd (upd (upd (upd (upd (upd (upd (upd F 2 (F 2 + 1)) 4 (nI 0)) 16 (-1)) 17 (nI k1)) 30 (nI m0)) 31 (nI c1)) 32 (nI nt)) 33 (nI ix)) 34 (nI tn), hX (tK (tc (G 3) tn) tn) (tV (tc (G 3) tn) tn) hs k1, va_up (va_up (va_up (va_up G 40 g40) 41 g41) 42 g42) 43 gl, T1)), (fun z => ∃ (x5 : Int32) (x7 : Int32) (x8 : Int32) (x15 : Int32) (g9 : Nat → Int32) (g10 : Nat → Int32) (g11 : Nat → Int32) (g12 : Nat → Int32) (g13 : Nat → Int32), z = (upd (upd (upd (upd (upd (upd (upd (upd (upd (upd (upd F' 0 (nI 0)) 2 (F' 2 + 1)) 4 (nI 0)) 5 x5) 6 (nI (tS (tc (G' 3) tn) tn (sI (tK (tc (G' 3) tn) tn) m0)))) 7 x7) 8 x8) 14 (nI m0)) 15 x15) 16 (-1)) 17 (nI k1), hX (tK (tc (G' 3) tn) tn) (tV (tc (G' 3) tn) tn) hs k1, mv, va_up (va_up (va_up (va_up (va_up G' 9 g9) 10 g10) 11 g11) 12 g12) 13 g13)), _, wL_run_ok l D C cD K adK adV ao hDA hao (F, hs, G, T) o (kt_X6_run_stop l D C K adK adV hDA F hs G T (tK (tc (G 3) tn) tn) (tV (tc (G 3) tn) tn) (tS (tc (G 3) tn) tn) m0 tn k1 hTu htn hHB rfl rfl rfl hok hz hst hk) (nI k1) (fun z => ∃ (T1 : Nat → Nat → Int32) (gl : Nat → Int32) (c1 : Nat) (ix : Nat) (nt : Nat) (g40 : Nat → Int32) (g41 : Nat → Int32) (g42 : Nat → Int32), z = (upd (upd (upd (upd (upd (upd (upd (upd (upd F 2 (F 2 + 1)) 4 (nI 0)) 16 (-1)) 17 (nI k1)) 30 (nI m0)) 31 (nI c1)) 32 (nI nt)) 33 (nI ix)) 34 (nI tn), hX (tK (tc (G 3) tn) tn) (tV (tc (G 3) tn) tn) hs k1, va_up (va_up (va_up (va_up G 40 g40) 41 g41) 42 g42) 43 gl, T1)) (fun r z h => by obtain ⟨T1, gl, c1, ix, nt, g40, g41, g42, y1, y2⟩ := h; exact ⟨y1, T1, gl, c1, ix, nt, g40, g41, g42, y2⟩), (kt_X7_run_stop l D C KR hRA F' hs mv G' m0 k1 tn hTv htn hHB2 hok2 (by rw [← hg3]; exact hz) (by rw [← hg3]; exact hst) hk), fun r z h => ?_, ?_, by decide, fun _ => rfl⟩
        · obtain ⟨x5, x7, x8, x15, g9, g10, g11, g12, g13, y1, y2⟩ := h; exact ⟨y1, x5, x7, x8, x15, g9, g10, g11, g12, g13, y2⟩
        · rintro q z ⟨T1, gl, c1, ix, nt, g40, g41, g42, rfl⟩ ⟨x5, x7, x8, x15, g9, g10, g11, g12, g13, rfl⟩
          exact ⟨rfl, (by rw [hg3] <;> rfl), ⟨congrArg (fun z => z + 1) h2, rfl, rfl⟩, ⟨hg3, hg19⟩, ⟨0, by omega, rfl, rfl, fun j hj => absurd hj (Nat.not_lt_zero j)⟩, ⟨w, hw, hWu, hWv⟩⟩
      · have hk2 : k1 = m0 := Nat.le_antisymm hst.1 hk
        refine ⟨0, nI m0, (nI m0).toInt64, (fun z => ∃ (T1 : Nat → Nat → Int32) (gl : Nat → Int32) (c1 : Nat) (ix : Nat) (nt : Nat) (g40 : Nat → Int32) (g41 : Nat → Int32) (g42 : Nat → Int32), z = (upd (upd (upd (upd (upd (upd (upd (upd F 4 (nI 0)) 16 (-1)) 17 (-1)) 30 (nI m0)) 31 (nI c1)) 32 (nI nt)) 33 (nI ix)) 34 (nI tn), hX (tK (tc (G 3) tn) tn) (tV (tc (G 3) tn) tn) hs k1, va_up (va_up (va_up (va_up G 40 g40) 41 g41) 42 g42) 43 gl, T1)), (fun z => ∃ (x5 : Int32) (x7 : Int32) (x8 : Int32) (x15 : Int32) (g9 : Nat → Int32) (g10 : Nat → Int32) (g11 : Nat → Int32) (g12 : Nat → Int32) (g13 : Nat → Int32), z = (upd (upd (upd (upd (upd (upd (upd (upd (upd (upd F' 0 (nI 0)) 4 (nI 0)) 5 x5) 6 (nI (tS (tc (G' 3) tn) tn (sI (tK (tc (G' 3) tn) tn) m0)))) 7 x7) 8 x8) 14 (nI m0)) 15 x15) 16 (-1)) 17 (-1), hX (tK (tc (G' 3) tn) tn) (tV (tc (G' 3) tn) tn) hs k1, mv, va_up (va_up (va_up (va_up (va_up G' 9 g9) 10 g10) 11 g11) 12 g12) 13 g13)), _, wL_run_ok l D C cD K adK adV ao hDA hao (F, hs, G, T) o (kt_X6_run_ok l D C K adK adV hDA F hs G T (tK (tc (G 3) tn) tn) (tV (tc (G 3) tn) tn) (tS (tc (G 3) tn) tn) m0 tn k1 hTu htn hHB rfl rfl rfl hok hz hst hk2) (nI m0) (fun z => ∃ (T1 : Nat → Nat → Int32) (gl : Nat → Int32) (c1 : Nat) (ix : Nat) (nt : Nat) (g40 : Nat → Int32) (g41 : Nat → Int32) (g42 : Nat → Int32), z = (upd (upd (upd (upd (upd (upd (upd (upd F 4 (nI 0)) 16 (-1)) 17 (-1)) 30 (nI m0)) 31 (nI c1)) 32 (nI nt)) 33 (nI ix)) 34 (nI tn), hX (tK (tc (G 3) tn) tn) (tV (tc (G 3) tn) tn) hs k1, va_up (va_up (va_up (va_up G 40 g40) 41 g41) 42 g42) 43 gl, T1)) (fun r z h => by obtain ⟨T1, gl, c1, ix, nt, g40, g41, g42, y1, y2⟩ := h; exact ⟨y1, T1, gl, c1, ix, nt, g40, g41, g42, y2⟩), (kt_X7_run_ok l D C KR hRA F' hs mv G' m0 k1 tn hTv htn hHB2 hok2 (by rw [← hg3]; exact hz) (by rw [← hg3]; exact hst) hk2), fun r z h => ?_, ?_, by decide, fun _ => rfl⟩
        · obtain ⟨x5, x7, x8, x15, g9, g10, g11, g12, g13, y1, y2⟩ := h; exact ⟨y1, x5, x7, x8, x15, g9, g10, g11, g12, g13, y2⟩
        · rintro q z ⟨T1, gl, c1, ix, nt, g40, g41, g42, rfl⟩ ⟨x5, x7, x8, x15, g9, g10, g11, g12, g13, rfl⟩
          exact ⟨rfl, (by rw [hg3] <;> rfl), ⟨h2, rfl, rfl⟩, ⟨hg3, hg19⟩, ⟨0, by omega, rfl, rfl, fun j hj => absurd hj (Nat.not_lt_zero j)⟩, ⟨w, hw, hWu, hWv⟩⟩
    · refine ⟨1, nI 0, o, (fun z => ∃ (T1 : Nat → Nat → Int32) (gl : Nat → Int32) (c1 : Nat) (ix : Nat) (nt : Nat) (g40 : Nat → Int32) (g41 : Nat → Int32) (g42 : Nat → Int32), z = (upd (upd (upd (upd (upd (upd (upd (upd F 4 (nI 0)) 16 (nI ((tS (tc (G 3) tn) tn) (stR (tK (tc (G 3) tn) tn) (sI (tK (tc (G 3) tn) tn) m0)).2))) 17 (-1)) 30 (nI m0)) 31 (nI c1)) 32 (nI nt)) 33 (nI ix)) 34 (nI tn), hs, va_up (va_up (va_up (va_up G 40 g40) 41 g41) 42 g42) 43 gl, T1)), (fun z => ∃ (x5 : Int32) (x7 : Int32) (x8 : Int32) (x15 : Int32) (g9 : Nat → Int32) (g10 : Nat → Int32) (g11 : Nat → Int32) (g12 : Nat → Int32) (g13 : Nat → Int32), z = (upd (upd (upd (upd (upd (upd (upd (upd (upd (upd F' 0 (nI 1)) 4 (nI 0)) 5 x5) 6 (nI (tS (tc (G' 3) tn) tn (stR (tK (tc (G' 3) tn) tn) (sI (tK (tc (G' 3) tn) tn) m0)).2))) 7 x7) 8 x8) 14 (nI m0)) 15 x15) 16 (nI (tS (tc (G' 3) tn) tn (stR (tK (tc (G' 3) tn) tn) (sI (tK (tc (G' 3) tn) tn) m0)).2))) 17 (-1), hs, mv, va_up (va_up (va_up (va_up (va_up G' 9 g9) 10 g10) 11 g11) 12 g12) 13 g13)), _, wL_run_x1 l D C cD K adK adV ao hDA hao (F, hs, G, T) o (kt_X6_run_x l hl D C K adK adV hDA F hs G T (tK (tc (G 3) tn) tn) (tV (tc (G 3) tn) tn) (tS (tc (G 3) tn) tn) m0 tn hTu htn hHB rfl rfl rfl hok (Nat.pos_iff_ne_zero.mp hz) hf), (kt_X7_run_no l D C KR hRA F' hs mv G' m0 tn hTv htn hHB2 hok2 (by rw [← hg3]; exact (Nat.pos_iff_ne_zero.mp hz)) (by rw [← hg3]; exact hf)), fun r z h => ?_, ?_, by decide, fun z => absurd z (by decide)⟩
      · obtain ⟨x5, x7, x8, x15, g9, g10, g11, g12, g13, y1, y2⟩ := h; exact ⟨y1, x5, x7, x8, x15, g9, g10, g11, g12, g13, y2⟩
      · rintro q z ⟨T1, gl, c1, ix, nt, g40, g41, g42, rfl⟩ ⟨x5, x7, x8, x15, g9, g10, g11, g12, g13, rfl⟩
        exact ⟨rfl, (by rw [hg3] <;> rfl), ⟨h2, (by rw [hg3] <;> rfl), rfl⟩, ⟨hg3, hg19⟩, ⟨0, by omega, rfl, rfl, fun j hj => absurd hj (Nat.not_lt_zero j)⟩, ⟨w, hw, hWu, hWv⟩⟩
