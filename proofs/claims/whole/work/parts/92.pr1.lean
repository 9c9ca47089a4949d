/-! The pairs. -/
set_option maxHeartbeats 4000000 in
set_option maxRecDepth 100000 in
theorem pr_append (l : Launch) (hl : l.stackTraces = false) (D : va_G) (C : Nat → ClassId) (cD : ClassId) (K KR adK adV : Nat → Nat) (ao : Nat) (hDA : DAp K) (hRA : RAp KR) (hao : ¬ DAd K ao) (u : CSt) (v : MSt) (o : Int64) (hI : INV u v) (x1 : Int32) (x2 : Int32) (x3 : Int32) (x4 : Int32) (x5 : Int32) : PairI (fun post => LM l yL_append wsL_append rw_append D C cD K adK adV ao (OLn C ao) [.int x1, .int x2, .int x3, .int x4, .int x5] u o post) (fun post => RMi l yX7_append wsX7_append rm_X7_append D C KR [.int x1, .int x2, .int x3, .int x4, .int x5] v.1 v.2.1 v.2.2.1 v.2.2.2 post) Int32.toInt64 := by
  obtain ⟨F, hs, G, T⟩ := u
  obtain ⟨F', hs', mv, G'⟩ := v
  obtain ⟨hh, ⟨h2, h16, h17⟩, ⟨hg3, hg19⟩, ⟨tn, htn, hTu, hTv, hHB⟩, w, hw, hWu, hWv⟩ := hI
  change hs = hs' at hh
  change F 2 = F' 2 at h2
  change F 16 = F' 16 at h16
  change F 17 = F' 17 at h17
  change G 3 = G' 3 at hg3
  change G 19 = G' 19 at hg19
  change F 4 = nI tn at hTu
  change F' 4 = nI tn at hTv
  change HB (G 3) tn at hHB
  change F 20 = nI w at hWu
  change F' 20 = nI w at hWv
  subst hh
  rcases (show (tn + (nb x1 + nb x2 + nb x3 + nb x4 + nb x5) ≤ 400) ∨ (400 < tn + (nb x1 + nb x2 + nb x3 + nb x4 + nb x5)) by omega) with hc | hc
  · refine ⟨0, (nI (((((tn + nb x1) + nb x2) + nb x3) + nb x4) + nb x5)), ((nI (((((tn + nb x1) + nb x2) + nb x3) + nb x4) + nb x5)).toInt64), (fun z => z = (upd F 4 (nI (((((tn + nb x1) + nb x2) + nb x3) + nb x4) + nb x5)), hs, va_up G 3 ((t4 x5 ((t4 x4 ((t4 x3 ((t4 x2 ((t4 x1 (G 3, tn)).1, tn + nb x1)).1, (tn + nb x1) + nb x2)).1, ((tn + nb x1) + nb x2) + nb x3)).1, (((tn + nb x1) + nb x2) + nb x3) + nb x4)).1), T)), (fun z => z = (upd (upd F' 0 (nI 0)) 4 (nI (((((tn + nb x1) + nb x2) + nb x3) + nb x4) + nb x5)), hs, mv, va_up G' 3 ((t4 x5 ((t4 x4 ((t4 x3 ((t4 x2 ((t4 x1 (G' 3, tn)).1, tn + nb x1)).1, (tn + nb x1) + nb x2)).1, ((tn + nb x1) + nb x2) + nb x3)).1, (((tn + nb x1) + nb x2) + nb x3) + nb x4)).1))), _, wL_append_ok l D C cD K adK adV ao hDA hao (F, hs, G, T) o x1 x2 x3 x4 x5 (kt_X6_append_ok l D C K hDA F hs G T x1 x2 x3 x4 x5 tn hTu htn (by omega)) (nI (((((tn + nb x1) + nb x2) + nb x3) + nb x4) + nb x5)) (fun z => z = (upd F 4 (nI (((((tn + nb x1) + nb x2) + nb x3) + nb x4) + nb x5)), hs, va_up G 3 ((t4 x5 ((t4 x4 ((t4 x3 ((t4 x2 ((t4 x1 (G 3, tn)).1, tn + nb x1)).1, (tn + nb x1) + nb x2)).1, ((tn + nb x1) + nb x2) + nb x3)).1, (((tn + nb x1) + nb x2) + nb x3) + nb x4)).1), T)) (fun r z h => h), (kt_X7_append_ok l D C KR hRA F' hs mv G' x1 x2 x3 x4 x5 tn hTv htn (by omega)), fun r z h => h, ?_, by decide, fun _ => rfl⟩
    rintro q z rfl rfl
    exact ⟨rfl, rfl, ⟨h2, h16, h17⟩, ⟨(by rw [hg3] <;> rfl), hg19⟩, ⟨_, by omega, rfl, rfl, HB_4 (x := (_, _)) (HB_4 (x := (_, _)) (HB_4 (x := (_, _)) (HB_4 (x := (_, _)) (HB_4 (x := (_, _)) hHB))))⟩, ⟨w, hw, hWu, hWv⟩⟩
  · refine ⟨1, (nI 0), o, (fun z => z = (F, hs, G, T)), (fun z => z = (upd F' 0 (nI 1), hs, mv, G')), _, wL_append_x1 l D C cD K adK adV ao hDA hao (F, hs, G, T) o x1 x2 x3 x4 x5 (kt_X6_append_x1 l hl D C K hDA F hs G T x1 x2 x3 x4 x5 tn hTu htn (by omega)), (kt_X7_append_no l D C KR hRA F' hs mv G' x1 x2 x3 x4 x5 tn hTv htn (by omega)), fun r z h => h, ?_, by decide, fun z => absurd z (by decide)⟩
    rintro q z rfl rfl
    exact ⟨rfl, rfl, ⟨h2, h16, h17⟩, ⟨hg3, hg19⟩, ⟨tn, htn, hTu, hTv, hHB⟩, ⟨w, hw, hWu, hWv⟩⟩

set_option maxHeartbeats 4000000 in
set_option maxRecDepth 100000 in
theorem pr_add (l : Launch) (hl : l.stackTraces = false) (D : va_G) (C : Nat → ClassId) (cD : ClassId) (K KR adK adV : Nat → Nat) (ao : Nat) (hDA : DAp K) (hRA : RAp KR) (hao : ¬ DAd K ao) (u : CSt) (v : MSt) (o : Int64) (hI : INV u v) (x1 : Int32) (x2 : Int32) : PairI (fun post => LM l yL_add wsL_add rw_add D C cD K adK adV ao (OLn C ao) [.int x1, .int x2] u o post) (fun post => RMi l yX7_add wsX7_add rm_X7_add D C KR [.int x1, .int x2] v.1 v.2.1 v.2.2.1 v.2.2.2 post) vB := by
  obtain ⟨F, hs, G, T⟩ := u
  obtain ⟨F', hs', mv, G'⟩ := v
  obtain ⟨hh, ⟨h2, h16, h17⟩, ⟨hg3, hg19⟩, ⟨tn, htn, hTu, hTv, hHB⟩, w, hw, hWu, hWv⟩ := hI
  change hs = hs' at hh
  change F 2 = F' 2 at h2
  change F 16 = F' 16 at h16
  change F 17 = F' 17 at h17
  change G 3 = G' 3 at hg3
  change G 19 = G' 19 at hg19
  change F 4 = nI tn at hTu
  change F' 4 = nI tn at hTv
  change HB (G 3) tn at hHB
  change F 20 = nI w at hWu
  change F' 20 = nI w at hWv
  subst hh
  rcases (show ((0 ≤ x1.toInt ∧ x1.toInt < 8) ∧ 0 ≤ x2.toInt ∧ x2.toInt < 1024) ∨ (¬ (0 ≤ x1.toInt ∧ x1.toInt < 8) ∨ 1024 ≤ x2.toInt) ∨ ((0 ≤ x1.toInt ∧ x1.toInt < 8) ∧ x2.toInt < 0) by omega) with hc | hc | hc
  · obtain ⟨s0, e0, k0, q0⟩ := zi_ofm (x := x1) rfl (by omega)
    subst e0
    obtain ⟨i0, e1, k1, q1⟩ := zi_ofm (x := x2) rfl (by omega)
    subst e1
    refine ⟨0, (bI (!hM hs s0 i0)), (if (bI (!hM hs s0 i0)) = 0 then 0 else 1 : Int64), (fun z => z = (F, sS hs s0 (p1 (hM hs s0) i0 true), G, T)), (fun z => z = (upd F' 0 (nI 0), sS hs s0 (p1 (hM hs s0) i0 true), mv, G')), _, wL_add_ok l D C cD K adK adV ao hDA hao (F, hs, G, T) o (nI s0) (nI i0) (kt_X6_add_ok l D C K hDA F hs G T s0 i0 (by omega) (by omega)) (bI (!hM hs s0 i0)) (fun z => z = (F, sS hs s0 (p1 (hM hs s0) i0 true), G, T)) (fun r z h => h), (kt_X7_add_ok l D C KR hRA F' hs mv G' s0 i0 (by omega) (by omega)), fun r z h => h, ?_, by decide, fun _ => rfl⟩
    rintro q z rfl rfl
    exact ⟨rfl, rfl, ⟨h2, h16, h17⟩, ⟨hg3, hg19⟩, ⟨tn, htn, hTu, hTv, hHB⟩, ⟨w, hw, hWu, hWv⟩⟩
  · refine ⟨1, (bI false), o, (fun z => z = (F, hs, G, T)), (fun z => z = (upd F' 0 (nI 1), hs, mv, G')), _, wL_add_x1 l D C cD K adK adV ao hDA hao (F, hs, G, T) o x1 x2 (kt_X6_add_x1 l hl D C K hDA F hs G T x1 x2 x1.toInt x2.toInt rfl rfl (by omega)), (kt_X7_add_no l D C KR hRA F' hs mv G' x1 x2 x1.toInt x2.toInt rfl rfl (by omega)), fun r z h => h.1 (by omega), ?_, by decide, fun z => absurd z (by decide)⟩
    rintro q z rfl rfl
    exact ⟨rfl, rfl, ⟨h2, h16, h17⟩, ⟨hg3, hg19⟩, ⟨tn, htn, hTu, hTv, hHB⟩, ⟨w, hw, hWu, hWv⟩⟩
  · obtain ⟨s0, e0, k0, q0⟩ := zi_ofm (x := x1) rfl (by omega)
    subst e0
    refine ⟨2, (bI false), o, (fun z => z = (upd F 2 (F 2 + 1), hs, G, T)), (fun z => z = (upd (upd F' 0 (nI 2)) 2 (F' 2 + 1), hs, mv, G')), _, wL_add_x2 l D C cD K adK adV ao hDA hao (F, hs, G, T) o (nI s0) x2 (kt_X6_add_x2 l hl D C K hDA F hs G T s0 x2 x2.toInt rfl (by omega) (by omega)), (kt_X7_add_no l D C KR hRA F' hs mv G' (nI s0) x2 ((nI s0)).toInt x2.toInt rfl rfl (by omega)), fun r z h => h.2 (by omega), ?_, by decide, fun z => absurd z (by decide)⟩
    rintro q z rfl rfl
    exact ⟨rfl, rfl, ⟨congrArg (fun z => z + 1) h2, h16, h17⟩, ⟨hg3, hg19⟩, ⟨tn, htn, hTu, hTv, hHB⟩, ⟨w, hw, hWu, hWv⟩⟩

set_option maxHeartbeats 4000000 in
set_option maxRecDepth 100000 in
theorem pr_remove (l : Launch) (hl : l.stackTraces = false) (D : va_G) (C : Nat → ClassId) (cD : ClassId) (K KR adK adV : Nat → Nat) (ao : Nat) (hDA : DAp K) (hRA : RAp KR) (hao : ¬ DAd K ao) (u : CSt) (v : MSt) (o : Int64) (hI : INV u v) (x1 : Int32) (x2 : Int32) : PairI (fun post => LM l yL_remove wsL_remove rw_remove D C cD K adK adV ao (OLn C ao) [.int x1, .int x2] u o post) (fun post => RMi l yX7_remove wsX7_remove rm_X7_remove D C KR [.int x1, .int x2] v.1 v.2.1 v.2.2.1 v.2.2.2 post) vB := by
  obtain ⟨F, hs, G, T⟩ := u
  obtain ⟨F', hs', mv, G'⟩ := v
  obtain ⟨hh, ⟨h2, h16, h17⟩, ⟨hg3, hg19⟩, ⟨tn, htn, hTu, hTv, hHB⟩, w, hw, hWu, hWv⟩ := hI
  change hs = hs' at hh
  change F 2 = F' 2 at h2
  change F 16 = F' 16 at h16
  change F 17 = F' 17 at h17
  change G 3 = G' 3 at hg3
  change G 19 = G' 19 at hg19
  change F 4 = nI tn at hTu
  change F' 4 = nI tn at hTv
  change HB (G 3) tn at hHB
  change F 20 = nI w at hWu
  change F' 20 = nI w at hWv
  subst hh
  rcases (show ((0 ≤ x1.toInt ∧ x1.toInt < 8) ∧ 0 ≤ x2.toInt) ∨ (¬ (0 ≤ x1.toInt ∧ x1.toInt < 8)) ∨ ((0 ≤ x1.toInt ∧ x1.toInt < 8) ∧ x2.toInt < 0) by omega) with hc | hc | hc
  · obtain ⟨s0, e0, k0, q0⟩ := zi_ofm (x := x1) rfl (by omega)
    subst e0
    obtain ⟨i0, e1, k1, q1⟩ := zi_ofm (x := x2) rfl (by omega)
    subst e1
    refine ⟨0, (bI (decide (i0 < 1024) && hM hs s0 i0)), (if (bI (decide (i0 < 1024) && hM hs s0 i0)) = 0 then 0 else 1 : Int64), (fun z => z = (F, sS hs s0 (p1 (hM hs s0) i0 false), G, T)), (fun z => z = (upd F' 0 (nI 0), sS hs s0 (p1 (hM hs s0) i0 false), mv, G')), _, wL_remove_ok l D C cD K adK adV ao hDA hao (F, hs, G, T) o (nI s0) (nI i0) (kt_X6_remove_ok l D C K hDA F hs G T s0 i0 (by omega) (by omega)) (bI (decide (i0 < 1024) && hM hs s0 i0)) (fun z => z = (F, sS hs s0 (p1 (hM hs s0) i0 false), G, T)) (fun r z h => h), (kt_X7_remove_ok l D C KR hRA F' hs mv G' s0 i0 (by omega) (by omega)), fun r z h => h, ?_, by decide, fun _ => rfl⟩
    rintro q z rfl rfl
    exact ⟨rfl, rfl, ⟨h2, h16, h17⟩, ⟨hg3, hg19⟩, ⟨tn, htn, hTu, hTv, hHB⟩, ⟨w, hw, hWu, hWv⟩⟩
  · refine ⟨1, (bI false), o, (fun z => z = (F, hs, G, T)), (fun z => z = (upd F' 0 (nI 1), hs, mv, G')), _, wL_remove_x1 l D C cD K adK adV ao hDA hao (F, hs, G, T) o x1 x2 (kt_X6_remove_x1 l hl D C K hDA F hs G T x1 x2 x1.toInt rfl (by omega)), (kt_X7_remove_no l D C KR hRA F' hs mv G' x1 x2 x1.toInt x2.toInt rfl rfl (by omega)), fun r z h => h.1 (by omega), ?_, by decide, fun z => absurd z (by decide)⟩
    rintro q z rfl rfl
    exact ⟨rfl, rfl, ⟨h2, h16, h17⟩, ⟨hg3, hg19⟩, ⟨tn, htn, hTu, hTv, hHB⟩, ⟨w, hw, hWu, hWv⟩⟩
  · obtain ⟨s0, e0, k0, q0⟩ := zi_ofm (x := x1) rfl (by omega)
    subst e0
    refine ⟨2, (bI false), o, (fun z => z = (upd F 2 (F 2 + 1), hs, G, T)), (fun z => z = (upd (upd F' 0 (nI 2)) 2 (F' 2 + 1), hs, mv, G')), _, wL_remove_x2 l D C cD K adK adV ao hDA hao (F, hs, G, T) o (nI s0) x2 (kt_X6_remove_x2 l hl D C K hDA F hs G T s0 x2 x2.toInt rfl (by omega) (by omega)), (kt_X7_remove_no l D C KR hRA F' hs mv G' (nI s0) x2 ((nI s0)).toInt x2.toInt rfl rfl (by omega)), fun r z h => h.2 (by omega), ?_, by decide, fun z => absurd z (by decide)⟩
    rintro q z rfl rfl
    exact ⟨rfl, rfl, ⟨congrArg (fun z => z + 1) h2, h16, h17⟩, ⟨hg3, hg19⟩, ⟨tn, htn, hTu, hTv, hHB⟩, ⟨w, hw, hWu, hWv⟩⟩

set_option maxHeartbeats 4000000 in
set_option maxRecDepth 100000 in
theorem pr_put (l : Launch) (hl : l.stackTraces = false) (D : va_G) (C : Nat → ClassId) (cD : ClassId) (K KR adK adV : Nat → Nat) (ao : Nat) (hDA : DAp K) (hRA : RAp KR) (hao : ¬ DAd K ao) (u : CSt) (v : MSt) (o : Int64) (hI : INV u v) (x1 : Int32) (x2 : Int32) (x3 : Bool) : PairI (fun post => LM l yL_put wsL_put rw_put D C cD K adK adV ao (OLn C ao) [.int x1, .int x2, .int (bI x3)] u o post) (fun post => RMi l yX7_put wsX7_put rm_X7_put D C KR [.int x1, .int x2, .int (bI x3)] v.1 v.2.1 v.2.2.1 v.2.2.2 post) vB := by
  obtain ⟨F, hs, G, T⟩ := u
  obtain ⟨F', hs', mv, G'⟩ := v
  obtain ⟨hh, ⟨h2, h16, h17⟩, ⟨hg3, hg19⟩, ⟨tn, htn, hTu, hTv, hHB⟩, w, hw, hWu, hWv⟩ := hI
  change hs = hs' at hh
  change F 2 = F' 2 at h2
  change F 16 = F' 16 at h16
  change F 17 = F' 17 at h17
  change G 3 = G' 3 at hg3
  change G 19 = G' 19 at hg19
  change F 4 = nI tn at hTu
  change F' 4 = nI tn at hTv
  change HB (G 3) tn at hHB
  change F 20 = nI w at hWu
  change F' 20 = nI w at hWv
  subst hh
  rcases (show ((0 ≤ x1.toInt ∧ x1.toInt < 8) ∧ 0 ≤ x2.toInt ∧ x2.toInt < 1024) ∨ (¬ (0 ≤ x1.toInt ∧ x1.toInt < 8) ∨ 1024 ≤ x2.toInt) ∨ ((0 ≤ x1.toInt ∧ x1.toInt < 8) ∧ x2.toInt < 0) by omega) with hc | hc | hc
  · obtain ⟨s0, e0, k0, q0⟩ := zi_ofm (x := x1) rfl (by omega)
    subst e0
    obtain ⟨i0, e1, k1, q1⟩ := zi_ofm (x := x2) rfl (by omega)
    subst e1
    refine ⟨0, (bI (hM hs s0 i0)), (if (bI (hM hs s0 i0)) = 0 then 0 else 1 : Int64), (fun z => z = (F, sS hs s0 (p1 (hM hs s0) i0 x3), G, T)), (fun z => z = (upd F' 0 (nI 0), sS hs s0 (p1 (hM hs s0) i0 x3), mv, G')), _, wL_put_ok l D C cD K adK adV ao hDA hao (F, hs, G, T) o (nI s0) (nI i0) (bI x3) (kt_X6_put_ok l D C K hDA F hs G T s0 i0 x3 (by omega) (by omega)) (bI (hM hs s0 i0)) (fun z => z = (F, sS hs s0 (p1 (hM hs s0) i0 x3), G, T)) (fun r z h => h), (kt_X7_put_ok l D C KR hRA F' hs mv G' s0 i0 x3 (by omega) (by omega)), fun r z h => h, ?_, by decide, fun _ => rfl⟩
    rintro q z rfl rfl
    exact ⟨rfl, rfl, ⟨h2, h16, h17⟩, ⟨hg3, hg19⟩, ⟨tn, htn, hTu, hTv, hHB⟩, ⟨w, hw, hWu, hWv⟩⟩
  · refine ⟨1, (bI false), o, (fun z => z = (F, hs, G, T)), (fun z => z = (upd F' 0 (nI 1), hs, mv, G')), _, wL_put_x1 l D C cD K adK adV ao hDA hao (F, hs, G, T) o x1 x2 (bI x3) (kt_X6_put_x1 l hl D C K hDA F hs G T x1 x2 x3 x1.toInt x2.toInt rfl rfl (by omega)), (kt_X7_put_no l D C KR hRA F' hs mv G' x1 x2 x3 x1.toInt x2.toInt rfl rfl (by omega)), fun r z h => h.1 (by omega), ?_, by decide, fun z => absurd z (by decide)⟩
    rintro q z rfl rfl
    exact ⟨rfl, rfl, ⟨h2, h16, h17⟩, ⟨hg3, hg19⟩, ⟨tn, htn, hTu, hTv, hHB⟩, ⟨w, hw, hWu, hWv⟩⟩
  · obtain ⟨s0, e0, k0, q0⟩ := zi_ofm (x := x1) rfl (by omega)
    subst e0
    refine ⟨2, (bI false), o, (fun z => z = (upd F 2 (F 2 + 1), hs, G, T)), (fun z => z = (upd (upd F' 0 (nI 2)) 2 (F' 2 + 1), hs, mv, G')), _, wL_put_x2 l D C cD K adK adV ao hDA hao (F, hs, G, T) o (nI s0) x2 (bI x3) (kt_X6_put_x2 l hl D C K hDA F hs G T s0 x2 x3 x2.toInt rfl (by omega) (by omega)), (kt_X7_put_no l D C KR hRA F' hs mv G' (nI s0) x2 x3 ((nI s0)).toInt x2.toInt rfl rfl (by omega)), fun r z h => h.2 (by omega), ?_, by decide, fun z => absurd z (by decide)⟩
    rintro q z rfl rfl
    exact ⟨rfl, rfl, ⟨congrArg (fun z => z + 1) h2, h16, h17⟩, ⟨hg3, hg19⟩, ⟨tn, htn, hTu, hTv, hHB⟩, ⟨w, hw, hWu, hWv⟩⟩

set_option maxHeartbeats 4000000 in
set_option maxRecDepth 100000 in
theorem pr_flip (l : Launch) (hl : l.stackTraces = false) (D : va_G) (C : Nat → ClassId) (cD : ClassId) (K KR adK adV : Nat → Nat) (ao : Nat) (hDA : DAp K) (hRA : RAp KR) (hao : ¬ DAd K ao) (u : CSt) (v : MSt) (o : Int64) (hI : INV u v) (x1 : Int32) (x2 : Int32) : PairI (fun post => LM l yL_flip wsL_flip rw_flip D C cD K adK adV ao (OLn C ao) [.int x1, .int x2] u o post) (fun post => RMi l yX7_flip wsX7_flip rm_X7_flip D C KR [.int x1, .int x2] v.1 v.2.1 v.2.2.1 v.2.2.2 post) vB := by
  obtain ⟨F, hs, G, T⟩ := u
  obtain ⟨F', hs', mv, G'⟩ := v
  obtain ⟨hh, ⟨h2, h16, h17⟩, ⟨hg3, hg19⟩, ⟨tn, htn, hTu, hTv, hHB⟩, w, hw, hWu, hWv⟩ := hI
  change hs = hs' at hh
  change F 2 = F' 2 at h2
  change F 16 = F' 16 at h16
  change F 17 = F' 17 at h17
  change G 3 = G' 3 at hg3
  change G 19 = G' 19 at hg19
  change F 4 = nI tn at hTu
  change F' 4 = nI tn at hTv
  change HB (G 3) tn at hHB
  change F 20 = nI w at hWu
  change F' 20 = nI w at hWv
  subst hh
  rcases (show ((0 ≤ x1.toInt ∧ x1.toInt < 8) ∧ 0 ≤ x2.toInt ∧ x2.toInt < 1024) ∨ (¬ (0 ≤ x1.toInt ∧ x1.toInt < 8) ∨ 1024 ≤ x2.toInt) ∨ ((0 ≤ x1.toInt ∧ x1.toInt < 8) ∧ x2.toInt < 0) by omega) with hc | hc | hc
  · obtain ⟨s0, e0, k0, q0⟩ := zi_ofm (x := x1) rfl (by omega)
    subst e0
    obtain ⟨i0, e1, k1, q1⟩ := zi_ofm (x := x2) rfl (by omega)
    subst e1
    refine ⟨0, (bI (!hM hs s0 i0)), (if (bI (!hM hs s0 i0)) = 0 then 0 else 1 : Int64), (fun z => z = (F, sS hs s0 (p1 (hM hs s0) i0 (!hM hs s0 i0)), G, T)), (fun z => z = (upd F' 0 (nI 0), sS hs s0 (p1 (hM hs s0) i0 (!hM hs s0 i0)), mv, G')), _, wL_flip_ok l D C cD K adK adV ao hDA hao (F, hs, G, T) o (nI s0) (nI i0) (kt_X6_flip_ok l D C K hDA F hs G T s0 i0 (by omega) (by omega)) (bI (!hM hs s0 i0)) (fun z => z = (F, sS hs s0 (p1 (hM hs s0) i0 (!hM hs s0 i0)), G, T)) (fun r z h => h), (kt_X7_flip_ok l D C KR hRA F' hs mv G' s0 i0 (by omega) (by omega)), fun r z h => h, ?_, by decide, fun _ => rfl⟩
    rintro q z rfl rfl
    exact ⟨rfl, rfl, ⟨h2, h16, h17⟩, ⟨hg3, hg19⟩, ⟨tn, htn, hTu, hTv, hHB⟩, ⟨w, hw, hWu, hWv⟩⟩
  · refine ⟨1, (bI false), o, (fun z => z = (F, hs, G, T)), (fun z => z = (upd F' 0 (nI 1), hs, mv, G')), _, wL_flip_x1 l D C cD K adK adV ao hDA hao (F, hs, G, T) o x1 x2 (kt_X6_flip_x1 l hl D C K hDA F hs G T x1 x2 x1.toInt x2.toInt rfl rfl (by omega)), (kt_X7_flip_no l D C KR hRA F' hs mv G' x1 x2 x1.toInt x2.toInt rfl rfl (by omega)), fun r z h => h.1 (by omega), ?_, by decide, fun z => absurd z (by decide)⟩
    rintro q z rfl rfl
    exact ⟨rfl, rfl, ⟨h2, h16, h17⟩, ⟨hg3, hg19⟩, ⟨tn, htn, hTu, hTv, hHB⟩, ⟨w, hw, hWu, hWv⟩⟩
  · obtain ⟨s0, e0, k0, q0⟩ := zi_ofm (x := x1) rfl (by omega)
    subst e0
    refine ⟨2, (bI false), o, (fun z => z = (upd F 2 (F 2 + 1), hs, G, T)), (fun z => z = (upd (upd F' 0 (nI 2)) 2 (F' 2 + 1), hs, mv, G')), _, wL_flip_x2 l D C cD K adK adV ao hDA hao (F, hs, G, T) o (nI s0) x2 (kt_X6_flip_x2 l hl D C K hDA F hs G T s0 x2 x2.toInt rfl (by omega) (by omega)), (kt_X7_flip_no l D C KR hRA F' hs mv G' (nI s0) x2 ((nI s0)).toInt x2.toInt rfl rfl (by omega)), fun r z h => h.2 (by omega), ?_, by decide, fun z => absurd z (by decide)⟩
    rintro q z rfl rfl
    exact ⟨rfl, rfl, ⟨congrArg (fun z => z + 1) h2, h16, h17⟩, ⟨hg3, hg19⟩, ⟨tn, htn, hTu, hTv, hHB⟩, ⟨w, hw, hWu, hWv⟩⟩

set_option maxHeartbeats 4000000 in
set_option maxRecDepth 100000 in
theorem pr_addRange (l : Launch) (hl : l.stackTraces = false) (D : va_G) (C : Nat → ClassId) (cD : ClassId) (K KR adK adV : Nat → Nat) (ao : Nat) (hDA : DAp K) (hRA : RAp KR) (hao : ¬ DAd K ao) (u : CSt) (v : MSt) (o : Int64) (hI : INV u v) (x1 : Int32) (x2 : Int32) (x3 : Int32) : PairI (fun post => LM l yL_addRange wsL_addRange rw_addRange D C cD K adK adV ao (OLn C ao) [.int x1, .int x2, .int x3] u o post) (fun post => RMi l yX7_addRange wsX7_addRange rm_X7_addRange D C KR [.int x1, .int x2, .int x3] v.1 v.2.1 v.2.2.1 v.2.2.2 post) Int32.toInt64 := by
  obtain ⟨F, hs, G, T⟩ := u
  obtain ⟨F', hs', mv, G'⟩ := v
  obtain ⟨hh, ⟨h2, h16, h17⟩, ⟨hg3, hg19⟩, ⟨tn, htn, hTu, hTv, hHB⟩, w, hw, hWu, hWv⟩ := hI
  change hs = hs' at hh
  change F 2 = F' 2 at h2
  change F 16 = F' 16 at h16
  change F 17 = F' 17 at h17
  change G 3 = G' 3 at hg3
  change G 19 = G' 19 at hg19
  change F 4 = nI tn at hTu
  change F' 4 = nI tn at hTv
  change HB (G 3) tn at hHB
  change F 20 = nI w at hWu
  change F' 20 = nI w at hWv
  subst hh
  rcases (show ((0 ≤ x1.toInt ∧ x1.toInt < 8) ∧ 0 ≤ x2.toInt ∧ x2.toInt ≤ x3.toInt ∧ x3.toInt ≤ 1024) ∨ (¬ (0 ≤ x1.toInt ∧ x1.toInt < 8) ∨ 1024 < x3.toInt) ∨ ((0 ≤ x1.toInt ∧ x1.toInt < 8) ∧ x3.toInt ≤ 1024 ∧ ¬ (0 ≤ x2.toInt ∧ x2.toInt ≤ x3.toInt)) by omega) with hc | hc | hc
  · obtain ⟨s0, e0, k0, q0⟩ := zi_ofm (x := x1) rfl (by omega)
    subst e0
    obtain ⟨f, e1, k1, q1⟩ := zi_ofm (x := x2) rfl (by omega)
    subst e1
    obtain ⟨t, e2, k2, q2⟩ := zi_ofm (x := x3) rfl (by omega)
    subst e2
    refine ⟨0, (nI (ct (pR (hM hs s0) f t true) 1024)), ((nI (ct (pR (hM hs s0) f t true) 1024)).toInt64), (fun z => z = (F, sS hs s0 (pR (hM hs s0) f t true), G, T)), (fun z => z = (upd F' 0 (nI 0), sS hs s0 (pR (hM hs s0) f t true), mv, G')), _, wL_addRange_ok l D C cD K adK adV ao hDA hao (F, hs, G, T) o (nI s0) (nI f) (nI t) (kt_X6_addRange_ok l D C K hDA F hs G T s0 f t (by omega) (by omega)) (nI (ct (pR (hM hs s0) f t true) 1024)) (fun z => z = (F, sS hs s0 (pR (hM hs s0) f t true), G, T)) (fun r z h => h), (kt_X7_addRange_ok l D C KR hRA F' hs mv G' s0 f t (by omega) (by omega)), fun r z h => h, ?_, by decide, fun _ => rfl⟩
    rintro q z rfl rfl
    exact ⟨rfl, rfl, ⟨h2, h16, h17⟩, ⟨hg3, hg19⟩, ⟨tn, htn, hTu, hTv, hHB⟩, ⟨w, hw, hWu, hWv⟩⟩
  · refine ⟨1, (nI 0), o, (fun z => z = (F, hs, G, T)), (fun z => z = (upd F' 0 (nI 1), hs, mv, G')), _, wL_addRange_x1 l D C cD K adK adV ao hDA hao (F, hs, G, T) o x1 x2 x3 (kt_X6_addRange_x1 l hl D C K hDA F hs G T x1 x2 x3 x1.toInt x3.toInt rfl rfl (by omega)), (kt_X7_addRange_no l D C KR hRA F' hs mv G' x1 x2 x3 x1.toInt x2.toInt x3.toInt rfl rfl rfl (by omega)), fun r z h => h.1 (by omega), ?_, by decide, fun z => absurd z (by decide)⟩
    rintro q z rfl rfl
    exact ⟨rfl, rfl, ⟨h2, h16, h17⟩, ⟨hg3, hg19⟩, ⟨tn, htn, hTu, hTv, hHB⟩, ⟨w, hw, hWu, hWv⟩⟩
  · obtain ⟨s0, e0, k0, q0⟩ := zi_ofm (x := x1) rfl (by omega)
    subst e0
    refine ⟨2, (nI 0), o, (fun z => z = (upd F 2 (F 2 + 1), hs, G, T)), (fun z => z = (upd (upd F' 0 (nI 2)) 2 (F' 2 + 1), hs, mv, G')), _, wL_addRange_x2 l D C cD K adK adV ao hDA hao (F, hs, G, T) o (nI s0) x2 x3 (kt_X6_addRange_x2 l hl D C K hDA F hs G T s0 x2 x3 x2.toInt x3.toInt rfl rfl (by omega) (by omega) (by omega)), (kt_X7_addRange_no l D C KR hRA F' hs mv G' (nI s0) x2 x3 ((nI s0)).toInt x2.toInt x3.toInt rfl rfl rfl (by omega)), fun r z h => h.2 (by omega), ?_, by decide, fun z => absurd z (by decide)⟩
    rintro q z rfl rfl
    exact ⟨rfl, rfl, ⟨congrArg (fun z => z + 1) h2, h16, h17⟩, ⟨hg3, hg19⟩, ⟨tn, htn, hTu, hTv, hHB⟩, ⟨w, hw, hWu, hWv⟩⟩

set_option maxHeartbeats 4000000 in
set_option maxRecDepth 100000 in
theorem pr_removeRange (l : Launch) (hl : l.stackTraces = false) (D : va_G) (C : Nat → ClassId) (cD : ClassId) (K KR adK adV : Nat → Nat) (ao : Nat) (hDA : DAp K) (hRA : RAp KR) (hao : ¬ DAd K ao) (u : CSt) (v : MSt) (o : Int64) (hI : INV u v) (x1 : Int32) (x2 : Int32) (x3 : Int32) : PairI (fun post => LM l yL_removeRange wsL_removeRange rw_removeRange D C cD K adK adV ao (OLn C ao) [.int x1, .int x2, .int x3] u o post) (fun post => RMi l yX7_removeRange wsX7_removeRange rm_X7_removeRange D C KR [.int x1, .int x2, .int x3] v.1 v.2.1 v.2.2.1 v.2.2.2 post) Int32.toInt64 := by
  obtain ⟨F, hs, G, T⟩ := u
  obtain ⟨F', hs', mv, G'⟩ := v
  obtain ⟨hh, ⟨h2, h16, h17⟩, ⟨hg3, hg19⟩, ⟨tn, htn, hTu, hTv, hHB⟩, w, hw, hWu, hWv⟩ := hI
  change hs = hs' at hh
  change F 2 = F' 2 at h2
  change F 16 = F' 16 at h16
  change F 17 = F' 17 at h17
  change G 3 = G' 3 at hg3
  change G 19 = G' 19 at hg19
  change F 4 = nI tn at hTu
  change F' 4 = nI tn at hTv
  change HB (G 3) tn at hHB
  change F 20 = nI w at hWu
  change F' 20 = nI w at hWv
  subst hh
  rcases (show ((0 ≤ x1.toInt ∧ x1.toInt < 8) ∧ 0 ≤ x2.toInt ∧ x2.toInt ≤ x3.toInt) ∨ (¬ (0 ≤ x1.toInt ∧ x1.toInt < 8)) ∨ ((0 ≤ x1.toInt ∧ x1.toInt < 8) ∧ ¬ (0 ≤ x2.toInt ∧ x2.toInt ≤ x3.toInt)) by omega) with hc | hc | hc
  · obtain ⟨s0, e0, k0, q0⟩ := zi_ofm (x := x1) rfl (by omega)
    subst e0
    obtain ⟨f, e1, k1, q1⟩ := zi_ofm (x := x2) rfl (by omega)
    subst e1
    obtain ⟨t, e2, k2, q2⟩ := zi_ofm (x := x3) rfl (by omega)
    subst e2
    refine ⟨0, (nI (ct (pR (hM hs s0) f t false) 1024)), ((nI (ct (pR (hM hs s0) f t false) 1024)).toInt64), (fun z => z = (F, sS hs s0 (pR (hM hs s0) f t false), G, T)), (fun z => z = (upd F' 0 (nI 0), sS hs s0 (pR (hM hs s0) f t false), mv, G')), _, wL_removeRange_ok l D C cD K adK adV ao hDA hao (F, hs, G, T) o (nI s0) (nI f) (nI t) (kt_X6_removeRange_ok l D C K hDA F hs G T s0 f t (by omega) (by omega)) (nI (ct (pR (hM hs s0) f t false) 1024)) (fun z => z = (F, sS hs s0 (pR (hM hs s0) f t false), G, T)) (fun r z h => h), (kt_X7_removeRange_ok l D C KR hRA F' hs mv G' s0 f t (by omega) (by omega)), fun r z h => h, ?_, by decide, fun _ => rfl⟩
    rintro q z rfl rfl
    exact ⟨rfl, rfl, ⟨h2, h16, h17⟩, ⟨hg3, hg19⟩, ⟨tn, htn, hTu, hTv, hHB⟩, ⟨w, hw, hWu, hWv⟩⟩
  · refine ⟨1, (nI 0), o, (fun z => z = (F, hs, G, T)), (fun z => z = (upd F' 0 (nI 1), hs, mv, G')), _, wL_removeRange_x1 l D C cD K adK adV ao hDA hao (F, hs, G, T) o x1 x2 x3 (kt_X6_removeRange_x1 l hl D C K hDA F hs G T x1 x2 x3 x1.toInt rfl (by omega)), (kt_X7_removeRange_no l D C KR hRA F' hs mv G' x1 x2 x3 x1.toInt x2.toInt x3.toInt rfl rfl rfl (by omega)), fun r z h => h.1 (by omega), ?_, by decide, fun z => absurd z (by decide)⟩
    rintro q z rfl rfl
    exact ⟨rfl, rfl, ⟨h2, h16, h17⟩, ⟨hg3, hg19⟩, ⟨tn, htn, hTu, hTv, hHB⟩, ⟨w, hw, hWu, hWv⟩⟩
  · obtain ⟨s0, e0, k0, q0⟩ := zi_ofm (x := x1) rfl (by omega)
    subst e0
    refine ⟨2, (nI 0), o, (fun z => z = (upd F 2 (F 2 + 1), hs, G, T)), (fun z => z = (upd (upd F' 0 (nI 2)) 2 (F' 2 + 1), hs, mv, G')), _, wL_removeRange_x2 l D C cD K adK adV ao hDA hao (F, hs, G, T) o (nI s0) x2 x3 (kt_X6_removeRange_x2 l hl D C K hDA F hs G T s0 x2 x3 x2.toInt x3.toInt rfl rfl (by omega) (by omega)), (kt_X7_removeRange_no l D C KR hRA F' hs mv G' (nI s0) x2 x3 ((nI s0)).toInt x2.toInt x3.toInt rfl rfl rfl (by omega)), fun r z h => h.2 (by omega), ?_, by decide, fun z => absurd z (by decide)⟩
    rintro q z rfl rfl
    exact ⟨rfl, rfl, ⟨congrArg (fun z => z + 1) h2, h16, h17⟩, ⟨hg3, hg19⟩, ⟨tn, htn, hTu, hTv, hHB⟩, ⟨w, hw, hWu, hWv⟩⟩

set_option maxHeartbeats 4000000 in
set_option maxRecDepth 100000 in
theorem pr_putRange (l : Launch) (hl : l.stackTraces = false) (D : va_G) (C : Nat → ClassId) (cD : ClassId) (K KR adK adV : Nat → Nat) (ao : Nat) (hDA : DAp K) (hRA : RAp KR) (hao : ¬ DAd K ao) (u : CSt) (v : MSt) (o : Int64) (hI : INV u v) (x1 : Int32) (x2 : Int32) (x3 : Int32) (x4 : Bool) : PairI (fun post => LM l yL_putRange wsL_putRange rw_putRange D C cD K adK adV ao (OLn C ao) [.int x1, .int x2, .int x3, .int (bI x4)] u o post) (fun post => RMi l yX7_putRange wsX7_putRange rm_X7_putRange D C KR [.int x1, .int x2, .int x3, .int (bI x4)] v.1 v.2.1 v.2.2.1 v.2.2.2 post) Int32.toInt64 := by
  obtain ⟨F, hs, G, T⟩ := u
  obtain ⟨F', hs', mv, G'⟩ := v
  obtain ⟨hh, ⟨h2, h16, h17⟩, ⟨hg3, hg19⟩, ⟨tn, htn, hTu, hTv, hHB⟩, w, hw, hWu, hWv⟩ := hI
  change hs = hs' at hh
  change F 2 = F' 2 at h2
  change F 16 = F' 16 at h16
  change F 17 = F' 17 at h17
  change G 3 = G' 3 at hg3
  change G 19 = G' 19 at hg19
  change F 4 = nI tn at hTu
  change F' 4 = nI tn at hTv
  change HB (G 3) tn at hHB
  change F 20 = nI w at hWu
  change F' 20 = nI w at hWv
  subst hh
  rcases (show ((0 ≤ x1.toInt ∧ x1.toInt < 8) ∧ 0 ≤ x2.toInt ∧ x2.toInt ≤ x3.toInt ∧ x3.toInt ≤ 1024) ∨ (¬ (0 ≤ x1.toInt ∧ x1.toInt < 8) ∨ 1024 < x3.toInt) ∨ ((0 ≤ x1.toInt ∧ x1.toInt < 8) ∧ x3.toInt ≤ 1024 ∧ ¬ (0 ≤ x2.toInt ∧ x2.toInt ≤ x3.toInt)) by omega) with hc | hc | hc
  · obtain ⟨s0, e0, k0, q0⟩ := zi_ofm (x := x1) rfl (by omega)
    subst e0
    obtain ⟨f, e1, k1, q1⟩ := zi_ofm (x := x2) rfl (by omega)
    subst e1
    obtain ⟨t, e2, k2, q2⟩ := zi_ofm (x := x3) rfl (by omega)
    subst e2
    refine ⟨0, (nI (ct (pR (hM hs s0) f t x4) 1024)), ((nI (ct (pR (hM hs s0) f t x4) 1024)).toInt64), (fun z => z = (F, sS hs s0 (pR (hM hs s0) f t x4), G, T)), (fun z => z = (upd F' 0 (nI 0), sS hs s0 (pR (hM hs s0) f t x4), mv, G')), _, wL_putRange_ok l D C cD K adK adV ao hDA hao (F, hs, G, T) o (nI s0) (nI f) (nI t) (bI x4) (kt_X6_putRange_ok l D C K hDA F hs G T s0 f t x4 (by omega) (by omega)) (nI (ct (pR (hM hs s0) f t x4) 1024)) (fun z => z = (F, sS hs s0 (pR (hM hs s0) f t x4), G, T)) (fun r z h => h), (kt_X7_putRange_ok l D C KR hRA F' hs mv G' s0 f t x4 (by omega) (by omega)), fun r z h => h, ?_, by decide, fun _ => rfl⟩
    rintro q z rfl rfl
    exact ⟨rfl, rfl, ⟨h2, h16, h17⟩, ⟨hg3, hg19⟩, ⟨tn, htn, hTu, hTv, hHB⟩, ⟨w, hw, hWu, hWv⟩⟩
  · refine ⟨1, (nI 0), o, (fun z => z = (F, hs, G, T)), (fun z => z = (upd F' 0 (nI 1), hs, mv, G')), _, wL_putRange_x1 l D C cD K adK adV ao hDA hao (F, hs, G, T) o x1 x2 x3 (bI x4) (kt_X6_putRange_x1 l hl D C K hDA F hs G T x1 x2 x3 x4 x1.toInt x3.toInt rfl rfl (by omega)), (kt_X7_putRange_no l D C KR hRA F' hs mv G' x1 x2 x3 x4 x1.toInt x2.toInt x3.toInt rfl rfl rfl (by omega)), fun r z h => h.1 (by omega), ?_, by decide, fun z => absurd z (by decide)⟩
    rintro q z rfl rfl
    exact ⟨rfl, rfl, ⟨h2, h16, h17⟩, ⟨hg3, hg19⟩, ⟨tn, htn, hTu, hTv, hHB⟩, ⟨w, hw, hWu, hWv⟩⟩
  · obtain ⟨s0, e0, k0, q0⟩ := zi_ofm (x := x1) rfl (by omega)
    subst e0
    refine ⟨2, (nI 0), o, (fun z => z = (upd F 2 (F 2 + 1), hs, G, T)), (fun z => z = (upd (upd F' 0 (nI 2)) 2 (F' 2 + 1), hs, mv, G')), _, wL_putRange_x2 l D C cD K adK adV ao hDA hao (F, hs, G, T) o (nI s0) x2 x3 (bI x4) (kt_X6_putRange_x2 l hl D C K hDA F hs G T s0 x2 x3 x4 x2.toInt x3.toInt rfl rfl (by omega) (by omega) (by omega)), (kt_X7_putRange_no l D C KR hRA F' hs mv G' (nI s0) x2 x3 x4 ((nI s0)).toInt x2.toInt x3.toInt rfl rfl rfl (by omega)), fun r z h => h.2 (by omega), ?_, by decide, fun z => absurd z (by decide)⟩
    rintro q z rfl rfl
    exact ⟨rfl, rfl, ⟨congrArg (fun z => z + 1) h2, h16, h17⟩, ⟨hg3, hg19⟩, ⟨tn, htn, hTu, hTv, hHB⟩, ⟨w, hw, hWu, hWv⟩⟩

set_option maxHeartbeats 4000000 in
set_option maxRecDepth 100000 in
theorem pr_flipRange (l : Launch) (hl : l.stackTraces = false) (D : va_G) (C : Nat → ClassId) (cD : ClassId) (K KR adK adV : Nat → Nat) (ao : Nat) (hDA : DAp K) (hRA : RAp KR) (hao : ¬ DAd K ao) (u : CSt) (v : MSt) (o : Int64) (hI : INV u v) (x1 : Int32) (x2 : Int32) (x3 : Int32) : PairI (fun post => LM l yL_flipRange wsL_flipRange rw_flipRange D C cD K adK adV ao (OLn C ao) [.int x1, .int x2, .int x3] u o post) (fun post => RMi l yX7_flipRange wsX7_flipRange rm_X7_flipRange D C KR [.int x1, .int x2, .int x3] v.1 v.2.1 v.2.2.1 v.2.2.2 post) Int32.toInt64 := by
  obtain ⟨F, hs, G, T⟩ := u
  obtain ⟨F', hs', mv, G'⟩ := v
  obtain ⟨hh, ⟨h2, h16, h17⟩, ⟨hg3, hg19⟩, ⟨tn, htn, hTu, hTv, hHB⟩, w, hw, hWu, hWv⟩ := hI
  change hs = hs' at hh
  change F 2 = F' 2 at h2
  change F 16 = F' 16 at h16
  change F 17 = F' 17 at h17
  change G 3 = G' 3 at hg3
  change G 19 = G' 19 at hg19
  change F 4 = nI tn at hTu
  change F' 4 = nI tn at hTv
  change HB (G 3) tn at hHB
  change F 20 = nI w at hWu
  change F' 20 = nI w at hWv
  subst hh
  rcases (show ((0 ≤ x1.toInt ∧ x1.toInt < 8) ∧ 0 ≤ x2.toInt ∧ x2.toInt ≤ x3.toInt ∧ x3.toInt ≤ 1024) ∨ (¬ (0 ≤ x1.toInt ∧ x1.toInt < 8) ∨ 1024 < x3.toInt) ∨ ((0 ≤ x1.toInt ∧ x1.toInt < 8) ∧ x3.toInt ≤ 1024 ∧ ¬ (0 ≤ x2.toInt ∧ x2.toInt ≤ x3.toInt)) by omega) with hc | hc | hc
  · obtain ⟨s0, e0, k0, q0⟩ := zi_ofm (x := x1) rfl (by omega)
    subst e0
    obtain ⟨f, e1, k1, q1⟩ := zi_ofm (x := x2) rfl (by omega)
    subst e1
    obtain ⟨t, e2, k2, q2⟩ := zi_ofm (x := x3) rfl (by omega)
    subst e2
    refine ⟨0, (nI (ct (pX (hM hs s0) f t) 1024)), ((nI (ct (pX (hM hs s0) f t) 1024)).toInt64), (fun z => z = (F, sS hs s0 (pX (hM hs s0) f t), G, T)), (fun z => z = (upd F' 0 (nI 0), sS hs s0 (pX (hM hs s0) f t), mv, G')), _, wL_flipRange_ok l D C cD K adK adV ao hDA hao (F, hs, G, T) o (nI s0) (nI f) (nI t) (kt_X6_flipRange_ok l D C K hDA F hs G T s0 f t (by omega) (by omega)) (nI (ct (pX (hM hs s0) f t) 1024)) (fun z => z = (F, sS hs s0 (pX (hM hs s0) f t), G, T)) (fun r z h => h), (kt_X7_flipRange_ok l D C KR hRA F' hs mv G' s0 f t (by omega) (by omega)), fun r z h => h, ?_, by decide, fun _ => rfl⟩
    rintro q z rfl rfl
    exact ⟨rfl, rfl, ⟨h2, h16, h17⟩, ⟨hg3, hg19⟩, ⟨tn, htn, hTu, hTv, hHB⟩, ⟨w, hw, hWu, hWv⟩⟩
  · refine ⟨1, (nI 0), o, (fun z => z = (F, hs, G, T)), (fun z => z = (upd F' 0 (nI 1), hs, mv, G')), _, wL_flipRange_x1 l D C cD K adK adV ao hDA hao (F, hs, G, T) o x1 x2 x3 (kt_X6_flipRange_x1 l hl D C K hDA F hs G T x1 x2 x3 x1.toInt x3.toInt rfl rfl (by omega)), (kt_X7_flipRange_no l D C KR hRA F' hs mv G' x1 x2 x3 x1.toInt x2.toInt x3.toInt rfl rfl rfl (by omega)), fun r z h => h.1 (by omega), ?_, by decide, fun z => absurd z (by decide)⟩
    rintro q z rfl rfl
    exact ⟨rfl, rfl, ⟨h2, h16, h17⟩, ⟨hg3, hg19⟩, ⟨tn, htn, hTu, hTv, hHB⟩, ⟨w, hw, hWu, hWv⟩⟩
  · obtain ⟨s0, e0, k0, q0⟩ := zi_ofm (x := x1) rfl (by omega)
    subst e0
    refine ⟨2, (nI 0), o, (fun z => z = (upd F 2 (F 2 + 1), hs, G, T)), (fun z => z = (upd (upd F' 0 (nI 2)) 2 (F' 2 + 1), hs, mv, G')), _, wL_flipRange_x2 l D C cD K adK adV ao hDA hao (F, hs, G, T) o (nI s0) x2 x3 (kt_X6_flipRange_x2 l hl D C K hDA F hs G T s0 x2 x3 x2.toInt x3.toInt rfl rfl (by omega) (by omega) (by omega)), (kt_X7_flipRange_no l D C KR hRA F' hs mv G' (nI s0) x2 x3 ((nI s0)).toInt x2.toInt x3.toInt rfl rfl rfl (by omega)), fun r z h => h.2 (by omega), ?_, by decide, fun z => absurd z (by decide)⟩
    rintro q z rfl rfl
    exact ⟨rfl, rfl, ⟨congrArg (fun z => z + 1) h2, h16, h17⟩, ⟨hg3, hg19⟩, ⟨tn, htn, hTu, hTv, hHB⟩, ⟨w, hw, hWu, hWv⟩⟩

set_option maxHeartbeats 4000000 in
set_option maxRecDepth 100000 in
theorem pr_removeAll (l : Launch) (hl : l.stackTraces = false) (D : va_G) (C : Nat → ClassId) (cD : ClassId) (K KR adK adV : Nat → Nat) (ao : Nat) (hDA : DAp K) (hRA : RAp KR) (hao : ¬ DAd K ao) (u : CSt) (v : MSt) (o : Int64) (hI : INV u v) (x1 : Int32) : PairI (fun post => LM l yL_removeAll wsL_removeAll rw_removeAll D C cD K adK adV ao (OLn C ao) [.int x1] u o post) (fun post => RMi l yX7_removeAll wsX7_removeAll rm_X7_removeAll D C KR [.int x1] v.1 v.2.1 v.2.2.1 v.2.2.2 post) Int32.toInt64 := by
  obtain ⟨F, hs, G, T⟩ := u
  obtain ⟨F', hs', mv, G'⟩ := v
  obtain ⟨hh, ⟨h2, h16, h17⟩, ⟨hg3, hg19⟩, ⟨tn, htn, hTu, hTv, hHB⟩, w, hw, hWu, hWv⟩ := hI
  change hs = hs' at hh
  change F 2 = F' 2 at h2
  change F 16 = F' 16 at h16
  change F 17 = F' 17 at h17
  change G 3 = G' 3 at hg3
  change G 19 = G' 19 at hg19
  change F 4 = nI tn at hTu
  change F' 4 = nI tn at hTv
  change HB (G 3) tn at hHB
  change F 20 = nI w at hWu
  change F' 20 = nI w at hWv
  subst hh
  rcases (show (0 ≤ x1.toInt ∧ x1.toInt < 8) ∨ (¬ (0 ≤ x1.toInt ∧ x1.toInt < 8)) by omega) with hc | hc
  · obtain ⟨s0, e0, k0, q0⟩ := zi_ofm (x := x1) rfl (by omega)
    subst e0
    refine ⟨0, (nI (ct (hM hs s0) 1024)), ((nI (ct (hM hs s0) 1024)).toInt64), (fun z => z = (F, sS hs s0 (fun _ => false), G, T)), (fun z => z = (upd F' 0 (nI 0), sS hs s0 (fun _ => false), mv, G')), _, wL_removeAll_ok l D C cD K adK adV ao hDA hao (F, hs, G, T) o (nI s0) (kt_X6_removeAll_ok l D C K hDA F hs G T s0 (by omega)) (nI (ct (hM hs s0) 1024)) (fun z => z = (F, sS hs s0 (fun _ => false), G, T)) (fun r z h => h), (kt_X7_removeAll_ok l D C KR hRA F' hs mv G' s0 (by omega)), fun r z h => h, ?_, by decide, fun _ => rfl⟩
    rintro q z rfl rfl
    exact ⟨rfl, rfl, ⟨h2, h16, h17⟩, ⟨hg3, hg19⟩, ⟨tn, htn, hTu, hTv, hHB⟩, ⟨w, hw, hWu, hWv⟩⟩
  · refine ⟨1, (nI 0), o, (fun z => z = (F, hs, G, T)), (fun z => z = (upd F' 0 (nI 1), hs, mv, G')), _, wL_removeAll_x1 l D C cD K adK adV ao hDA hao (F, hs, G, T) o x1 (kt_X6_removeAll_x1 l hl D C K hDA F hs G T x1 x1.toInt rfl (by omega)), (kt_X7_removeAll_no l D C KR hRA F' hs mv G' x1 x1.toInt rfl (by omega)), fun r z h => h, ?_, by decide, fun z => absurd z (by decide)⟩
    rintro q z rfl rfl
    exact ⟨rfl, rfl, ⟨h2, h16, h17⟩, ⟨hg3, hg19⟩, ⟨tn, htn, hTu, hTv, hHB⟩, ⟨w, hw, hWu, hWv⟩⟩

set_option maxHeartbeats 4000000 in
set_option maxRecDepth 100000 in
theorem pr_renew (l : Launch) (hl : l.stackTraces = false) (D : va_G) (C : Nat → ClassId) (cD : ClassId) (K KR adK adV : Nat → Nat) (ao : Nat) (hDA : DAp K) (hRA : RAp KR) (hao : ¬ DAd K ao) (u : CSt) (v : MSt) (o : Int64) (hI : INV u v) (x1 : Int32) (x2 : Int32) : PairI (fun post => LM l yL_renew wsL_renew rw_renew D C cD K adK adV ao (OLn C ao) [.int x1, .int x2] u o post) (fun post => RMi l yX7_renew wsX7_renew rm_X7_renew D C KR [.int x1, .int x2] v.1 v.2.1 v.2.2.1 v.2.2.2 post) Int32.toInt64 := by
  obtain ⟨F, hs, G, T⟩ := u
  obtain ⟨F', hs', mv, G'⟩ := v
  obtain ⟨hh, ⟨h2, h16, h17⟩, ⟨hg3, hg19⟩, ⟨tn, htn, hTu, hTv, hHB⟩, w, hw, hWu, hWv⟩ := hI
  change hs = hs' at hh
  change F 2 = F' 2 at h2
  change F 16 = F' 16 at h16
  change F 17 = F' 17 at h17
  change G 3 = G' 3 at hg3
  change G 19 = G' 19 at hg19
  change F 4 = nI tn at hTu
  change F' 4 = nI tn at hTv
  change HB (G 3) tn at hHB
  change F 20 = nI w at hWu
  change F' 20 = nI w at hWv
  subst hh
  rcases (show ((0 ≤ x1.toInt ∧ x1.toInt < 8) ∧ 0 ≤ x2.toInt ∧ x2.toInt ≤ 1024) ∨ (¬ (0 ≤ x1.toInt ∧ x1.toInt < 8)) ∨ ((0 ≤ x1.toInt ∧ x1.toInt < 8) ∧ x2.toInt < 0) ∨ ((0 ≤ x1.toInt ∧ x1.toInt < 8) ∧ 1024 < x2.toInt) by omega) with hc | hc | hc | hc
  · obtain ⟨s0, e0, k0, q0⟩ := zi_ofm (x := x1) rfl (by omega)
    subst e0
    refine ⟨0, (nI (ct (hM hs s0) 1024)), ((nI (ct (hM hs s0) 1024)).toInt64), (fun z => z = (F, sS hs s0 (fun _ => false), G, T)), (fun z => z = (upd F' 0 (nI 0), sS hs s0 (fun _ => false), mv, G')), _, wL_renew_ok l D C cD K adK adV ao hDA hao (F, hs, G, T) o (nI s0) x2 (kt_X6_renew_ok l D C K hDA F hs G T s0 x2 x2.toInt rfl (by omega) (by omega)) (nI (ct (hM hs s0) 1024)) (fun z => z = (F, sS hs s0 (fun _ => false), G, T)) (fun r z h => h), (kt_X7_renew_ok l D C KR hRA F' hs mv G' s0 x2 x2.toInt rfl (by omega)), fun r z h => h.2.2 (by omega), ?_, by decide, fun _ => rfl⟩
    rintro q z rfl rfl
    exact ⟨rfl, rfl, ⟨h2, h16, h17⟩, ⟨hg3, hg19⟩, ⟨tn, htn, hTu, hTv, hHB⟩, ⟨w, hw, hWu, hWv⟩⟩
  · refine ⟨1, (nI 0), o, (fun z => z = (F, hs, G, T)), (fun z => z = (upd F' 0 (nI 1), hs, mv, G')), _, wL_renew_x1 l D C cD K adK adV ao hDA hao (F, hs, G, T) o x1 x2 (kt_X6_renew_x1 l hl D C K hDA F hs G T x1 x2 x1.toInt rfl (by omega)), (kt_X7_renew_no l D C KR hRA F' hs mv G' x1 x2 x1.toInt rfl (by omega)), fun r z h => h, ?_, by decide, fun z => absurd z (by decide)⟩
    rintro q z rfl rfl
    exact ⟨rfl, rfl, ⟨h2, h16, h17⟩, ⟨hg3, hg19⟩, ⟨tn, htn, hTu, hTv, hHB⟩, ⟨w, hw, hWu, hWv⟩⟩
  · obtain ⟨s0, e0, k0, q0⟩ := zi_ofm (x := x1) rfl (by omega)
    subst e0
    refine ⟨1, (nI 0), o, (fun z => z = (upd F 2 (F 2 + 1), hs, G, T)), (fun z => z = (upd (upd F' 0 (nI 1)) 2 (F' 2 + 1), hs, mv, G')), _, wL_renew_x1 l D C cD K adK adV ao hDA hao (F, hs, G, T) o (nI s0) x2 (kt_X6_renew_x2 l hl D C K hDA F hs G T s0 x2 x2.toInt rfl (by omega) (by omega)), (kt_X7_renew_ok l D C KR hRA F' hs mv G' s0 x2 x2.toInt rfl (by omega)), fun r z h => h.1 (by omega), ?_, by decide, fun z => absurd z (by decide)⟩
    rintro q z rfl rfl
    exact ⟨rfl, rfl, ⟨congrArg (fun z => z + 1) h2, h16, h17⟩, ⟨hg3, hg19⟩, ⟨tn, htn, hTu, hTv, hHB⟩, ⟨w, hw, hWu, hWv⟩⟩
  · obtain ⟨s0, e0, k0, q0⟩ := zi_ofm (x := x1) rfl (by omega)
    subst e0
    refine ⟨1, (nI 0), o, (fun z => z = (F, hs, G, T)), (fun z => z = (upd F' 0 (nI 1), hs, mv, G')), _, wL_renew_x1 l D C cD K adK adV ao hDA hao (F, hs, G, T) o (nI s0) x2 (kt_X6_renew_x3 l hl D C K hDA F hs G T s0 x2 x2.toInt rfl (by omega) (by omega)), (kt_X7_renew_ok l D C KR hRA F' hs mv G' s0 x2 x2.toInt rfl (by omega)), fun r z h => h.2.1 (by omega), ?_, by decide, fun z => absurd z (by decide)⟩
    rintro q z rfl rfl
    exact ⟨rfl, rfl, ⟨h2, h16, h17⟩, ⟨hg3, hg19⟩, ⟨tn, htn, hTu, hTv, hHB⟩, ⟨w, hw, hWu, hWv⟩⟩

set_option maxHeartbeats 4000000 in
set_option maxRecDepth 100000 in
theorem pr_intersect (l : Launch) (hl : l.stackTraces = false) (D : va_G) (C : Nat → ClassId) (cD : ClassId) (K KR adK adV : Nat → Nat) (ao : Nat) (hDA : DAp K) (hRA : RAp KR) (hao : ¬ DAd K ao) (u : CSt) (v : MSt) (o : Int64) (hI : INV u v) (x1 : Int32) (x2 : Int32) : PairI (fun post => LM l yL_intersect wsL_intersect rw_intersect D C cD K adK adV ao (OLn C ao) [.int x1, .int x2] u o post) (fun post => RMi l yX7_intersect wsX7_intersect rm_X7_intersect D C KR [.int x1, .int x2] v.1 v.2.1 v.2.2.1 v.2.2.2 post) Int32.toInt64 := by
  obtain ⟨F, hs, G, T⟩ := u
  obtain ⟨F', hs', mv, G'⟩ := v
  obtain ⟨hh, ⟨h2, h16, h17⟩, ⟨hg3, hg19⟩, ⟨tn, htn, hTu, hTv, hHB⟩, w, hw, hWu, hWv⟩ := hI
  change hs = hs' at hh
  change F 2 = F' 2 at h2
  change F 16 = F' 16 at h16
  change F 17 = F' 17 at h17
  change G 3 = G' 3 at hg3
  change G 19 = G' 19 at hg19
  change F 4 = nI tn at hTu
  change F' 4 = nI tn at hTv
  change HB (G 3) tn at hHB
  change F 20 = nI w at hWu
  change F' 20 = nI w at hWv
  subst hh
  rcases (show ((0 ≤ x1.toInt ∧ x1.toInt < 8) ∧ 0 ≤ x2.toInt ∧ x2.toInt < 8) ∨ (¬ (0 ≤ x1.toInt ∧ x1.toInt < 8)) ∨ ((0 ≤ x1.toInt ∧ x1.toInt < 8) ∧ ¬ (0 ≤ x2.toInt ∧ x2.toInt < 8)) by omega) with hc | hc | hc
  · obtain ⟨s0, e0, k0, q0⟩ := zi_ofm (x := x1) rfl (by omega)
    subst e0
    obtain ⟨o0, e1, k1, q1⟩ := zi_ofm (x := x2) rfl (by omega)
    subst e1
    refine ⟨0, (nI (ct (fun i => pJ 38 (hM hs s0 i) (hM hs o0 i)) 1024)), ((nI (ct (fun i => pJ 38 (hM hs s0 i) (hM hs o0 i)) 1024)).toInt64), (fun z => z = (F, sS hs s0 (fun i => pJ 38 (hM hs s0 i) (hM hs o0 i)), G, T)), (fun z => z = (upd F' 0 (nI 0), sS hs s0 (fun i => pJ 38 (hM hs s0 i) (hM hs o0 i)), mv, G')), _, wL_intersect_ok l D C cD K adK adV ao hDA hao (F, hs, G, T) o (nI s0) (nI o0) (kt_X6_intersect_ok l D C K hDA F hs G T s0 o0 (by omega) (by omega)) (nI (ct (fun i => pJ 38 (hM hs s0 i) (hM hs o0 i)) 1024)) (fun z => z = (F, sS hs s0 (fun i => pJ 38 (hM hs s0 i) (hM hs o0 i)), G, T)) (fun r z h => h), (kt_X7_intersect_ok l D C KR hRA F' hs mv G' s0 o0 (by omega) (by omega)), fun r z h => h, ?_, by decide, fun _ => rfl⟩
    rintro q z rfl rfl
    exact ⟨rfl, rfl, ⟨h2, h16, h17⟩, ⟨hg3, hg19⟩, ⟨tn, htn, hTu, hTv, hHB⟩, ⟨w, hw, hWu, hWv⟩⟩
  · refine ⟨1, (nI 0), o, (fun z => z = (F, hs, G, T)), (fun z => z = (upd F' 0 (nI 1), hs, mv, G')), _, wL_intersect_x1 l D C cD K adK adV ao hDA hao (F, hs, G, T) o x1 x2 (kt_X6_intersect_x1 l hl D C K hDA F hs G T x1 x2 x1.toInt rfl (by omega)), (kt_X7_intersect_no l D C KR hRA F' hs mv G' x1 x2 x1.toInt x2.toInt rfl rfl (by omega)), fun r z h => h, ?_, by decide, fun z => absurd z (by decide)⟩
    rintro q z rfl rfl
    exact ⟨rfl, rfl, ⟨h2, h16, h17⟩, ⟨hg3, hg19⟩, ⟨tn, htn, hTu, hTv, hHB⟩, ⟨w, hw, hWu, hWv⟩⟩
  · obtain ⟨s0, e0, k0, q0⟩ := zi_ofm (x := x1) rfl (by omega)
    subst e0
    refine ⟨1, (nI 0), o, (fun z => z = (F, hs, G, T)), (fun z => z = (upd F' 0 (nI 1), hs, mv, G')), _, wL_intersect_x1 l D C cD K adK adV ao hDA hao (F, hs, G, T) o (nI s0) x2 (kt_X6_intersect_x2 l hl D C K hDA F hs G T s0 x2 x2.toInt rfl (by omega) (by omega)), (kt_X7_intersect_no l D C KR hRA F' hs mv G' (nI s0) x2 ((nI s0)).toInt x2.toInt rfl rfl (by omega)), fun r z h => h, ?_, by decide, fun z => absurd z (by decide)⟩
    rintro q z rfl rfl
    exact ⟨rfl, rfl, ⟨h2, h16, h17⟩, ⟨hg3, hg19⟩, ⟨tn, htn, hTu, hTv, hHB⟩, ⟨w, hw, hWu, hWv⟩⟩

set_option maxHeartbeats 4000000 in
set_option maxRecDepth 100000 in
theorem pr_unite (l : Launch) (hl : l.stackTraces = false) (D : va_G) (C : Nat → ClassId) (cD : ClassId) (K KR adK adV : Nat → Nat) (ao : Nat) (hDA : DAp K) (hRA : RAp KR) (hao : ¬ DAd K ao) (u : CSt) (v : MSt) (o : Int64) (hI : INV u v) (x1 : Int32) (x2 : Int32) : PairI (fun post => LM l yL_unite wsL_unite rw_unite D C cD K adK adV ao (OLn C ao) [.int x1, .int x2] u o post) (fun post => RMi l yX7_unite wsX7_unite rm_X7_unite D C KR [.int x1, .int x2] v.1 v.2.1 v.2.2.1 v.2.2.2 post) Int32.toInt64 := by
  obtain ⟨F, hs, G, T⟩ := u
  obtain ⟨F', hs', mv, G'⟩ := v
  obtain ⟨hh, ⟨h2, h16, h17⟩, ⟨hg3, hg19⟩, ⟨tn, htn, hTu, hTv, hHB⟩, w, hw, hWu, hWv⟩ := hI
  change hs = hs' at hh
  change F 2 = F' 2 at h2
  change F 16 = F' 16 at h16
  change F 17 = F' 17 at h17
  change G 3 = G' 3 at hg3
  change G 19 = G' 19 at hg19
  change F 4 = nI tn at hTu
  change F' 4 = nI tn at hTv
  change HB (G 3) tn at hHB
  change F 20 = nI w at hWu
  change F' 20 = nI w at hWv
  subst hh
  rcases (show ((0 ≤ x1.toInt ∧ x1.toInt < 8) ∧ 0 ≤ x2.toInt ∧ x2.toInt < 8) ∨ (¬ (0 ≤ x1.toInt ∧ x1.toInt < 8)) ∨ ((0 ≤ x1.toInt ∧ x1.toInt < 8) ∧ ¬ (0 ≤ x2.toInt ∧ x2.toInt < 8)) by omega) with hc | hc | hc
  · obtain ⟨s0, e0, k0, q0⟩ := zi_ofm (x := x1) rfl (by omega)
    subst e0
    obtain ⟨o0, e1, k1, q1⟩ := zi_ofm (x := x2) rfl (by omega)
    subst e1
    refine ⟨0, (nI (ct (fun i => pJ 124 (hM hs s0 i) (hM hs o0 i)) 1024)), ((nI (ct (fun i => pJ 124 (hM hs s0 i) (hM hs o0 i)) 1024)).toInt64), (fun z => z = (F, sS hs s0 (fun i => pJ 124 (hM hs s0 i) (hM hs o0 i)), G, T)), (fun z => z = (upd F' 0 (nI 0), sS hs s0 (fun i => pJ 124 (hM hs s0 i) (hM hs o0 i)), mv, G')), _, wL_unite_ok l D C cD K adK adV ao hDA hao (F, hs, G, T) o (nI s0) (nI o0) (kt_X6_unite_ok l D C K hDA F hs G T s0 o0 (by omega) (by omega)) (nI (ct (fun i => pJ 124 (hM hs s0 i) (hM hs o0 i)) 1024)) (fun z => z = (F, sS hs s0 (fun i => pJ 124 (hM hs s0 i) (hM hs o0 i)), G, T)) (fun r z h => h), (kt_X7_unite_ok l D C KR hRA F' hs mv G' s0 o0 (by omega) (by omega)), fun r z h => h, ?_, by decide, fun _ => rfl⟩
    rintro q z rfl rfl
    exact ⟨rfl, rfl, ⟨h2, h16, h17⟩, ⟨hg3, hg19⟩, ⟨tn, htn, hTu, hTv, hHB⟩, ⟨w, hw, hWu, hWv⟩⟩
  · refine ⟨1, (nI 0), o, (fun z => z = (F, hs, G, T)), (fun z => z = (upd F' 0 (nI 1), hs, mv, G')), _, wL_unite_x1 l D C cD K adK adV ao hDA hao (F, hs, G, T) o x1 x2 (kt_X6_unite_x1 l hl D C K hDA F hs G T x1 x2 x1.toInt rfl (by omega)), (kt_X7_unite_no l D C KR hRA F' hs mv G' x1 x2 x1.toInt x2.toInt rfl rfl (by omega)), fun r z h => h, ?_, by decide, fun z => absurd z (by decide)⟩
    rintro q z rfl rfl
    exact ⟨rfl, rfl, ⟨h2, h16, h17⟩, ⟨hg3, hg19⟩, ⟨tn, htn, hTu, hTv, hHB⟩, ⟨w, hw, hWu, hWv⟩⟩
  · obtain ⟨s0, e0, k0, q0⟩ := zi_ofm (x := x1) rfl (by omega)
    subst e0
    refine ⟨1, (nI 0), o, (fun z => z = (F, hs, G, T)), (fun z => z = (upd F' 0 (nI 1), hs, mv, G')), _, wL_unite_x1 l D C cD K adK adV ao hDA hao (F, hs, G, T) o (nI s0) x2 (kt_X6_unite_x2 l hl D C K hDA F hs G T s0 x2 x2.toInt rfl (by omega) (by omega)), (kt_X7_unite_no l D C KR hRA F' hs mv G' (nI s0) x2 ((nI s0)).toInt x2.toInt rfl rfl (by omega)), fun r z h => h, ?_, by decide, fun z => absurd z (by decide)⟩
    rintro q z rfl rfl
    exact ⟨rfl, rfl, ⟨h2, h16, h17⟩, ⟨hg3, hg19⟩, ⟨tn, htn, hTu, hTv, hHB⟩, ⟨w, hw, hWu, hWv⟩⟩

set_option maxHeartbeats 4000000 in
set_option maxRecDepth 100000 in
theorem pr_differ (l : Launch) (hl : l.stackTraces = false) (D : va_G) (C : Nat → ClassId) (cD : ClassId) (K KR adK adV : Nat → Nat) (ao : Nat) (hDA : DAp K) (hRA : RAp KR) (hao : ¬ DAd K ao) (u : CSt) (v : MSt) (o : Int64) (hI : INV u v) (x1 : Int32) (x2 : Int32) : PairI (fun post => LM l yL_differ wsL_differ rw_differ D C cD K adK adV ao (OLn C ao) [.int x1, .int x2] u o post) (fun post => RMi l yX7_differ wsX7_differ rm_X7_differ D C KR [.int x1, .int x2] v.1 v.2.1 v.2.2.1 v.2.2.2 post) Int32.toInt64 := by
  obtain ⟨F, hs, G, T⟩ := u
  obtain ⟨F', hs', mv, G'⟩ := v
  obtain ⟨hh, ⟨h2, h16, h17⟩, ⟨hg3, hg19⟩, ⟨tn, htn, hTu, hTv, hHB⟩, w, hw, hWu, hWv⟩ := hI
  change hs = hs' at hh
  change F 2 = F' 2 at h2
  change F 16 = F' 16 at h16
  change F 17 = F' 17 at h17
  change G 3 = G' 3 at hg3
  change G 19 = G' 19 at hg19
  change F 4 = nI tn at hTu
  change F' 4 = nI tn at hTv
  change HB (G 3) tn at hHB
  change F 20 = nI w at hWu
  change F' 20 = nI w at hWv
  subst hh
  rcases (show ((0 ≤ x1.toInt ∧ x1.toInt < 8) ∧ 0 ≤ x2.toInt ∧ x2.toInt < 8) ∨ (¬ (0 ≤ x1.toInt ∧ x1.toInt < 8)) ∨ ((0 ≤ x1.toInt ∧ x1.toInt < 8) ∧ ¬ (0 ≤ x2.toInt ∧ x2.toInt < 8)) by omega) with hc | hc | hc
  · obtain ⟨s0, e0, k0, q0⟩ := zi_ofm (x := x1) rfl (by omega)
    subst e0
    obtain ⟨o0, e1, k1, q1⟩ := zi_ofm (x := x2) rfl (by omega)
    subst e1
    refine ⟨0, (nI (ct (fun i => pJ 126 (hM hs s0 i) (hM hs o0 i)) 1024)), ((nI (ct (fun i => pJ 126 (hM hs s0 i) (hM hs o0 i)) 1024)).toInt64), (fun z => z = (F, sS hs s0 (fun i => pJ 126 (hM hs s0 i) (hM hs o0 i)), G, T)), (fun z => z = (upd F' 0 (nI 0), sS hs s0 (fun i => pJ 126 (hM hs s0 i) (hM hs o0 i)), mv, G')), _, wL_differ_ok l D C cD K adK adV ao hDA hao (F, hs, G, T) o (nI s0) (nI o0) (kt_X6_differ_ok l D C K hDA F hs G T s0 o0 (by omega) (by omega)) (nI (ct (fun i => pJ 126 (hM hs s0 i) (hM hs o0 i)) 1024)) (fun z => z = (F, sS hs s0 (fun i => pJ 126 (hM hs s0 i) (hM hs o0 i)), G, T)) (fun r z h => h), (kt_X7_differ_ok l D C KR hRA F' hs mv G' s0 o0 (by omega) (by omega)), fun r z h => h, ?_, by decide, fun _ => rfl⟩
    rintro q z rfl rfl
    exact ⟨rfl, rfl, ⟨h2, h16, h17⟩, ⟨hg3, hg19⟩, ⟨tn, htn, hTu, hTv, hHB⟩, ⟨w, hw, hWu, hWv⟩⟩
  · refine ⟨1, (nI 0), o, (fun z => z = (F, hs, G, T)), (fun z => z = (upd F' 0 (nI 1), hs, mv, G')), _, wL_differ_x1 l D C cD K adK adV ao hDA hao (F, hs, G, T) o x1 x2 (kt_X6_differ_x1 l hl D C K hDA F hs G T x1 x2 x1.toInt rfl (by omega)), (kt_X7_differ_no l D C KR hRA F' hs mv G' x1 x2 x1.toInt x2.toInt rfl rfl (by omega)), fun r z h => h, ?_, by decide, fun z => absurd z (by decide)⟩
    rintro q z rfl rfl
    exact ⟨rfl, rfl, ⟨h2, h16, h17⟩, ⟨hg3, hg19⟩, ⟨tn, htn, hTu, hTv, hHB⟩, ⟨w, hw, hWu, hWv⟩⟩
  · obtain ⟨s0, e0, k0, q0⟩ := zi_ofm (x := x1) rfl (by omega)
    subst e0
    refine ⟨1, (nI 0), o, (fun z => z = (F, hs, G, T)), (fun z => z = (upd F' 0 (nI 1), hs, mv, G')), _, wL_differ_x1 l D C cD K adK adV ao hDA hao (F, hs, G, T) o (nI s0) x2 (kt_X6_differ_x2 l hl D C K hDA F hs G T s0 x2 x2.toInt rfl (by omega) (by omega)), (kt_X7_differ_no l D C KR hRA F' hs mv G' (nI s0) x2 ((nI s0)).toInt x2.toInt rfl rfl (by omega)), fun r z h => h, ?_, by decide, fun z => absurd z (by decide)⟩
    rintro q z rfl rfl
    exact ⟨rfl, rfl, ⟨h2, h16, h17⟩, ⟨hg3, hg19⟩, ⟨tn, htn, hTu, hTv, hHB⟩, ⟨w, hw, hWu, hWv⟩⟩

set_option maxHeartbeats 4000000 in
set_option maxRecDepth 100000 in
theorem pr_subtract (l : Launch) (hl : l.stackTraces = false) (D : va_G) (C : Nat → ClassId) (cD : ClassId) (K KR adK adV : Nat → Nat) (ao : Nat) (hDA : DAp K) (hRA : RAp KR) (hao : ¬ DAd K ao) (u : CSt) (v : MSt) (o : Int64) (hI : INV u v) (x1 : Int32) (x2 : Int32) : PairI (fun post => LM l yL_subtract wsL_subtract rw_subtract D C cD K adK adV ao (OLn C ao) [.int x1, .int x2] u o post) (fun post => RMi l yX7_subtract wsX7_subtract rm_X7_subtract D C KR [.int x1, .int x2] v.1 v.2.1 v.2.2.1 v.2.2.2 post) Int32.toInt64 := by
  obtain ⟨F, hs, G, T⟩ := u
  obtain ⟨F', hs', mv, G'⟩ := v
  obtain ⟨hh, ⟨h2, h16, h17⟩, ⟨hg3, hg19⟩, ⟨tn, htn, hTu, hTv, hHB⟩, w, hw, hWu, hWv⟩ := hI
  change hs = hs' at hh
  change F 2 = F' 2 at h2
  change F 16 = F' 16 at h16
  change F 17 = F' 17 at h17
  change G 3 = G' 3 at hg3
  change G 19 = G' 19 at hg19
  change F 4 = nI tn at hTu
  change F' 4 = nI tn at hTv
  change HB (G 3) tn at hHB
  change F 20 = nI w at hWu
  change F' 20 = nI w at hWv
  subst hh
  rcases (show ((0 ≤ x1.toInt ∧ x1.toInt < 8) ∧ 0 ≤ x2.toInt ∧ x2.toInt < 8) ∨ (¬ (0 ≤ x1.toInt ∧ x1.toInt < 8)) ∨ ((0 ≤ x1.toInt ∧ x1.toInt < 8) ∧ ¬ (0 ≤ x2.toInt ∧ x2.toInt < 8)) by omega) with hc | hc | hc
  · obtain ⟨s0, e0, k0, q0⟩ := zi_ofm (x := x1) rfl (by omega)
    subst e0
    obtain ⟨o0, e1, k1, q1⟩ := zi_ofm (x := x2) rfl (by omega)
    subst e1
    refine ⟨0, (nI (ct (fun i => pJ 33 (hM hs s0 i) (hM hs o0 i)) 1024)), ((nI (ct (fun i => pJ 33 (hM hs s0 i) (hM hs o0 i)) 1024)).toInt64), (fun z => z = (F, sS hs s0 (fun i => pJ 33 (hM hs s0 i) (hM hs o0 i)), G, T)), (fun z => z = (upd F' 0 (nI 0), sS hs s0 (fun i => pJ 33 (hM hs s0 i) (hM hs o0 i)), mv, G')), _, wL_subtract_ok l D C cD K adK adV ao hDA hao (F, hs, G, T) o (nI s0) (nI o0) (kt_X6_subtract_ok l D C K hDA F hs G T s0 o0 (by omega) (by omega)) (nI (ct (fun i => pJ 33 (hM hs s0 i) (hM hs o0 i)) 1024)) (fun z => z = (F, sS hs s0 (fun i => pJ 33 (hM hs s0 i) (hM hs o0 i)), G, T)) (fun r z h => h), (kt_X7_subtract_ok l D C KR hRA F' hs mv G' s0 o0 (by omega) (by omega)), fun r z h => h, ?_, by decide, fun _ => rfl⟩
    rintro q z rfl rfl
    exact ⟨rfl, rfl, ⟨h2, h16, h17⟩, ⟨hg3, hg19⟩, ⟨tn, htn, hTu, hTv, hHB⟩, ⟨w, hw, hWu, hWv⟩⟩
  · refine ⟨1, (nI 0), o, (fun z => z = (F, hs, G, T)), (fun z => z = (upd F' 0 (nI 1), hs, mv, G')), _, wL_subtract_x1 l D C cD K adK adV ao hDA hao (F, hs, G, T) o x1 x2 (kt_X6_subtract_x1 l hl D C K hDA F hs G T x1 x2 x1.toInt rfl (by omega)), (kt_X7_subtract_no l D C KR hRA F' hs mv G' x1 x2 x1.toInt x2.toInt rfl rfl (by omega)), fun r z h => h, ?_, by decide, fun z => absurd z (by decide)⟩
    rintro q z rfl rfl
    exact ⟨rfl, rfl, ⟨h2, h16, h17⟩, ⟨hg3, hg19⟩, ⟨tn, htn, hTu, hTv, hHB⟩, ⟨w, hw, hWu, hWv⟩⟩
  · obtain ⟨s0, e0, k0, q0⟩ := zi_ofm (x := x1) rfl (by omega)
    subst e0
    refine ⟨1, (nI 0), o, (fun z => z = (F, hs, G, T)), (fun z => z = (upd F' 0 (nI 1), hs, mv, G')), _, wL_subtract_x1 l D C cD K adK adV ao hDA hao (F, hs, G, T) o (nI s0) x2 (kt_X6_subtract_x2 l hl D C K hDA F hs G T s0 x2 x2.toInt rfl (by omega) (by omega)), (kt_X7_subtract_no l D C KR hRA F' hs mv G' (nI s0) x2 ((nI s0)).toInt x2.toInt rfl rfl (by omega)), fun r z h => h, ?_, by decide, fun z => absurd z (by decide)⟩
    rintro q z rfl rfl
    exact ⟨rfl, rfl, ⟨h2, h16, h17⟩, ⟨hg3, hg19⟩, ⟨tn, htn, hTu, hTv, hHB⟩, ⟨w, hw, hWu, hWv⟩⟩

set_option maxHeartbeats 4000000 in
set_option maxRecDepth 100000 in
theorem pr_copy (l : Launch) (hl : l.stackTraces = false) (D : va_G) (C : Nat → ClassId) (cD : ClassId) (K KR adK adV : Nat → Nat) (ao : Nat) (hDA : DAp K) (hRA : RAp KR) (hao : ¬ DAd K ao) (u : CSt) (v : MSt) (o : Int64) (hI : INV u v) (x1 : Int32) (x2 : Int32) : PairI (fun post => LM l yL_copy wsL_copy rw_copy D C cD K adK adV ao (OLn C ao) [.int x1, .int x2] u o post) (fun post => RMi l yX7_copy wsX7_copy rm_X7_copy D C KR [.int x1, .int x2] v.1 v.2.1 v.2.2.1 v.2.2.2 post) Int32.toInt64 := by
  obtain ⟨F, hs, G, T⟩ := u
  obtain ⟨F', hs', mv, G'⟩ := v
  obtain ⟨hh, ⟨h2, h16, h17⟩, ⟨hg3, hg19⟩, ⟨tn, htn, hTu, hTv, hHB⟩, w, hw, hWu, hWv⟩ := hI
  change hs = hs' at hh
  change F 2 = F' 2 at h2
  change F 16 = F' 16 at h16
  change F 17 = F' 17 at h17
  change G 3 = G' 3 at hg3
  change G 19 = G' 19 at hg19
  change F 4 = nI tn at hTu
  change F' 4 = nI tn at hTv
  change HB (G 3) tn at hHB
  change F 20 = nI w at hWu
  change F' 20 = nI w at hWv
  subst hh
  rcases (show ((0 ≤ x1.toInt ∧ x1.toInt < 8) ∧ 0 ≤ x2.toInt ∧ x2.toInt < 8) ∨ (¬ (0 ≤ x1.toInt ∧ x1.toInt < 8)) ∨ ((0 ≤ x1.toInt ∧ x1.toInt < 8) ∧ ¬ (0 ≤ x2.toInt ∧ x2.toInt < 8)) by omega) with hc | hc | hc
  · obtain ⟨s0, e0, k0, q0⟩ := zi_ofm (x := x1) rfl (by omega)
    subst e0
    obtain ⟨o0, e1, k1, q1⟩ := zi_ofm (x := x2) rfl (by omega)
    subst e1
    refine ⟨0, (nI (ct (fun i => pJ 61 (hM hs s0 i) (hM hs o0 i)) 1024)), ((nI (ct (fun i => pJ 61 (hM hs s0 i) (hM hs o0 i)) 1024)).toInt64), (fun z => z = (F, sS hs s0 (fun i => pJ 61 (hM hs s0 i) (hM hs o0 i)), G, T)), (fun z => z = (upd F' 0 (nI 0), sS hs s0 (fun i => pJ 61 (hM hs s0 i) (hM hs o0 i)), mv, G')), _, wL_copy_ok l D C cD K adK adV ao hDA hao (F, hs, G, T) o (nI s0) (nI o0) (kt_X6_copy_ok l D C K hDA F hs G T s0 o0 (by omega) (by omega)) (nI (ct (fun i => pJ 61 (hM hs s0 i) (hM hs o0 i)) 1024)) (fun z => z = (F, sS hs s0 (fun i => pJ 61 (hM hs s0 i) (hM hs o0 i)), G, T)) (fun r z h => h), (kt_X7_copy_ok l D C KR hRA F' hs mv G' s0 o0 (by omega) (by omega)), fun r z h => h, ?_, by decide, fun _ => rfl⟩
    rintro q z rfl rfl
    exact ⟨rfl, rfl, ⟨h2, h16, h17⟩, ⟨hg3, hg19⟩, ⟨tn, htn, hTu, hTv, hHB⟩, ⟨w, hw, hWu, hWv⟩⟩
  · refine ⟨1, (nI 0), o, (fun z => z = (F, hs, G, T)), (fun z => z = (upd F' 0 (nI 1), hs, mv, G')), _, wL_copy_x1 l D C cD K adK adV ao hDA hao (F, hs, G, T) o x1 x2 (kt_X6_copy_x1 l hl D C K hDA F hs G T x1 x2 x1.toInt rfl (by omega)), (kt_X7_copy_no l D C KR hRA F' hs mv G' x1 x2 x1.toInt x2.toInt rfl rfl (by omega)), fun r z h => h, ?_, by decide, fun z => absurd z (by decide)⟩
    rintro q z rfl rfl
    exact ⟨rfl, rfl, ⟨h2, h16, h17⟩, ⟨hg3, hg19⟩, ⟨tn, htn, hTu, hTv, hHB⟩, ⟨w, hw, hWu, hWv⟩⟩
  · obtain ⟨s0, e0, k0, q0⟩ := zi_ofm (x := x1) rfl (by omega)
    subst e0
    refine ⟨1, (nI 0), o, (fun z => z = (F, hs, G, T)), (fun z => z = (upd F' 0 (nI 1), hs, mv, G')), _, wL_copy_x1 l D C cD K adK adV ao hDA hao (F, hs, G, T) o (nI s0) x2 (kt_X6_copy_x2 l hl D C K hDA F hs G T s0 x2 x2.toInt rfl (by omega) (by omega)), (kt_X7_copy_no l D C KR hRA F' hs mv G' (nI s0) x2 ((nI s0)).toInt x2.toInt rfl rfl (by omega)), fun r z h => h, ?_, by decide, fun z => absurd z (by decide)⟩
    rintro q z rfl rfl
    exact ⟨rfl, rfl, ⟨h2, h16, h17⟩, ⟨hg3, hg19⟩, ⟨tn, htn, hTu, hTv, hHB⟩, ⟨w, hw, hWu, hWv⟩⟩

set_option maxHeartbeats 4000000 in
set_option maxRecDepth 100000 in
theorem pr_takePart (l : Launch) (hl : l.stackTraces = false) (D : va_G) (C : Nat → ClassId) (cD : ClassId) (K KR adK adV : Nat → Nat) (ao : Nat) (hDA : DAp K) (hRA : RAp KR) (hao : ¬ DAd K ao) (u : CSt) (v : MSt) (o : Int64) (hI : INV u v) (x1 : Int32) (x2 : Int32) (x3 : Int32) (x4 : Int32) : PairI (fun post => LM l yL_takePart wsL_takePart rw_takePart D C cD K adK adV ao (OLn C ao) [.int x1, .int x2, .int x3, .int x4] u o post) (fun post => RMi l yX7_takePart wsX7_takePart rm_X7_takePart D C KR [.int x1, .int x2, .int x3, .int x4] v.1 v.2.1 v.2.2.1 v.2.2.2 post) Int32.toInt64 := by
  obtain ⟨F, hs, G, T⟩ := u
  obtain ⟨F', hs', mv, G'⟩ := v
  obtain ⟨hh, ⟨h2, h16, h17⟩, ⟨hg3, hg19⟩, ⟨tn, htn, hTu, hTv, hHB⟩, w, hw, hWu, hWv⟩ := hI
  change hs = hs' at hh
  change F 2 = F' 2 at h2
  change F 16 = F' 16 at h16
  change F 17 = F' 17 at h17
  change G 3 = G' 3 at hg3
  change G 19 = G' 19 at hg19
  change F 4 = nI tn at hTu
  change F' 4 = nI tn at hTv
  change HB (G 3) tn at hHB
  change F 20 = nI w at hWu
  change F' 20 = nI w at hWv
  subst hh
  rcases (show (((0 ≤ x1.toInt ∧ x1.toInt < 8) ∧ 0 ≤ x2.toInt ∧ x2.toInt < 8) ∧ 0 ≤ x3.toInt ∧ x3.toInt ≤ x4.toInt) ∨ (¬ (0 ≤ x1.toInt ∧ x1.toInt < 8)) ∨ ((0 ≤ x1.toInt ∧ x1.toInt < 8) ∧ ¬ (0 ≤ x2.toInt ∧ x2.toInt < 8)) ∨ (((0 ≤ x1.toInt ∧ x1.toInt < 8) ∧ 0 ≤ x2.toInt ∧ x2.toInt < 8) ∧ ¬ (0 ≤ x3.toInt ∧ x3.toInt ≤ x4.toInt)) by omega) with hc | hc | hc | hc
  · obtain ⟨s0, e0, k0, q0⟩ := zi_ofm (x := x1) rfl (by omega)
    subst e0
    obtain ⟨o0, e1, k1, q1⟩ := zi_ofm (x := x2) rfl (by omega)
    subst e1
    obtain ⟨f, e2, k2, q2⟩ := zi_ofm (x := x3) rfl (by omega)
    subst e2
    obtain ⟨t, e3, k3, q3⟩ := zi_ofm (x := x4) rfl (by omega)
    subst e3
    refine ⟨0, (nI (ct (pT (hM hs o0) f t) 1024)), ((nI (ct (pT (hM hs o0) f t) 1024)).toInt64), (fun z => z = (F, sS hs s0 (pT (hM hs o0) f t), G, T)), (fun z => z = (upd F' 0 (nI 0), sS hs s0 (pT (hM hs o0) f t), mF mv (pT (hM hs o0) f t) 1024, G')), _, wL_takePart_ok l D C cD K adK adV ao hDA hao (F, hs, G, T) o (nI s0) (nI o0) (nI f) (nI t) (kt_X6_takePart_ok l D C K hDA F hs G T s0 o0 f t (by omega) (by omega) (by omega)) (nI (ct (pT (hM hs o0) f t) 1024)) (fun z => z = (F, sS hs s0 (pT (hM hs o0) f t), G, T)) (fun r z h => h), (kt_X7_takePart_ok l D C KR hRA F' hs mv G' s0 o0 f t (by omega) (by omega) (by omega)), fun r z h => h, ?_, by decide, fun _ => rfl⟩
    rintro q z rfl rfl
    exact ⟨rfl, rfl, ⟨h2, h16, h17⟩, ⟨hg3, hg19⟩, ⟨tn, htn, hTu, hTv, hHB⟩, ⟨w, hw, hWu, hWv⟩⟩
  · refine ⟨1, (nI 0), o, (fun z => z = (F, hs, G, T)), (fun z => z = (upd F' 0 (nI 1), hs, mv, G')), _, wL_takePart_x1 l D C cD K adK adV ao hDA hao (F, hs, G, T) o x1 x2 x3 x4 (kt_X6_takePart_x1 l hl D C K hDA F hs G T x1 x2 x3 x4 x1.toInt rfl (by omega)), (kt_X7_takePart_no l D C KR hRA F' hs mv G' x1 x2 x3 x4 x1.toInt x2.toInt x3.toInt x4.toInt rfl rfl rfl rfl (by omega)), fun r z h => h.1 (by omega), ?_, by decide, fun z => absurd z (by decide)⟩
    rintro q z rfl rfl
    exact ⟨rfl, rfl, ⟨h2, h16, h17⟩, ⟨hg3, hg19⟩, ⟨tn, htn, hTu, hTv, hHB⟩, ⟨w, hw, hWu, hWv⟩⟩
  · obtain ⟨s0, e0, k0, q0⟩ := zi_ofm (x := x1) rfl (by omega)
    subst e0
    refine ⟨1, (nI 0), o, (fun z => z = (F, hs, G, T)), (fun z => z = (upd F' 0 (nI 1), hs, mv, G')), _, wL_takePart_x1 l D C cD K adK adV ao hDA hao (F, hs, G, T) o (nI s0) x2 x3 x4 (kt_X6_takePart_x2 l hl D C K hDA F hs G T s0 x2 x3 x4 x2.toInt rfl (by omega) (by omega)), (kt_X7_takePart_no l D C KR hRA F' hs mv G' (nI s0) x2 x3 x4 ((nI s0)).toInt x2.toInt x3.toInt x4.toInt rfl rfl rfl rfl (by omega)), fun r z h => h.1 (by omega), ?_, by decide, fun z => absurd z (by decide)⟩
    rintro q z rfl rfl
    exact ⟨rfl, rfl, ⟨h2, h16, h17⟩, ⟨hg3, hg19⟩, ⟨tn, htn, hTu, hTv, hHB⟩, ⟨w, hw, hWu, hWv⟩⟩
  · obtain ⟨s0, e0, k0, q0⟩ := zi_ofm (x := x1) rfl (by omega)
    subst e0
    obtain ⟨o0, e1, k1, q1⟩ := zi_ofm (x := x2) rfl (by omega)
    subst e1
    refine ⟨2, (nI 0), o, (fun z => z = (upd F 2 (F 2 + 1), hs, G, T)), (fun z => z = (upd (upd F' 0 (nI 2)) 2 (F' 2 + 1), hs, mv, G')), _, wL_takePart_x2 l D C cD K adK adV ao hDA hao (F, hs, G, T) o (nI s0) (nI o0) x3 x4 (kt_X6_takePart_x3 l hl D C K hDA F hs G T s0 o0 x3 x4 x3.toInt x4.toInt rfl rfl (by omega) (by omega) (by omega)), (kt_X7_takePart_no l D C KR hRA F' hs mv G' (nI s0) (nI o0) x3 x4 ((nI s0)).toInt ((nI o0)).toInt x3.toInt x4.toInt rfl rfl rfl rfl (by omega)), fun r z h => h.2 (by omega), ?_, by decide, fun z => absurd z (by decide)⟩
    rintro q z rfl rfl
    exact ⟨rfl, rfl, ⟨congrArg (fun z => z + 1) h2, h16, h17⟩, ⟨hg3, hg19⟩, ⟨tn, htn, hTu, hTv, hHB⟩, ⟨w, hw, hWu, hWv⟩⟩
