/-! ===== fighter ===== -/
abbrev bFig (a b c d e f : Int32) : Prop := zok 0 a ∧ zok 1 b ∧ zok 2 c ∧ zok 3 d ∧ zok 4 e ∧ zok 5 f
def aFig (q : tQ) (a b c d e f : Int32) : Int32 := if bFig a b c d e f then (if (qA q).1 = 16 then -4 else nI (qA q).1) else -2
def xFig (x : tA) (a b c d e f : Int32) : tA := (x.1 + 1, zud (zud (zud (zud (zud (zud x.2 (6 * x.1 + 0) a.toNatClampNeg) (6 * x.1 + 1) b.toNatClampNeg) (6 * x.1 + 2) c.toNatClampNeg) (6 * x.1 + 3) d.toNatClampNeg) (6 * x.1 + 4) e.toNatClampNeg) (6 * x.1 + 5) f.toNatClampNeg)
def nFig (q : tQ) (a b c d e f : Int32) : tQ := if bFig a b c d e f then (if (qA q).1 = 16 then q else uA q (xFig (qA q) a b c d e f)) else q
theorem vQ_A {q : tQ} {x : tA} (hv : vQ q) (h1 : zNv x.1 x.2) (h2 : (qA q).1 ≤ x.1) : vQ (uA q x) :=
  ⟨h1, ⟨⟨hv.2.1.1.1, fun j hj => Nat.lt_of_lt_of_le (hv.2.1.1.2 j hj) h2⟩, ⟨hv.2.1.2.1, fun j hj => Nat.lt_of_lt_of_le (hv.2.1.2.2 j hj) h2⟩⟩, hv.2.2.1, ⟨hv.2.2.2.1.1, hv.2.2.2.1.2.1, hv.2.2.2.1.2.2.1, fun f hf => ⟨(hv.2.2.2.1.2.2.2 f hf).1, fun j hj => Nat.lt_of_lt_of_le ((hv.2.2.2.1.2.2.2 f hf).2 j hj) h2⟩⟩, hv.2.2.2.2⟩
theorem zok_c {w : Nat} {v : Int32} (h : zok w v) : v = nI v.toNatClampNeg ∧ loN w ≤ v.toNatClampNeg ∧ v.toNatClampNeg ≤ hiN w := by
  obtain ⟨x, e, h1, h2⟩ := zok_n h
  have hh := hi_lt w
  have e2 : v.toNatClampNeg = x := by rw [e, n_cl (by omega)]
  rw [e2]
  exact ⟨e, h1, h2⟩
theorem zud_at {g : Nat → Nat} {i x : Nat} : zud g i x i = x := if_pos rfl
theorem zud_ne {g : Nat → Nat} {i j x : Nat} (h : j ≠ i) : zud g i x j = g j := if_neg h
theorem vFig {q : tQ} (a b c d e f : Int32) (hv : vQ q) : vQ (nFig q a b c d e f) := by
  unfold nFig
  split
  next g =>
    split
    · exact hv
    next g2 =>
      obtain ⟨g0, g1, g2', g3, g4, g5⟩ := g
      have h16 := hv.1.1
      refine vQ_A hv ?_ (Nat.le_succ _)
      have hn := zNv_iff.mp hv.1
      refine zNv_iff.mpr ⟨by show (qA q).1 + 1 ≤ 16; omega, fun f2 w hf hw => ?_⟩
      have hf : f2 < (qA q).1 + 1 := hf
      show loN w ≤ zud (zud (zud (zud (zud (zud (qA q).2 (6 * (qA q).1 + 0) a.toNatClampNeg) (6 * (qA q).1 + 1) b.toNatClampNeg) (6 * (qA q).1 + 2) c.toNatClampNeg) (6 * (qA q).1 + 3) d.toNatClampNeg) (6 * (qA q).1 + 4) e.toNatClampNeg) (6 * (qA q).1 + 5) f.toNatClampNeg (6 * f2 + w) ∧ zud (zud (zud (zud (zud (zud (qA q).2 (6 * (qA q).1 + 0) a.toNatClampNeg) (6 * (qA q).1 + 1) b.toNatClampNeg) (6 * (qA q).1 + 2) c.toNatClampNeg) (6 * (qA q).1 + 3) d.toNatClampNeg) (6 * (qA q).1 + 4) e.toNatClampNeg) (6 * (qA q).1 + 5) f.toNatClampNeg (6 * f2 + w) ≤ hiN w
      by_cases e2 : f2 = (qA q).1
      · rw [e2]
        rcases k6 hw with rfl | rfl | rfl | rfl | rfl | rfl
        · rw [zud_ne (by omega), zud_ne (by omega), zud_ne (by omega), zud_ne (by omega), zud_ne (by omega), zud_at]
          exact (zok_c g0).2
        · rw [zud_ne (by omega), zud_ne (by omega), zud_ne (by omega), zud_ne (by omega), zud_at]
          exact (zok_c g1).2
        · rw [zud_ne (by omega), zud_ne (by omega), zud_ne (by omega), zud_at]
          exact (zok_c g2').2
        · rw [zud_ne (by omega), zud_ne (by omega), zud_at]
          exact (zok_c g3).2
        · rw [zud_ne (by omega), zud_at]
          exact (zok_c g4).2
        · rw [zud_at]
          exact (zok_c g5).2
      · rw [zud_ne (by omega), zud_ne (by omega), zud_ne (by omega), zud_ne (by omega), zud_ne (by omega), zud_ne (by omega)]
        exact hn.2 f2 w (by omega) hw
  next => exact hv
/-- six entries more of the roster, in a memory -/
theorem zud_6 {M : zf_M} {c n x0 x1 x2 x3 x4 x5 : Nat} {g : Nat → Nat} (h : ∀ i, i < 6 * n → zf_I M c i = nI (g i)) : ∀ i, i < 6 * (n + 1) → zf_I (zf_sI (zf_sI (zf_sI (zf_sI (zf_sI (zf_sI M c (6 * n + 0) (nI x0)) c (6 * n + 1) (nI x1)) c (6 * n + 2) (nI x2)) c (6 * n + 3) (nI x3)) c (6 * n + 4) (nI x4)) c (6 * n + 5) (nI x5)) c i = nI (zud (zud (zud (zud (zud (zud g (6 * n + 0) x0) (6 * n + 1) x1) (6 * n + 2) x2) (6 * n + 3) x3) (6 * n + 4) x4) (6 * n + 5) x5 i) := by
  intro i hi
  by_cases e5 : i = 6 * n + 5
  · rw [e5, zI_eq, zud_at]
  · rw [zI_ne (fun z => e5 z.2), zud_ne e5]
    by_cases e4 : i = 6 * n + 4
    · rw [e4, zI_eq, zud_at]
    · rw [zI_ne (fun z => e4 z.2), zud_ne e4]
      by_cases e3 : i = 6 * n + 3
      · rw [e3, zI_eq, zud_at]
      · rw [zI_ne (fun z => e3 z.2), zud_ne e3]
        by_cases e2 : i = 6 * n + 2
        · rw [e2, zI_eq, zud_at]
        · rw [zI_ne (fun z => e2 z.2), zud_ne e2]
          by_cases e1 : i = 6 * n + 1
          · rw [e1, zI_eq, zud_at]
          · rw [zI_ne (fun z => e1 z.2), zud_ne e1]
            by_cases e0 : i = 6 * n + 0
            · rw [e0, zI_eq, zud_at]
            · rw [zI_ne (fun z => e0 z.2), zud_ne e0]
              exact h i (by omega)
section ZFg
variable {X : zf_X} {M : zf_M} {Q : Option Value → zf_M → Prop} {q : tQ}
theorem C50 {a b c d e f : Int32} (hv : vQ q) (hP : zPk M) (hC : zKC q M) (h : ∀ M1, zUp M M1 → zKC (nFig q a b c d e f) M1 → Q (some (.int (aFig q a b c d e f))) M1) : zC X 50 [.ref 0, .int a, .int b, .int c, .int d, .int e, .int f] M Q := by
  have hA := hC.2.1
  have h16 := hv.1.1
  unfold nFig aFig at h
  rw [c50]
  have h0 : ¬ bFig a b c d e f → zW X 50 58 [.val (.ref 0), .val (.int a), .val (.int b), .val (.int c), .val (.int d), .val (.int e), .val (.int f), .val (.int 0), .unset] [] M Q := by
    intro g
    have := h M (zUp_rf hP)
    rw [if_neg g, if_neg g] at this
    simp only [w50_58, w50_60, w50_63, w50_65, zk_sI, zk_sJ, zk_sP, zn_sI, zn_sJ, zn_sP, zI_sI, zI_sJ, zI_sP, zJ_sI, zJ_sJ, zJ_sP, zP_sI, zP_sJ, zP_sP, Option.toList_some, Option.toList_none, List.cons_append, List.nil_append, true_implies, not_true_eq_false, not_false_eq_true, false_implies, and_true, true_and]
    exact this hC
  simp only [w50_0, w50_1, w50_2, w50_5, zk_sI, zk_sJ, zk_sP, zn_sI, zn_sJ, zn_sP, zI_sI, zI_sJ, zI_sP, zJ_sI, zJ_sJ, zJ_sP, zP_sI, zP_sJ, zP_sP, Option.toList_some, Option.toList_none, List.cons_append, List.nil_append]
  refine s36n (w := 0) hP (by decide) ?_
  simp only [w50_5, w50_8, w50_9, w50_10, w50_55, w50_56, zk_sI, zk_sJ, zk_sP, zn_sI, zn_sJ, zn_sP, zI_sI, zI_sJ, zI_sP, zJ_sI, zJ_sJ, zJ_sP, zP_sI, zP_sJ, zP_sP, Option.toList_some, Option.toList_none, List.cons_append, List.nil_append, zB_0]
  refine ⟨fun g => h0 (fun z => g z.1), fun g0 => ?_⟩
  refine s36n (w := 1) hP (by decide) ?_
  simp only [w50_13, w50_16, w50_17, w50_18, w50_55, w50_56, zk_sI, zk_sJ, zk_sP, zn_sI, zn_sJ, zn_sP, zI_sI, zI_sJ, zI_sP, zJ_sI, zJ_sJ, zJ_sP, zP_sI, zP_sJ, zP_sP, Option.toList_some, Option.toList_none, List.cons_append, List.nil_append, zB_0]
  refine ⟨fun g => h0 (fun z => g z.2.1), fun g1 => ?_⟩
  refine s36n (w := 2) hP (by decide) ?_
  simp only [w50_21, w50_24, w50_25, w50_27, w50_55, w50_56, zk_sI, zk_sJ, zk_sP, zn_sI, zn_sJ, zn_sP, zI_sI, zI_sJ, zI_sP, zJ_sI, zJ_sJ, zJ_sP, zP_sI, zP_sJ, zP_sP, Option.toList_some, Option.toList_none, List.cons_append, List.nil_append, zB_0]
  refine ⟨fun g => h0 (fun z => g z.2.2.1), fun g2 => ?_⟩
  refine s36n (w := 3) hP (by decide) ?_
  simp only [w50_30, w50_33, w50_34, w50_36, w50_55, w50_56, zk_sI, zk_sJ, zk_sP, zn_sI, zn_sJ, zn_sP, zI_sI, zI_sJ, zI_sP, zJ_sI, zJ_sJ, zJ_sP, zP_sI, zP_sJ, zP_sP, Option.toList_some, Option.toList_none, List.cons_append, List.nil_append, zB_0]
  refine ⟨fun g => h0 (fun z => g z.2.2.2.1), fun g3 => ?_⟩
  refine s36n (w := 4) hP (by decide) ?_
  simp only [w50_39, w50_42, w50_43, w50_45, w50_55, w50_56, zk_sI, zk_sJ, zk_sP, zn_sI, zn_sJ, zn_sP, zI_sI, zI_sJ, zI_sP, zJ_sI, zJ_sJ, zJ_sP, zP_sI, zP_sJ, zP_sP, Option.toList_some, Option.toList_none, List.cons_append, List.nil_append, zB_0]
  refine ⟨fun g => h0 (fun z => g z.2.2.2.2.1), fun g4 => ?_⟩
  refine s36n (w := 5) hP (by decide) ?_
  simp only [w50_48, w50_51, w50_52, w50_55, w50_56, zk_sI, zk_sJ, zk_sP, zn_sI, zn_sJ, zn_sP, zI_sI, zI_sJ, zI_sP, zJ_sI, zJ_sJ, zJ_sP, zP_sI, zP_sJ, zP_sP, Option.toList_some, Option.toList_none, List.cons_append, List.nil_append, zB_0]
  have nn : ∀ {x : Prop}, ¬ ¬ x → x := Classical.not_not.mp
  refine ⟨fun g => h0 (fun z => g z.2.2.2.2.2), fun g5 => ?_⟩
  have hb : bFig a b c d e f := ⟨nn g0, nn g1, nn g2, nn g3, nn g4, nn g5⟩
  rw [if_pos hb, if_pos hb] at h
  have c16 : (16 : Int32) = nI 16 := rfl
  have n10 : ¬ (1 : Int32) = 0 := by decide
  simp only [w50_58, w50_60, w50_63, w50_65, w50_66, w50_67, w50_70, w50_73, w50_75, w50_78, w50_80, zk_sI, zk_sJ, zk_sP, zn_sI, zn_sJ, zn_sP, zI_sI, zI_sJ, zI_sP, zJ_sI, zJ_sJ, zJ_sP, zP_sI, zP_sJ, zP_sP, Option.toList_some, Option.toList_none, List.cons_append, List.nil_append, zk_of hP.1, zn_of hP.1, zix, ziN, ne_eq, reduceCtorEq, not_false_eq_true, true_and, and_true, Option.getD_some, Nat.reduceLeDiff, Nat.reduceLT, c_ofNat, zkd0, zp_0_0 hP, zp_0_1 hP, zp_0_2 hP, zp_0_3 hP, zp_0_4 hP, zp_0_5 hP, zp_0_6 hP, zp_0_7 hP, zkd1, zp_1_0 hP, hA.1, c16, n10, not_false_eq_true, true_implies, false_implies, and_true, true_and, not_true_eq_false]
  rw [n_lt (by omega) (by decide)]
  refine ⟨fun gn => ?_, fun gn => ?_⟩
  · rw [if_neg (show ¬ (qA q).1 = 16 by omega), if_neg (show ¬ (qA q).1 = 16 by omega)] at h
    obtain ⟨x0, rfl, l0, u0⟩ := zok_n hb.1
    obtain ⟨x1, rfl, l1, u1⟩ := zok_n hb.2.1
    obtain ⟨x2, rfl, l2, u2⟩ := zok_n hb.2.2.1
    obtain ⟨x3, rfl, l3, u3⟩ := zok_n hb.2.2.2.1
    obtain ⟨x4, rfl, l4, u4⟩ := zok_n hb.2.2.2.2.1
    obtain ⟨x5, rfl, l5, u5⟩ := zok_n hb.2.2.2.2.2
    have hh := hi_lt
    have h20 := hh 0
    have h21 := hh 1
    have h22 := hh 2
    have h23 := hh 3
    have h24 := hh 4
    have h25 := hh 5
    unfold xFig at h
    simp only [n_cl (show x0 < 2 ^ 31 by omega), n_cl (show x1 < 2 ^ 31 by omega), n_cl (show x2 < 2 ^ 31 by omega), n_cl (show x3 < 2 ^ 31 by omega), n_cl (show x4 < 2 ^ 31 by omega), n_cl (show x5 < 2 ^ 31 by omega)] at h
    simp only [w50_81, w50_82, w50_85, w50_88, w50_90, w50_91, w50_94, w50_95, w50_98, w50_99, w50_100, w50_103, w50_104, w50_107, w50_109, w50_110, w50_111, zk_sI, zk_sJ, zk_sP, zn_sI, zn_sJ, zn_sP, zI_sI, zI_sJ, zI_sP, zJ_sI, zJ_sJ, zJ_sP, zP_sI, zP_sJ, zP_sP, Option.toList_some, Option.toList_none, List.cons_append, List.nil_append, zk_of hP.1, zn_of hP.1, zix, ziN, ne_eq, reduceCtorEq, not_false_eq_true, true_and, and_true, Option.getD_some, Nat.reduceLeDiff, Nat.reduceLT, c_ofNat, zkd0, zp_0_0 hP, zp_0_1 hP, zp_0_2 hP, zp_0_3 hP, zp_0_4 hP, zp_0_5 hP, zp_0_6 hP, zp_0_7 hP, zkd1, zp_1_0 hP, hA.1, n_a1]
    have hP0 := zPk_sI (a := 1) (j := 1) (v := nI ((qA q).1 + 1)) hP
    have hn0 : zf_I (zf_sI M 1 1 (nI ((qA q).1 + 1))) 1 1 = nI ((qA q).1 + 1) := zI_eq
    refine s39 (n := (qA q).1 + 1) (w := 0) hP0 hn0 (by omega) (Nat.lt_succ_self _) (by decide) ?_
    have hP1 := zPk_sI (a := 2) (j := 6 * (qA q).1 + 0) (v := nI x0) hP0
    have hn1 : zf_I (zf_sI (zf_sI M 1 1 (nI ((qA q).1 + 1))) 2 (6 * (qA q).1 + 0) (nI x0)) 1 1 = nI ((qA q).1 + 1) := (zI_ne (by omega)).trans hn0
    simp only [w50_114, w50_115, w50_118, w50_120, w50_121, w50_122, zk_sI, zk_sJ, zk_sP, zn_sI, zn_sJ, zn_sP, zI_sI, zI_sJ, zI_sP, zJ_sI, zJ_sJ, zJ_sP, zP_sI, zP_sJ, zP_sP, Option.toList_some, Option.toList_none, List.cons_append, List.nil_append, zk_of hP1.1, zn_of hP1.1, zix, ziN, ne_eq, reduceCtorEq, not_false_eq_true, true_and, and_true, Option.getD_some, Nat.reduceLeDiff, Nat.reduceLT, c_ofNat, zkd0, zp_0_0 hP1, zp_0_1 hP1, zp_0_2 hP1, zp_0_3 hP1, zp_0_4 hP1, zp_0_5 hP1, zp_0_6 hP1, zp_0_7 hP1, zkd1, zp_1_0 hP1]
    refine s39 (n := (qA q).1 + 1) (w := 1) hP1 hn1 (by omega) (Nat.lt_succ_self _) (by decide) ?_
    have hP2 := zPk_sI (a := 2) (j := 6 * (qA q).1 + 1) (v := nI x1) hP1
    have hn2 : zf_I (zf_sI (zf_sI (zf_sI M 1 1 (nI ((qA q).1 + 1))) 2 (6 * (qA q).1 + 0) (nI x0)) 2 (6 * (qA q).1 + 1) (nI x1)) 1 1 = nI ((qA q).1 + 1) := (zI_ne (by omega)).trans hn1
    simp only [w50_125, w50_126, w50_129, w50_131, w50_132, w50_133, zk_sI, zk_sJ, zk_sP, zn_sI, zn_sJ, zn_sP, zI_sI, zI_sJ, zI_sP, zJ_sI, zJ_sJ, zJ_sP, zP_sI, zP_sJ, zP_sP, Option.toList_some, Option.toList_none, List.cons_append, List.nil_append, zk_of hP2.1, zn_of hP2.1, zix, ziN, ne_eq, reduceCtorEq, not_false_eq_true, true_and, and_true, Option.getD_some, Nat.reduceLeDiff, Nat.reduceLT, c_ofNat, zkd0, zp_0_0 hP2, zp_0_1 hP2, zp_0_2 hP2, zp_0_3 hP2, zp_0_4 hP2, zp_0_5 hP2, zp_0_6 hP2, zp_0_7 hP2, zkd1, zp_1_0 hP2]
    refine s39 (n := (qA q).1 + 1) (w := 2) hP2 hn2 (by omega) (Nat.lt_succ_self _) (by decide) ?_
    have hP3 := zPk_sI (a := 2) (j := 6 * (qA q).1 + 2) (v := nI x2) hP2
    have hn3 : zf_I (zf_sI (zf_sI (zf_sI (zf_sI M 1 1 (nI ((qA q).1 + 1))) 2 (6 * (qA q).1 + 0) (nI x0)) 2 (6 * (qA q).1 + 1) (nI x1)) 2 (6 * (qA q).1 + 2) (nI x2)) 1 1 = nI ((qA q).1 + 1) := (zI_ne (by omega)).trans hn2
    simp only [w50_136, w50_137, w50_140, w50_142, w50_143, w50_145, zk_sI, zk_sJ, zk_sP, zn_sI, zn_sJ, zn_sP, zI_sI, zI_sJ, zI_sP, zJ_sI, zJ_sJ, zJ_sP, zP_sI, zP_sJ, zP_sP, Option.toList_some, Option.toList_none, List.cons_append, List.nil_append, zk_of hP3.1, zn_of hP3.1, zix, ziN, ne_eq, reduceCtorEq, not_false_eq_true, true_and, and_true, Option.getD_some, Nat.reduceLeDiff, Nat.reduceLT, c_ofNat, zkd0, zp_0_0 hP3, zp_0_1 hP3, zp_0_2 hP3, zp_0_3 hP3, zp_0_4 hP3, zp_0_5 hP3, zp_0_6 hP3, zp_0_7 hP3, zkd1, zp_1_0 hP3]
    refine s39 (n := (qA q).1 + 1) (w := 3) hP3 hn3 (by omega) (Nat.lt_succ_self _) (by decide) ?_
    have hP4 := zPk_sI (a := 2) (j := 6 * (qA q).1 + 3) (v := nI x3) hP3
    have hn4 : zf_I (zf_sI (zf_sI (zf_sI (zf_sI (zf_sI M 1 1 (nI ((qA q).1 + 1))) 2 (6 * (qA q).1 + 0) (nI x0)) 2 (6 * (qA q).1 + 1) (nI x1)) 2 (6 * (qA q).1 + 2) (nI x2)) 2 (6 * (qA q).1 + 3) (nI x3)) 1 1 = nI ((qA q).1 + 1) := (zI_ne (by omega)).trans hn3
    simp only [w50_148, w50_149, w50_152, w50_154, w50_155, w50_157, zk_sI, zk_sJ, zk_sP, zn_sI, zn_sJ, zn_sP, zI_sI, zI_sJ, zI_sP, zJ_sI, zJ_sJ, zJ_sP, zP_sI, zP_sJ, zP_sP, Option.toList_some, Option.toList_none, List.cons_append, List.nil_append, zk_of hP4.1, zn_of hP4.1, zix, ziN, ne_eq, reduceCtorEq, not_false_eq_true, true_and, and_true, Option.getD_some, Nat.reduceLeDiff, Nat.reduceLT, c_ofNat, zkd0, zp_0_0 hP4, zp_0_1 hP4, zp_0_2 hP4, zp_0_3 hP4, zp_0_4 hP4, zp_0_5 hP4, zp_0_6 hP4, zp_0_7 hP4, zkd1, zp_1_0 hP4]
    refine s39 (n := (qA q).1 + 1) (w := 4) hP4 hn4 (by omega) (Nat.lt_succ_self _) (by decide) ?_
    have hP5 := zPk_sI (a := 2) (j := 6 * (qA q).1 + 4) (v := nI x4) hP4
    have hn5 : zf_I (zf_sI (zf_sI (zf_sI (zf_sI (zf_sI (zf_sI M 1 1 (nI ((qA q).1 + 1))) 2 (6 * (qA q).1 + 0) (nI x0)) 2 (6 * (qA q).1 + 1) (nI x1)) 2 (6 * (qA q).1 + 2) (nI x2)) 2 (6 * (qA q).1 + 3) (nI x3)) 2 (6 * (qA q).1 + 4) (nI x4)) 1 1 = nI ((qA q).1 + 1) := (zI_ne (by omega)).trans hn4
    simp only [w50_160, w50_161, w50_164, w50_166, w50_167, w50_169, zk_sI, zk_sJ, zk_sP, zn_sI, zn_sJ, zn_sP, zI_sI, zI_sJ, zI_sP, zJ_sI, zJ_sJ, zJ_sP, zP_sI, zP_sJ, zP_sP, Option.toList_some, Option.toList_none, List.cons_append, List.nil_append, zk_of hP5.1, zn_of hP5.1, zix, ziN, ne_eq, reduceCtorEq, not_false_eq_true, true_and, and_true, Option.getD_some, Nat.reduceLeDiff, Nat.reduceLT, c_ofNat, zkd0, zp_0_0 hP5, zp_0_1 hP5, zp_0_2 hP5, zp_0_3 hP5, zp_0_4 hP5, zp_0_5 hP5, zp_0_6 hP5, zp_0_7 hP5, zkd1, zp_1_0 hP5]
    refine s39 (n := (qA q).1 + 1) (w := 5) hP5 hn5 (by omega) (Nat.lt_succ_self _) (by decide) ?_
    have hP6 := zPk_sI (a := 2) (j := 6 * (qA q).1 + 5) (v := nI x5) hP5
    have hn6 : zf_I (zf_sI (zf_sI (zf_sI (zf_sI (zf_sI (zf_sI (zf_sI M 1 1 (nI ((qA q).1 + 1))) 2 (6 * (qA q).1 + 0) (nI x0)) 2 (6 * (qA q).1 + 1) (nI x1)) 2 (6 * (qA q).1 + 2) (nI x2)) 2 (6 * (qA q).1 + 3) (nI x3)) 2 (6 * (qA q).1 + 4) (nI x4)) 2 (6 * (qA q).1 + 5) (nI x5)) 1 1 = nI ((qA q).1 + 1) := (zI_ne (by omega)).trans hn5
    simp only [w50_172, w50_174, zk_sI, zk_sJ, zk_sP, zn_sI, zn_sJ, zn_sP, zI_sI, zI_sJ, zI_sP, zJ_sI, zJ_sJ, zJ_sP, zP_sI, zP_sJ, zP_sP, Option.toList_some, Option.toList_none, List.cons_append, List.nil_append, zk_of hP6.1, zn_of hP6.1, zix, ziN, ne_eq, reduceCtorEq, not_false_eq_true, true_and, and_true, Option.getD_some, Nat.reduceLeDiff, Nat.reduceLT, c_ofNat, zkd0, zp_0_0 hP6, zp_0_1 hP6, zp_0_2 hP6, zp_0_3 hP6, zp_0_4 hP6, zp_0_5 hP6, zp_0_6 hP6, zp_0_7 hP6, zkd1, zp_1_0 hP6]
    have hF : zF (fun c => c = 1 ∨ c = 2) M (zf_sI (zf_sI (zf_sI (zf_sI (zf_sI (zf_sI (zf_sI M 1 1 (nI ((qA q).1 + 1))) 2 (6 * (qA q).1 + 0) (nI x0)) 2 (6 * (qA q).1 + 1) (nI x1)) 2 (6 * (qA q).1 + 2) (nI x2)) 2 (6 * (qA q).1 + 3) (nI x3)) 2 (6 * (qA q).1 + 4) (nI x4)) 2 (6 * (qA q).1 + 5) (nI x5)) := zF_sI (zF_sI (zF_sI (zF_sI (zF_sI (zF_sI (zF_sI (zF_rf _ _) (by omega)) (by omega)) (by omega)) (by omega)) (by omega)) (by omega)) (by omega)
    refine h _ (zUp_F hP hF (fun c hc => by omega)) (zKC_A hC (zLO_F hC.1 hF (fun c x y => by omega)) (fun c j _ k => (hF.2.1 c (by omega) j).1) ⟨hn6, fun i hi => ?_⟩)
    exact zud_6 (M := zf_sI M 1 1 (nI ((qA q).1 + 1))) (fun i hi => by rw [zI_ne (by omega)]; exact hA.2 i hi) i hi
  · have := h M (zUp_rf hP)
    rw [if_pos (show (qA q).1 = 16 by omega), if_pos (show (qA q).1 = 16 by omega)] at this
    exact this hC
end ZFg

