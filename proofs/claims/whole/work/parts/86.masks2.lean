/-! ===== the model: more asks ===== -/
theorem zol_lenE {nu w wf : Nat → Nat} {h hf b : Nat} (h3 : h ≤ 3) (hf3 : hf ≤ 3) : ∀ j, j ≤ 6 → (zol (zca nu h w hf wf b) j).length = min j h + min (j - 3) hf
  | 0, _ => by
    show 0 = _
    omega
  | j + 1, hj => by
    have ih := zol_lenE (nu := nu) (w := w) (wf := wf) (b := b) h3 hf3 j (by omega)
    have e : (zca nu h w hf wf b).2.1 j = if j < 3 then (if j < h then some (w j) else none) else if j < 3 + hf then some (wf (j - 3)) else none := rfl
    rw [zol]
    by_cases g1 : j < 3
    · rw [if_pos g1] at e
      by_cases g2 : j < h
      · rw [if_pos g2] at e
        rw [e, if_neg (fun z => by cases z), zis_len, ih]
        omega
      · rw [if_neg g2] at e
        rw [e, if_pos rfl, ih]
        omega
    · rw [if_neg g1] at e
      by_cases g2 : j < 3 + hf
      · rw [if_pos g2] at e
        rw [e, if_neg (fun z => by cases z), zis_len, ih]
        omega
      · rw [if_neg g2] at e
        rw [e, if_pos rfl, ih]
        omega
section ZMl
variable {X : zf_X} {M : zf_M} {Q : Option Value → zf_M → Prop} {q : tQ}
theorem n5 : ¬ (-5 : Int32) = 0 := by decide
theorem M132 (hv : vQ q) (hP : zPk M) (hM : zKM q M) (h : ∀ M1, zDn M M1 → zKM q M1 → Q (some (.int (nI (aSlots q)))) M1) : zC X 132 [.ref 58] M Q := by
  rw [c132]
  simp only [w132_0, w132_1, w132_2, w132_5, w132_6, w132_9, w132_10, w132_13, zk_sI, zk_sJ, zk_sP, zn_sI, zn_sJ, zn_sP, zI_sI, zI_sJ, zI_sP, zJ_sI, zJ_sJ, zJ_sP, zP_sI, zP_sJ, zP_sP, Option.toList_some, Option.toList_none, List.cons_append, List.nil_append, zk_of hP.1, zn_of hP.1, zix, ziN, ne_eq, reduceCtorEq, not_false_eq_true, true_and, and_true, Option.getD_some, Nat.reduceLeDiff, Nat.reduceLT, c_ofNat, zkd58, zp_58_1 hP, zp_58_2 hP, zp_58_6 hP, zp_58_7 hP, zp_58_10 hP, zp_58_11 hP, zp_58_12 hP, zp_58_14 hP, zp_58_15 hP, zp_58_17 hP, zp_58_18 hP, zp_58_19 hP, zp_58_20 hP, zp_58_21 hP, zp_58_22 hP, zp_58_24 hP, zp_58_26 hP, zp_58_29 hP, zp_58_32 hP, zp_58_33 hP, zp_58_34 hP, zp_58_35 hP, zp_58_36 hP, zp_58_37 hP, zp_58_38 hP, zp_58_39 hP]
  refine s115q (b := 0) hv hP hM (by decide) (fun M1 g1 g2 g3 g4 => ?_)
  simp only [w132_0, w132_1, w132_2, w132_5, w132_6, w132_9, w132_10, w132_13, zk_sI, zk_sJ, zk_sP, zn_sI, zn_sJ, zn_sP, zI_sI, zI_sJ, zI_sP, zJ_sI, zJ_sJ, zJ_sP, zP_sI, zP_sJ, zP_sP, Option.toList_some, Option.toList_none, List.cons_append, List.nil_append, zk_of g2.1, zn_of g2.1, zix, ziN, ne_eq, reduceCtorEq, not_false_eq_true, true_and, and_true, Option.getD_some, Nat.reduceLeDiff, Nat.reduceLT, c_ofNat, zkd58, zp_58_1 g2, zp_58_2 g2, zp_58_6 g2, zp_58_7 g2, zp_58_10 g2, zp_58_11 g2, zp_58_12 g2, zp_58_14 g2, zp_58_15 g2, zp_58_17 g2, zp_58_18 g2, zp_58_19 g2, zp_58_20 g2, zp_58_21 g2, zp_58_22 g2, zp_58_24 g2, zp_58_26 g2, zp_58_29 g2, zp_58_32 g2, zp_58_33 g2, zp_58_34 g2, zp_58_35 g2, zp_58_36 g2, zp_58_37 g2, zp_58_38 g2, zp_58_39 g2]
  refine s116 g2 g4.1 (fun M2 x1 x2 x3 x4 x5 => ?_)
  have hP2 := zPk_F g2 x1
  have hX2 : zMX M1 M2 := ⟨zF_mo x1 (fun c hc => by omega), fun j _ a _ _ _ => x2 j a⟩
  simp only [w132_0, w132_1, w132_2, w132_5, w132_6, w132_9, w132_10, w132_13, zk_sI, zk_sJ, zk_sP, zn_sI, zn_sJ, zn_sP, zI_sI, zI_sJ, zI_sP, zJ_sI, zJ_sJ, zJ_sP, zP_sI, zP_sJ, zP_sP, Option.toList_some, Option.toList_none, List.cons_append, List.nil_append, zk_of hP2.1, zn_of hP2.1, zix, ziN, ne_eq, reduceCtorEq, not_false_eq_true, true_and, and_true, Option.getD_some, Nat.reduceLeDiff, Nat.reduceLT, c_ofNat, zkd58, zp_58_1 hP2, zp_58_2 hP2, zp_58_6 hP2, zp_58_7 hP2, zp_58_10 hP2, zp_58_11 hP2, zp_58_12 hP2, zp_58_14 hP2, zp_58_15 hP2, zp_58_17 hP2, zp_58_18 hP2, zp_58_19 hP2, zp_58_20 hP2, zp_58_21 hP2, zp_58_22 hP2, zp_58_24 hP2, zp_58_26 hP2, zp_58_29 hP2, zp_58_32 hP2, zp_58_33 hP2, zp_58_34 hP2, zp_58_35 hP2, zp_58_36 hP2, zp_58_37 hP2, zp_58_38 hP2, zp_58_39 hP2]
  refine s128 hP2 (by rw [x2 3 (by decide)]; exact g4.2.2.1) x3 ?_
  simp only [w132_0, w132_1, w132_2, w132_5, w132_6, w132_9, w132_10, w132_13, zk_sI, zk_sJ, zk_sP, zn_sI, zn_sJ, zn_sP, zI_sI, zI_sJ, zI_sP, zJ_sI, zJ_sJ, zJ_sP, zP_sI, zP_sJ, zP_sP, Option.toList_some, Option.toList_none, List.cons_append, List.nil_append]
  have := h M2 (zDn_X (zMX_tr g1 hX2)) (zKM_X g3 hX2)
  have e := zol_lenE (nu := (qA q).2) (w := (qB q).1.2) (wf := (qB q).2.2) (b := 0) hv.2.1.1.1 hv.2.1.2.1 6 (by decide)
  have h1 := hv.2.1.1.1
  have h2 := hv.2.1.2.1
  rw [show min 6 (qB q).1.1 + min (6 - 3) (qB q).2.1 = (qB q).1.1 + (qB q).2.1 by omega] at e
  change (zol (zcq q 0) 6).length = _ at e
  rw [e]
  exact this
theorem M134 {e : Int32} (hv : vQ q) (hP : zPk M) (hM : zKM q M) (h : ∀ M1, zDn M M1 → zKM q M1 → Q (some (.long (aWays q e))) M1) : zC X 134 [.ref 58, .int e] M Q := by
  rw [c134]
  simp only [w134_0, w134_1, w134_2, w134_3, w134_6, w134_9, w134_12, w134_14, w134_17, w134_18, w134_19, w134_22, w134_25, w134_27, w134_30, w134_33, w134_34, w134_37, w134_38, w134_39, zk_sI, zk_sJ, zk_sP, zn_sI, zn_sJ, zn_sP, zI_sI, zI_sJ, zI_sP, zJ_sI, zJ_sJ, zJ_sP, zP_sI, zP_sJ, zP_sP, Option.toList_some, Option.toList_none, List.cons_append, List.nil_append, zk_of hP.1, zn_of hP.1, zix, ziN, ne_eq, reduceCtorEq, not_false_eq_true, true_and, and_true, Option.getD_some, Nat.reduceLeDiff, Nat.reduceLT, c_ofNat, zkd58, zp_58_1 hP, zp_58_2 hP, zp_58_6 hP, zp_58_7 hP, zp_58_10 hP, zp_58_11 hP, zp_58_12 hP, zp_58_14 hP, zp_58_15 hP, zp_58_17 hP, zp_58_18 hP, zp_58_19 hP, zp_58_20 hP, zp_58_21 hP, zp_58_22 hP, zp_58_24 hP, zp_58_26 hP, zp_58_29 hP, zp_58_32 hP, zp_58_33 hP, zp_58_34 hP, zp_58_35 hP, zp_58_36 hP, zp_58_37 hP, zp_58_38 hP, zp_58_39 hP]
  refine s103i 0 2 rfl rfl ?_
  unfold aWays at h
  simp only [w134_0, w134_1, w134_2, w134_3, w134_6, w134_9, w134_12, w134_14, w134_17, w134_18, w134_19, w134_22, w134_25, w134_27, w134_30, w134_33, w134_34, w134_37, w134_38, w134_39, zk_sI, zk_sJ, zk_sP, zn_sI, zn_sJ, zn_sP, zI_sI, zI_sJ, zI_sP, zJ_sI, zJ_sJ, zJ_sP, zP_sI, zP_sJ, zP_sP, Option.toList_some, Option.toList_none, List.cons_append, List.nil_append, zk_of hP.1, zn_of hP.1, zix, ziN, ne_eq, reduceCtorEq, not_false_eq_true, true_and, and_true, Option.getD_some, Nat.reduceLeDiff, Nat.reduceLT, c_ofNat, zkd58, zp_58_1 hP, zp_58_2 hP, zp_58_6 hP, zp_58_7 hP, zp_58_10 hP, zp_58_11 hP, zp_58_12 hP, zp_58_14 hP, zp_58_15 hP, zp_58_17 hP, zp_58_18 hP, zp_58_19 hP, zp_58_20 hP, zp_58_21 hP, zp_58_22 hP, zp_58_24 hP, zp_58_26 hP, zp_58_29 hP, zp_58_32 hP, zp_58_33 hP, zp_58_34 hP, zp_58_35 hP, zp_58_36 hP, zp_58_37 hP, zp_58_38 hP, zp_58_39 hP, zB_0]
  refine ⟨fun g => ?_, fun g => ?_⟩
  · have g := Classical.not_not.mp g
    obtain ⟨k, k1, e1⟩ := zin_o (n := 2) rfl (by decide) g
    rw [if_pos g] at h
    refine s130 hv hP hM (fun M1 g1 g2 g3 g4 g5 g6 => ?_)
    have hfin := h M1 (zDn_X g1) g3
    rw [e1, n_cl (by omega)] at hfin
    unfold zend' at hfin
    generalize zpq q 0 = p at *
    by_cases g : zrun p
    · rw [if_pos g] at hfin ⊢
      simp only [w134_0, w134_1, w134_2, w134_3, w134_6, w134_9, w134_12, w134_14, w134_17, w134_18, w134_19, w134_22, w134_25, w134_27, w134_30, w134_33, w134_34, w134_37, w134_38, w134_39, zk_sI, zk_sJ, zk_sP, zn_sI, zn_sJ, zn_sP, zI_sI, zI_sJ, zI_sP, zJ_sI, zJ_sJ, zJ_sP, zP_sI, zP_sJ, zP_sP, Option.toList_some, Option.toList_none, List.cons_append, List.nil_append, zk_of g2.1, zn_of g2.1, zix, ziN, ne_eq, reduceCtorEq, not_false_eq_true, true_and, and_true, Option.getD_some, Nat.reduceLeDiff, Nat.reduceLT, c_ofNat, zkd58, zp_58_1 g2, zp_58_2 g2, zp_58_6 g2, zp_58_7 g2, zp_58_10 g2, zp_58_11 g2, zp_58_12 g2, zp_58_14 g2, zp_58_15 g2, zp_58_17 g2, zp_58_18 g2, zp_58_19 g2, zp_58_20 g2, zp_58_21 g2, zp_58_22 g2, zp_58_24 g2, zp_58_26 g2, zp_58_29 g2, zp_58_32 g2, zp_58_33 g2, zp_58_34 g2, zp_58_35 g2, zp_58_36 g2, zp_58_37 g2, zp_58_38 g2, zp_58_39 g2, zkd71, znd71, zfx71, true_implies, not_true_eq_false, false_implies, and_true, e1, n_cl (show k < 2 ^ 31 by omega), n_in (show k < 3 by omega) (show 3 < 2 ^ 31 by decide), (g6 g).1.1 k (by omega)]
      exact hfin
    · rw [if_neg g] at hfin ⊢
      simp only [w134_0, w134_1, w134_2, w134_3, w134_6, w134_9, w134_12, w134_14, w134_17, w134_18, w134_19, w134_22, w134_25, w134_27, w134_30, w134_33, w134_34, w134_37, w134_38, w134_39, zk_sI, zk_sJ, zk_sP, zn_sI, zn_sJ, zn_sP, zI_sI, zI_sJ, zI_sP, zJ_sI, zJ_sJ, zJ_sP, zP_sI, zP_sJ, zP_sP, Option.toList_some, Option.toList_none, List.cons_append, List.nil_append, n5, true_implies, not_false_eq_true, not_true_eq_false, false_implies, true_and, and_true]
      refine s104 ?_
      simp only [w134_0, w134_1, w134_2, w134_3, w134_6, w134_9, w134_12, w134_14, w134_17, w134_18, w134_19, w134_22, w134_25, w134_27, w134_30, w134_33, w134_34, w134_37, w134_38, w134_39, zk_sI, zk_sJ, zk_sP, zn_sI, zn_sJ, zn_sP, zI_sI, zI_sJ, zI_sP, zJ_sI, zJ_sJ, zJ_sP, zP_sI, zP_sJ, zP_sP, Option.toList_some, Option.toList_none, List.cons_append, List.nil_append]
      exact hfin
  · have := h M (zF_rf _ _) hM
    rw [if_neg (fun z => g (fun y => y z))] at this
    refine s104 ?_
    simp only [w134_0, w134_1, w134_2, w134_3, w134_6, w134_9, w134_12, w134_14, w134_17, w134_18, w134_19, w134_22, w134_25, w134_27, w134_30, w134_33, w134_34, w134_37, w134_38, w134_39, zk_sI, zk_sJ, zk_sP, zn_sI, zn_sJ, zn_sP, zI_sI, zI_sJ, zI_sP, zJ_sI, zJ_sJ, zJ_sP, zP_sI, zP_sJ, zP_sP, Option.toList_some, Option.toList_none, List.cons_append, List.nil_append]
    exact this
theorem M135 (hv : vQ q) (hP : zPk M) (hM : zKM q M) (h : ∀ M1, zDn M M1 → zKM q M1 → Q (some (.int (zchn (zpq q 0)))) M1) : zC X 135 [.ref 58] M Q := by
  rw [c135]
  simp only [w135_0, w135_1, w135_4, w135_7, w135_9, w135_12, w135_13, w135_16, zk_sI, zk_sJ, zk_sP, zn_sI, zn_sJ, zn_sP, zI_sI, zI_sJ, zI_sP, zJ_sI, zJ_sJ, zJ_sP, zP_sI, zP_sJ, zP_sP, Option.toList_some, Option.toList_none, List.cons_append, List.nil_append, zk_of hP.1, zn_of hP.1, zix, ziN, ne_eq, reduceCtorEq, not_false_eq_true, true_and, and_true, Option.getD_some, Nat.reduceLeDiff, Nat.reduceLT, c_ofNat, zkd58, zp_58_1 hP, zp_58_2 hP, zp_58_6 hP, zp_58_7 hP, zp_58_10 hP, zp_58_11 hP, zp_58_12 hP, zp_58_14 hP, zp_58_15 hP, zp_58_17 hP, zp_58_18 hP, zp_58_19 hP, zp_58_20 hP, zp_58_21 hP, zp_58_22 hP, zp_58_24 hP, zp_58_26 hP, zp_58_29 hP, zp_58_32 hP, zp_58_33 hP, zp_58_34 hP, zp_58_35 hP, zp_58_36 hP, zp_58_37 hP, zp_58_38 hP, zp_58_39 hP]
  refine s130 hv hP hM (fun M1 g1 g2 g3 g4 g5 g6 => ?_)
  have hfin := h M1 (zDn_X g1) g3
  have hpo := zpq_ok (b := 0) hv (by decide)
  generalize zpq q 0 = p at *
  by_cases g : zrun p
  · rw [if_pos g]
    simp only [w135_0, w135_1, w135_4, w135_7, w135_9, w135_12, w135_13, w135_16, zk_sI, zk_sJ, zk_sP, zn_sI, zn_sJ, zn_sP, zI_sI, zI_sJ, zI_sP, zJ_sI, zJ_sJ, zJ_sP, zP_sI, zP_sJ, zP_sP, Option.toList_some, Option.toList_none, List.cons_append, List.nil_append, zk_of g2.1, zn_of g2.1, zix, ziN, ne_eq, reduceCtorEq, not_false_eq_true, true_and, and_true, Option.getD_some, Nat.reduceLeDiff, Nat.reduceLT, c_ofNat, zkd58, zp_58_1 g2, zp_58_2 g2, zp_58_6 g2, zp_58_7 g2, zp_58_10 g2, zp_58_11 g2, zp_58_12 g2, zp_58_14 g2, zp_58_15 g2, zp_58_17 g2, zp_58_18 g2, zp_58_19 g2, zp_58_20 g2, zp_58_21 g2, zp_58_22 g2, zp_58_24 g2, zp_58_26 g2, zp_58_29 g2, zp_58_32 g2, zp_58_33 g2, zp_58_34 g2, zp_58_35 g2, zp_58_36 g2, zp_58_37 g2, zp_58_38 g2, zp_58_39 g2, true_implies, not_true_eq_false, false_implies, and_true]
    refine s131 g2 hpo g (g6 g) g4 g5 ?_
    simp only [w135_0, w135_1, w135_4, w135_7, w135_9, w135_12, w135_13, w135_16, zk_sI, zk_sJ, zk_sP, zn_sI, zn_sJ, zn_sP, zI_sI, zI_sJ, zI_sP, zJ_sI, zJ_sJ, zJ_sP, zP_sI, zP_sJ, zP_sP, Option.toList_some, Option.toList_none, List.cons_append, List.nil_append]
    exact hfin
  · rw [zchn, if_neg g] at hfin
    rw [if_neg g]
    simp only [w135_0, w135_1, w135_4, w135_7, w135_9, w135_12, w135_13, w135_16, zk_sI, zk_sJ, zk_sP, zn_sI, zn_sJ, zn_sP, zI_sI, zI_sJ, zI_sP, zJ_sI, zJ_sJ, zJ_sP, zP_sI, zP_sJ, zP_sP, Option.toList_some, Option.toList_none, List.cons_append, List.nil_append, n5, true_implies, not_false_eq_true, not_true_eq_false, false_implies, true_and, and_true]
    exact hfin
theorem M137 (hv : vQ q) (hP : zPk M) (hM : zKM q M) (h : ∀ M1, zDn M M1 → zKM q M1 → Q (some (.int (zwid' (zpq q 0)))) M1) : zC X 137 [.ref 58] M Q := by
  rw [c137]
  simp only [w137_0, w137_1, w137_4, w137_7, w137_9, w137_12, w137_13, w137_16, zk_sI, zk_sJ, zk_sP, zn_sI, zn_sJ, zn_sP, zI_sI, zI_sJ, zI_sP, zJ_sI, zJ_sJ, zJ_sP, zP_sI, zP_sJ, zP_sP, Option.toList_some, Option.toList_none, List.cons_append, List.nil_append, zk_of hP.1, zn_of hP.1, zix, ziN, ne_eq, reduceCtorEq, not_false_eq_true, true_and, and_true, Option.getD_some, Nat.reduceLeDiff, Nat.reduceLT, c_ofNat, zkd58, zp_58_1 hP, zp_58_2 hP, zp_58_6 hP, zp_58_7 hP, zp_58_10 hP, zp_58_11 hP, zp_58_12 hP, zp_58_14 hP, zp_58_15 hP, zp_58_17 hP, zp_58_18 hP, zp_58_19 hP, zp_58_20 hP, zp_58_21 hP, zp_58_22 hP, zp_58_24 hP, zp_58_26 hP, zp_58_29 hP, zp_58_32 hP, zp_58_33 hP, zp_58_34 hP, zp_58_35 hP, zp_58_36 hP, zp_58_37 hP, zp_58_38 hP, zp_58_39 hP]
  refine s130 hv hP hM (fun M1 g1 g2 g3 g4 g5 g6 => ?_)
  have hfin := h M1 (zDn_X g1) g3
  unfold zwid' at hfin
  generalize zpq q 0 = p at *
  by_cases g : zrun p
  · rw [if_pos g] at hfin ⊢
    simp only [w137_0, w137_1, w137_4, w137_7, w137_9, w137_12, w137_13, w137_16, zk_sI, zk_sJ, zk_sP, zn_sI, zn_sJ, zn_sP, zI_sI, zI_sJ, zI_sP, zJ_sI, zJ_sJ, zJ_sP, zP_sI, zP_sJ, zP_sP, Option.toList_some, Option.toList_none, List.cons_append, List.nil_append, zk_of g2.1, zn_of g2.1, zix, ziN, ne_eq, reduceCtorEq, not_false_eq_true, true_and, and_true, Option.getD_some, Nat.reduceLeDiff, Nat.reduceLT, c_ofNat, zkd58, zp_58_1 g2, zp_58_2 g2, zp_58_6 g2, zp_58_7 g2, zp_58_10 g2, zp_58_11 g2, zp_58_12 g2, zp_58_14 g2, zp_58_15 g2, zp_58_17 g2, zp_58_18 g2, zp_58_19 g2, zp_58_20 g2, zp_58_21 g2, zp_58_22 g2, zp_58_24 g2, zp_58_26 g2, zp_58_29 g2, zp_58_32 g2, zp_58_33 g2, zp_58_34 g2, zp_58_35 g2, zp_58_36 g2, zp_58_37 g2, zp_58_38 g2, zp_58_39 g2, true_implies, not_true_eq_false, false_implies, and_true, (g6 g).2.2]
    exact hfin
  · rw [if_neg g] at hfin ⊢
    simp only [w137_0, w137_1, w137_4, w137_7, w137_9, w137_12, w137_13, w137_16, zk_sI, zk_sJ, zk_sP, zn_sI, zn_sJ, zn_sP, zI_sI, zI_sJ, zI_sP, zJ_sI, zJ_sJ, zJ_sP, zP_sI, zP_sJ, zP_sP, Option.toList_some, Option.toList_none, List.cons_append, List.nil_append, n5, true_implies, not_false_eq_true, not_true_eq_false, false_implies, true_and, and_true]
    exact hfin
theorem M138 {e : Int32} (hv : vQ q) (hP : zPk M) (hM : zKM q M) (h : ∀ M1, zDn M M1 → zKM q M1 → Q (some (.long (aEnds q e))) M1) : zC X 138 [.ref 58, .int e] M Q := by
  rw [c138]
  have hr := hv.2.2.1
  simp only [w138_0, w138_1, w138_2, w138_3, w138_4, w138_7, w138_8, w138_11, w138_14, w138_16, w138_19, w138_20, w138_21, w138_24, w138_27, w138_29, w138_32, w138_35, w138_36, w138_39, w138_40, w138_41, zk_sI, zk_sJ, zk_sP, zn_sI, zn_sJ, zn_sP, zI_sI, zI_sJ, zI_sP, zJ_sI, zJ_sJ, zJ_sP, zP_sI, zP_sJ, zP_sP, Option.toList_some, Option.toList_none, List.cons_append, List.nil_append, zk_of hP.1, zn_of hP.1, zix, ziN, ne_eq, reduceCtorEq, not_false_eq_true, true_and, and_true, Option.getD_some, Nat.reduceLeDiff, Nat.reduceLT, c_ofNat, zkd58, zp_58_1 hP, zp_58_2 hP, zp_58_6 hP, zp_58_7 hP, zp_58_10 hP, zp_58_11 hP, zp_58_12 hP, zp_58_14 hP, zp_58_15 hP, zp_58_17 hP, zp_58_18 hP, zp_58_19 hP, zp_58_20 hP, zp_58_21 hP, zp_58_22 hP, zp_58_24 hP, zp_58_26 hP, zp_58_29 hP, zp_58_32 hP, zp_58_33 hP, zp_58_34 hP, zp_58_35 hP, zp_58_36 hP, zp_58_37 hP, zp_58_38 hP, zp_58_39 hP, hM.2.2.1.1]
  refine s103i 0 (nI (qL q).1) rfl rfl ?_
  unfold aEnds at h
  simp only [w138_0, w138_1, w138_2, w138_3, w138_4, w138_7, w138_8, w138_11, w138_14, w138_16, w138_19, w138_20, w138_21, w138_24, w138_27, w138_29, w138_32, w138_35, w138_36, w138_39, w138_40, w138_41, zk_sI, zk_sJ, zk_sP, zn_sI, zn_sJ, zn_sP, zI_sI, zI_sJ, zI_sP, zJ_sI, zJ_sJ, zJ_sP, zP_sI, zP_sJ, zP_sP, Option.toList_some, Option.toList_none, List.cons_append, List.nil_append, zk_of hP.1, zn_of hP.1, zix, ziN, ne_eq, reduceCtorEq, not_false_eq_true, true_and, and_true, Option.getD_some, Nat.reduceLeDiff, Nat.reduceLT, c_ofNat, zkd58, zp_58_1 hP, zp_58_2 hP, zp_58_6 hP, zp_58_7 hP, zp_58_10 hP, zp_58_11 hP, zp_58_12 hP, zp_58_14 hP, zp_58_15 hP, zp_58_17 hP, zp_58_18 hP, zp_58_19 hP, zp_58_20 hP, zp_58_21 hP, zp_58_22 hP, zp_58_24 hP, zp_58_26 hP, zp_58_29 hP, zp_58_32 hP, zp_58_33 hP, zp_58_34 hP, zp_58_35 hP, zp_58_36 hP, zp_58_37 hP, zp_58_38 hP, zp_58_39 hP, zB_0]
  refine ⟨fun g => ?_, fun g => ?_⟩
  · have g := Classical.not_not.mp g
    obtain ⟨k, k1, e1⟩ := zin_o (n := (qL q).1) rfl (by omega) g
    rw [if_pos g] at h
    refine s130 hv hP hM (fun M1 g1 g2 g3 g4 g5 g6 => ?_)
    have hfin := h M1 (zDn_X g1) g3
    rw [e1, n_cl (by omega)] at hfin
    unfold zrnd' at hfin
    generalize zpq q 0 = p at *
    by_cases g : zrun p
    · rw [if_pos g] at hfin ⊢
      simp only [w138_0, w138_1, w138_2, w138_3, w138_4, w138_7, w138_8, w138_11, w138_14, w138_16, w138_19, w138_20, w138_21, w138_24, w138_27, w138_29, w138_32, w138_35, w138_36, w138_39, w138_40, w138_41, zk_sI, zk_sJ, zk_sP, zn_sI, zn_sJ, zn_sP, zI_sI, zI_sJ, zI_sP, zJ_sI, zJ_sJ, zJ_sP, zP_sI, zP_sJ, zP_sP, Option.toList_some, Option.toList_none, List.cons_append, List.nil_append, zk_of g2.1, zn_of g2.1, zix, ziN, ne_eq, reduceCtorEq, not_false_eq_true, true_and, and_true, Option.getD_some, Nat.reduceLeDiff, Nat.reduceLT, c_ofNat, zkd58, zp_58_1 g2, zp_58_2 g2, zp_58_6 g2, zp_58_7 g2, zp_58_10 g2, zp_58_11 g2, zp_58_12 g2, zp_58_14 g2, zp_58_15 g2, zp_58_17 g2, zp_58_18 g2, zp_58_19 g2, zp_58_20 g2, zp_58_21 g2, zp_58_22 g2, zp_58_24 g2, zp_58_26 g2, zp_58_29 g2, zp_58_32 g2, zp_58_33 g2, zp_58_34 g2, zp_58_35 g2, zp_58_36 g2, zp_58_37 g2, zp_58_38 g2, zp_58_39 g2, zkd72, znd72, zfx72, true_implies, not_true_eq_false, false_implies, and_true, e1, n_cl (show k < 2 ^ 31 by omega), n_in (show k < 7 by omega) (show 7 < 2 ^ 31 by decide), (g6 g).1.2.1 k (by omega)]
      exact hfin
    · rw [if_neg g] at hfin ⊢
      simp only [w138_0, w138_1, w138_2, w138_3, w138_4, w138_7, w138_8, w138_11, w138_14, w138_16, w138_19, w138_20, w138_21, w138_24, w138_27, w138_29, w138_32, w138_35, w138_36, w138_39, w138_40, w138_41, zk_sI, zk_sJ, zk_sP, zn_sI, zn_sJ, zn_sP, zI_sI, zI_sJ, zI_sP, zJ_sI, zJ_sJ, zJ_sP, zP_sI, zP_sJ, zP_sP, Option.toList_some, Option.toList_none, List.cons_append, List.nil_append, n5, true_implies, not_false_eq_true, not_true_eq_false, false_implies, true_and, and_true]
      refine s104 ?_
      simp only [w138_0, w138_1, w138_2, w138_3, w138_4, w138_7, w138_8, w138_11, w138_14, w138_16, w138_19, w138_20, w138_21, w138_24, w138_27, w138_29, w138_32, w138_35, w138_36, w138_39, w138_40, w138_41, zk_sI, zk_sJ, zk_sP, zn_sI, zn_sJ, zn_sP, zI_sI, zI_sJ, zI_sP, zJ_sI, zJ_sJ, zJ_sP, zP_sI, zP_sJ, zP_sP, Option.toList_some, Option.toList_none, List.cons_append, List.nil_append]
      exact hfin
  · have := h M (zF_rf _ _) hM
    rw [if_neg (fun z => g (fun y => y z))] at this
    refine s104 ?_
    simp only [w138_0, w138_1, w138_2, w138_3, w138_4, w138_7, w138_8, w138_11, w138_14, w138_16, w138_19, w138_20, w138_21, w138_24, w138_27, w138_29, w138_32, w138_35, w138_36, w138_39, w138_40, w138_41, zk_sI, zk_sJ, zk_sP, zn_sI, zn_sJ, zn_sP, zI_sI, zI_sJ, zI_sP, zJ_sI, zJ_sJ, zJ_sP, zP_sI, zP_sJ, zP_sP, Option.toList_some, Option.toList_none, List.cons_append, List.nil_append]
    exact this
/-- at -/
theorem M113 {s k : Int32} (hP : zPk M) (hM : zKM q M) (h : ∀ M1, zDn M M1 → zKM q M1 → Q (some (.int (aAt q s k))) M1) : zC X 113 [.ref 58, .int s, .int k] M Q := by
  have h0 := h M (zF_rf _ _) hM
  unfold aAt at h0
  rw [c113]
  simp only [w113_0, w113_1, w113_2, w113_3, w113_4, w113_7, w113_10, w113_11, w113_12, w113_13, w113_16, w113_19, w113_22, w113_23, w113_26, w113_27, w113_28, w113_29, w113_30, w113_31, w113_32, w113_35, w113_37, zk_sI, zk_sJ, zk_sP, zn_sI, zn_sJ, zn_sP, zI_sI, zI_sJ, zI_sP, zJ_sI, zJ_sJ, zJ_sP, zP_sI, zP_sJ, zP_sP, Option.toList_some, Option.toList_none, List.cons_append, List.nil_append, zk_of hP.1, zn_of hP.1, zix, ziN, ne_eq, reduceCtorEq, not_false_eq_true, true_and, and_true, Option.getD_some, Nat.reduceLeDiff, Nat.reduceLT, c_ofNat, zkd58, zp_58_1 hP, zp_58_2 hP, zp_58_6 hP, zp_58_7 hP, zp_58_10 hP, zp_58_11 hP, zp_58_12 hP, zp_58_14 hP, zp_58_15 hP, zp_58_17 hP, zp_58_18 hP, zp_58_19 hP, zp_58_20 hP, zp_58_21 hP, zp_58_22 hP, zp_58_24 hP, zp_58_26 hP, zp_58_29 hP, zp_58_32 hP, zp_58_33 hP, zp_58_34 hP, zp_58_35 hP, zp_58_36 hP, zp_58_37 hP, zp_58_38 hP, zp_58_39 hP, zkd60, znd60, zfx60]
  refine s103i 0 1 rfl rfl ?_
  simp only [w113_0, w113_1, w113_2, w113_3, w113_4, w113_7, w113_10, w113_11, w113_12, w113_13, w113_16, w113_19, w113_22, w113_23, w113_26, w113_27, w113_28, w113_29, w113_30, w113_31, w113_32, w113_35, w113_37, zk_sI, zk_sJ, zk_sP, zn_sI, zn_sJ, zn_sP, zI_sI, zI_sJ, zI_sP, zJ_sI, zJ_sJ, zJ_sP, zP_sI, zP_sJ, zP_sP, Option.toList_some, Option.toList_none, List.cons_append, List.nil_append, zk_of hP.1, zn_of hP.1, zix, ziN, ne_eq, reduceCtorEq, not_false_eq_true, true_and, and_true, Option.getD_some, Nat.reduceLeDiff, Nat.reduceLT, c_ofNat, zkd58, zp_58_1 hP, zp_58_2 hP, zp_58_6 hP, zp_58_7 hP, zp_58_10 hP, zp_58_11 hP, zp_58_12 hP, zp_58_14 hP, zp_58_15 hP, zp_58_17 hP, zp_58_18 hP, zp_58_19 hP, zp_58_20 hP, zp_58_21 hP, zp_58_22 hP, zp_58_24 hP, zp_58_26 hP, zp_58_29 hP, zp_58_32 hP, zp_58_33 hP, zp_58_34 hP, zp_58_35 hP, zp_58_36 hP, zp_58_37 hP, zp_58_38 hP, zp_58_39 hP, zkd60, znd60, zfx60, zB_0]
  refine ⟨fun g => ?_, fun g => ?_⟩
  · rw [if_neg (fun z => g z.1)] at h0
    exact h0
  · have g := Classical.not_not.mp g
    refine s103i 0 2 rfl rfl ?_
    obtain ⟨s', s1, e1⟩ := zin_o (n := 1) rfl (by decide) g
    simp only [w113_0, w113_1, w113_2, w113_3, w113_4, w113_7, w113_10, w113_11, w113_12, w113_13, w113_16, w113_19, w113_22, w113_23, w113_26, w113_27, w113_28, w113_29, w113_30, w113_31, w113_32, w113_35, w113_37, zk_sI, zk_sJ, zk_sP, zn_sI, zn_sJ, zn_sP, zI_sI, zI_sJ, zI_sP, zJ_sI, zJ_sJ, zJ_sP, zP_sI, zP_sJ, zP_sP, Option.toList_some, Option.toList_none, List.cons_append, List.nil_append, zk_of hP.1, zn_of hP.1, zix, ziN, ne_eq, reduceCtorEq, not_false_eq_true, true_and, and_true, Option.getD_some, Nat.reduceLeDiff, Nat.reduceLT, c_ofNat, zkd58, zp_58_1 hP, zp_58_2 hP, zp_58_6 hP, zp_58_7 hP, zp_58_10 hP, zp_58_11 hP, zp_58_12 hP, zp_58_14 hP, zp_58_15 hP, zp_58_17 hP, zp_58_18 hP, zp_58_19 hP, zp_58_20 hP, zp_58_21 hP, zp_58_22 hP, zp_58_24 hP, zp_58_26 hP, zp_58_29 hP, zp_58_32 hP, zp_58_33 hP, zp_58_34 hP, zp_58_35 hP, zp_58_36 hP, zp_58_37 hP, zp_58_38 hP, zp_58_39 hP, zkd60, znd60, zfx60, zB_0]
    refine ⟨fun g2 => ?_, fun g2 => ?_⟩
    · rw [if_neg (fun z => g2 z.2)] at h0
      exact h0
    · have g2 := Classical.not_not.mp g2
      obtain ⟨k', k1, e2⟩ := zin_o (n := 2) rfl (by decide) g2
      rw [if_pos ⟨g, g2⟩, e1, e2, n_cl (by omega), n_cl (by omega)] at h0
      have e89 : (3 : Int32) * s + k = nI (3 * s' + k') := by rw [e1, e2, n_m3, nI_add]
      have ev : zf_I M 60 (3 * s' + k') = zvo (zwh q s' k') := by
        unfold zwh
        by_cases hs0 : s' = 0
        · rw [if_pos hs0, hs0, ← (hM.2.1 k' (by omega)).1]
          congr 1
          omega
        · rw [if_neg hs0, show s' = 1 by omega, ← (hM.2.1 k' (by omega)).2]
      rw [e89]
      simp only [n_cl (show 3 * s' + k' < 2 ^ 31 by omega), n_in (show 3 * s' + k' < 6 by omega) (show 6 < 2 ^ 31 by decide), true_and, ev]
      exact h0
end ZMl
