/-! ===== put, get, shake: the model's ===== -/
section ZMp2
variable {X : zf_X} {M : zf_M} {Q : Option Value → zf_M → Prop} {q : tQ}
/-- lacks -/
theorem s158 {s : Nat} {f i : Int32} (hv : vQ q) (hP : zPk M) (hM : zKM q M) (hs : s < 4) (h0 : zft q s f i = 0 → Q (some (.int 0)) M) (h1 : zft q s f i ≠ 0 → Q (some (.int (-10 - zft q s f i))) (zf_sI M 58 40 (zft q s f i))) : zC X 158 [.ref 58, .int (nI s), .int f, .int i] M Q := by
  have hmS := hM.2.2.2.2.2.2.1
  obtain ⟨b1, b2, b3⟩ := hmS s hs
  have h60 := (hv.2.2.2.2.2 s hs).1
  have x0 := n_cl (show s < 2 ^ 31 by omega)
  have x1 := n_in hs (show 4 < 2 ^ 31 by decide)
  unfold zft at h0 h1
  rw [c158]
  simp only [w158_0, w158_1, w158_4, w158_5, w158_6, w158_9, w158_10, w158_11, w158_14, w158_15, w158_16, w158_19, w158_20, w158_21, w158_22, w158_25, w158_26, w158_27, zk_sI, zk_sJ, zk_sP, zn_sI, zn_sJ, zn_sP, zI_sI, zI_sJ, zI_sP, zJ_sI, zJ_sJ, zJ_sP, zP_sI, zP_sJ, zP_sP, Option.toList_some, Option.toList_none, List.cons_append, List.nil_append, zk_of hP.1, zn_of hP.1, zix, ziN, ne_eq, reduceCtorEq, not_false_eq_true, true_and, and_true, Option.getD_some, Nat.reduceLeDiff, Nat.reduceLT, c_ofNat, zkd58, zp_58_1 hP, zp_58_2 hP, zp_58_6 hP, zp_58_7 hP, zp_58_10 hP, zp_58_11 hP, zp_58_12 hP, zp_58_14 hP, zp_58_15 hP, zp_58_17 hP, zp_58_18 hP, zp_58_19 hP, zp_58_20 hP, zp_58_21 hP, zp_58_22 hP, zp_58_24 hP, zp_58_26 hP, zp_58_29 hP, zp_58_32 hP, zp_58_33 hP, zp_58_34 hP, zp_58_35 hP, zp_58_36 hP, zp_58_37 hP, zp_58_38 hP, zp_58_39 hP, zkd81, znd81, zfx81, zkd82, znd82, zfx82, x0, x1, b1]
  refine ⟨fun g => ?_, fun g => ?_⟩
  · have g' : ¬ (qS q).1 s < 0 := Int32.not_lt.mpr g
    rw [if_neg g'] at h0 h1
    refine ⟨fun g2 => ?_, fun g2 => ?_⟩
    · rw [if_neg (fun z => z g2)] at h0 h1
      simp only [w158_31, w158_32, w158_33, w158_34, w158_35, w158_38, w158_39, w158_40, w158_41, w158_42, w158_43, zk_sI, zk_sJ, zk_sP, zn_sI, zn_sJ, zn_sP, zI_sI, zI_sJ, zI_sP, zJ_sI, zJ_sJ, zJ_sP, zP_sI, zP_sJ, zP_sP, Option.toList_some, Option.toList_none, List.cons_append, List.nil_append, zk_of hP.1, zn_of hP.1, zix, ziN, ne_eq, reduceCtorEq, not_false_eq_true, true_and, and_true, Option.getD_some, Nat.reduceLeDiff, Nat.reduceLT, c_ofNat, zkd58, zp_58_1 hP, zp_58_2 hP, zp_58_6 hP, zp_58_7 hP, zp_58_10 hP, zp_58_11 hP, zp_58_12 hP, zp_58_14 hP, zp_58_15 hP, zp_58_17 hP, zp_58_18 hP, zp_58_19 hP, zp_58_20 hP, zp_58_21 hP, zp_58_22 hP, zp_58_24 hP, zp_58_26 hP, zp_58_29 hP, zp_58_32 hP, zp_58_33 hP, zp_58_34 hP, zp_58_35 hP, zp_58_36 hP, zp_58_37 hP, zp_58_38 hP, zp_58_39 hP, zkd81, znd81, zfx81, zkd82, znd82, zfx82, x0, x1, b2]
      refine s103i 0 (nI ((qS q).2.1 s) - 1) rfl rfl ?_
      rw [zB_iff (vhas_inN (show (qS q).2.1 s < 2 ^ 31 by omega))]
      simp only [w158_46, w158_49, w158_50, w158_53, w158_54, w158_55, zk_sI, zk_sJ, zk_sP, zn_sI, zn_sJ, zn_sP, zI_sI, zI_sJ, zI_sP, zJ_sI, zJ_sJ, zJ_sP, zP_sI, zP_sJ, zP_sP, Option.toList_some, Option.toList_none, List.cons_append, List.nil_append, zk_of hP.1, zn_of hP.1, zix, ziN, ne_eq, reduceCtorEq, not_false_eq_true, true_and, and_true, Option.getD_some, Nat.reduceLeDiff, Nat.reduceLT, c_ofNat, zkd58, zp_58_1 hP, zp_58_2 hP, zp_58_6 hP, zp_58_7 hP, zp_58_10 hP, zp_58_11 hP, zp_58_12 hP, zp_58_14 hP, zp_58_15 hP, zp_58_17 hP, zp_58_18 hP, zp_58_19 hP, zp_58_20 hP, zp_58_21 hP, zp_58_22 hP, zp_58_24 hP, zp_58_26 hP, zp_58_29 hP, zp_58_32 hP, zp_58_33 hP, zp_58_34 hP, zp_58_35 hP, zp_58_36 hP, zp_58_37 hP, zp_58_38 hP, zp_58_39 hP, zB_0]
      refine ⟨fun g3 => ?_, fun g3 => ?_⟩
      · rw [if_neg g3] at h1
        refine s154 hP ?_
        simp only [w158_58, zk_sI, zk_sJ, zk_sP, zn_sI, zn_sJ, zn_sP, zI_sI, zI_sJ, zI_sP, zJ_sI, zJ_sJ, zJ_sP, zP_sI, zP_sJ, zP_sP, Option.toList_some, Option.toList_none, List.cons_append, List.nil_append]
        exact h1 (by decide)
      · rw [if_pos (Classical.not_not.mp g3)] at h0
        simp only [w158_58, zk_sI, zk_sJ, zk_sP, zn_sI, zn_sJ, zn_sP, zI_sI, zI_sJ, zI_sP, zJ_sI, zJ_sJ, zJ_sP, zP_sI, zP_sJ, zP_sP, Option.toList_some, Option.toList_none, List.cons_append, List.nil_append]
        exact h0 rfl
    · rw [if_pos g2] at h1
      refine s154 hP ?_
      simp only [w158_30, zk_sI, zk_sJ, zk_sP, zn_sI, zn_sJ, zn_sP, zI_sI, zI_sJ, zI_sP, zJ_sI, zJ_sJ, zJ_sP, zP_sI, zP_sJ, zP_sP, Option.toList_some, Option.toList_none, List.cons_append, List.nil_append]
      exact h1 (by decide)
  · rw [if_pos (Int32.not_le.mp g)] at h1
    refine s154 hP ?_
    simp only [w158_14, zk_sI, zk_sJ, zk_sP, zn_sI, zn_sJ, zn_sP, zI_sI, zI_sJ, zI_sP, zJ_sI, zJ_sJ, zJ_sP, zP_sI, zP_sJ, zP_sP, Option.toList_some, Option.toList_none, List.cons_append, List.nil_append]
    exact h1 (by decide)
theorem zft_ne {s : Nat} {f i : Int32} (h : zft q s f i ≠ 0) : ¬ (-10 - zft q s f i = 0) := by
  unfold zft at h ⊢
  by_cases g : (qS q).1 s < 0
  · rw [if_pos g]
    decide
  · rw [if_neg g] at h ⊢
    by_cases g2 : (qS q).1 s ≠ f
    · rw [if_pos g2]
      decide
    · rw [if_neg g2] at h ⊢
      by_cases g3 : vhas ((qS q).2.1 s) i
      · rw [if_pos g3] at h
        exact absurd rfl h
      · rw [if_neg g3]
        decide
theorem M159 {s f i v : Int32} (hv : vQ q) (hP : zPk M) (hM : zKM q M) (h : ∀ M1, zDn M M1 → zKM (nPut q s f i v) M1 → Q (some (.int (aPut q s f i))) M1) : zC X 159 [.ref 58, .int s, .int f, .int i, .int v] M Q := by
  unfold nPut aPut at h
  have h0 : ¬ bPut s f → Q (some (.int (-2))) M := by
    intro g
    have := h M (zF_rf _ _)
    rw [if_neg g, if_neg g] at this
    exact this hM
  have nn : ∀ {x : Prop}, ¬ ¬ x → x := Classical.not_not.mp
  rw [c159]
  simp only [w159_0, w159_1, zk_sI, zk_sJ, zk_sP, zn_sI, zn_sJ, zn_sP, zI_sI, zI_sJ, zI_sP, zJ_sI, zJ_sJ, zJ_sP, zP_sI, zP_sJ, zP_sP, Option.toList_some, Option.toList_none, List.cons_append, List.nil_append]
  refine s155 ?_
  simp only [w159_4, w159_7, w159_8, w159_9, w159_10, w159_13, w159_19, w159_21, zk_sI, zk_sJ, zk_sP, zn_sI, zn_sJ, zn_sP, zI_sI, zI_sJ, zI_sP, zJ_sI, zJ_sJ, zJ_sP, zP_sI, zP_sJ, zP_sP, Option.toList_some, Option.toList_none, List.cons_append, List.nil_append, zB_0]
  refine ⟨fun g => h0 (fun z => g z.1), fun g1 => ?_⟩
  refine s103i 0 2 rfl rfl ?_
  simp only [w159_16, w159_19, w159_21, w159_22, w159_23, w159_24, w159_25, w159_26, zk_sI, zk_sJ, zk_sP, zn_sI, zn_sJ, zn_sP, zI_sI, zI_sJ, zI_sP, zJ_sI, zJ_sJ, zJ_sP, zP_sI, zP_sJ, zP_sP, Option.toList_some, Option.toList_none, List.cons_append, List.nil_append, zk_of hP.1, zn_of hP.1, zix, ziN, ne_eq, reduceCtorEq, not_false_eq_true, true_and, and_true, Option.getD_some, Nat.reduceLeDiff, Nat.reduceLT, c_ofNat, zkd58, zp_58_1 hP, zp_58_2 hP, zp_58_6 hP, zp_58_7 hP, zp_58_10 hP, zp_58_11 hP, zp_58_12 hP, zp_58_14 hP, zp_58_15 hP, zp_58_17 hP, zp_58_18 hP, zp_58_19 hP, zp_58_20 hP, zp_58_21 hP, zp_58_22 hP, zp_58_24 hP, zp_58_26 hP, zp_58_29 hP, zp_58_32 hP, zp_58_33 hP, zp_58_34 hP, zp_58_35 hP, zp_58_36 hP, zp_58_37 hP, zp_58_38 hP, zp_58_39 hP, zB_0]
  refine ⟨fun g2 => ?_, fun g => h0 (fun z => g (fun y => y z.2))⟩
  have hb : bPut s f := ⟨nn g1, nn g2⟩
  rw [if_pos hb, if_pos hb] at h
  obtain ⟨s', s1, rfl⟩ := zin_o (n := 3) rfl (by decide) hb.1
  rw [n_cl (by omega)] at h
  have hmS := hM.2.2.2.2.2.2.1
  obtain ⟨b1, b2, b3⟩ := hmS s' (by omega)
  have h60 := (hv.2.2.2.2.2 s' (by omega)).1
  refine s158 hv hP hM (by omega) (fun hz => ?_) (fun hz => ?_)
  · obtain ⟨w1, w2, w3⟩ := zft_ok hz
    obtain ⟨i', i1, rfl⟩ := vhas_oN w3 (by omega)
    rw [if_pos hz, if_pos hz, n_cl (by omega)] at h
    have e60 : (60 : Int32) * nI s' = nI (60 * s') := pk_mul 60 s'
    have fin : ∀ y, y = zcv f v → Q (some (.int 1)) (zf_sI M 83 (60 * s' + i') y) := by
      intro y hy
      rw [hy]
      refine h _ (zF_sI (zF_rf _ _) (by omega)) (zKM_S hM (fun c j _ k => zI_ne (by omega)) (mS_up (s := s') hmS (by omega) (fun t ht => ⟨zI_ne (by omega), zI_ne (by omega)⟩) (fun j hj => zI_ne (by omega)) (fun t ht => ⟨rfl, rfl, zud_neq ht⟩) ?_ ?_ (fun j hj hj6 => ?_)))
      · rw [zI_ne (by omega)]
        exact b1
      · rw [zI_ne (by omega)]
        exact b2
      · rw [zud_eq]
        by_cases e : j = i'
        · rw [e, zI_eq, zud_eq]
        · rw [zI_ne (by omega), zud_neq e]
          exact b3 j hj hj6
    simp only [w159_29, w159_31, w159_33, w159_36, w159_38, w159_39, w159_40, w159_43, w159_45, w159_46, w159_47, w159_48, w159_49, w159_50, w159_53, w159_55, w159_56, w159_59, w159_60, w159_61, w159_64, w159_66, w159_67, w159_70, w159_72, w159_73, w159_74, zk_sI, zk_sJ, zk_sP, zn_sI, zn_sJ, zn_sP, zI_sI, zI_sJ, zI_sP, zJ_sI, zJ_sJ, zJ_sP, zP_sI, zP_sJ, zP_sP, Option.toList_some, Option.toList_none, List.cons_append, List.nil_append, zk_of hP.1, zn_of hP.1, zix, ziN, ne_eq, reduceCtorEq, not_false_eq_true, true_and, and_true, Option.getD_some, Nat.reduceLeDiff, Nat.reduceLT, c_ofNat, zkd58, zp_58_1 hP, zp_58_2 hP, zp_58_6 hP, zp_58_7 hP, zp_58_10 hP, zp_58_11 hP, zp_58_12 hP, zp_58_14 hP, zp_58_15 hP, zp_58_17 hP, zp_58_18 hP, zp_58_19 hP, zp_58_20 hP, zp_58_21 hP, zp_58_22 hP, zp_58_24 hP, zp_58_26 hP, zp_58_29 hP, zp_58_32 hP, zp_58_33 hP, zp_58_34 hP, zp_58_35 hP, zp_58_36 hP, zp_58_37 hP, zp_58_38 hP, zp_58_39 hP, zkd83, znd83, zfx83, e60, nI_add, n_cl (show 60 * s' + i' < 2 ^ 31 by omega), n_in (show 60 * s' + i' < 240 by omega) (show 240 < 2 ^ 31 by decide), true_implies, not_true_eq_false, false_implies, and_true]
    unfold zcv at fin
    refine ⟨fun g => ⟨fun g3 => fin _ ?_, fun g3 => fin _ ?_⟩, fun g => fin _ ?_⟩
    · rw [if_neg g, if_neg g3]
    · rw [if_neg g, if_pos (nn g3)]
    · rw [if_pos (nn g)]
  · rw [if_neg hz, if_neg hz] at h
    have hne := zft_ne hz
    simp only [w159_29, w159_31, w159_33, w159_36, w159_38, zk_sI, zk_sJ, zk_sP, zn_sI, zn_sJ, zn_sP, zI_sI, zI_sJ, zI_sP, zJ_sI, zJ_sJ, zJ_sP, zP_sI, zP_sJ, zP_sP, Option.toList_some, Option.toList_none, List.cons_append, List.nil_append, hne, not_false_eq_true, true_implies, false_implies, true_and]
    obtain ⟨x1, x2⟩ := zKM_f (v := zft q s' f i) hM
    exact h _ x1 x2
theorem M160 {s f i : Int32} (hv : vQ q) (hP : zPk M) (hM : zKM q M) (h : ∀ M1, zDn M M1 → zKM (nGet q s f i) M1 → Q (some (.int (aGet q s f i))) M1) : zC X 160 [.ref 58, .int s, .int f, .int i] M Q := by
  unfold nGet aGet at h
  have h0 : ¬ bPut s f → Q (some (.int (-2147483648))) M := by
    intro g
    have := h M (zF_rf _ _)
    rw [if_neg g, if_neg g] at this
    exact this hM
  have nn : ∀ {x : Prop}, ¬ ¬ x → x := Classical.not_not.mp
  rw [c160]
  simp only [w160_0, w160_1, zk_sI, zk_sJ, zk_sP, zn_sI, zn_sJ, zn_sP, zI_sI, zI_sJ, zI_sP, zJ_sI, zJ_sJ, zJ_sP, zP_sI, zP_sJ, zP_sP, Option.toList_some, Option.toList_none, List.cons_append, List.nil_append]
  refine s155 ?_
  simp only [w160_4, w160_7, w160_8, w160_9, w160_10, w160_13, w160_29, w160_31, zk_sI, zk_sJ, zk_sP, zn_sI, zn_sJ, zn_sP, zI_sI, zI_sJ, zI_sP, zJ_sI, zJ_sJ, zJ_sP, zP_sI, zP_sJ, zP_sP, Option.toList_some, Option.toList_none, List.cons_append, List.nil_append, zB_0]
  refine ⟨fun g => h0 (fun z => g z.1), fun g1 => ?_⟩
  refine s103i 0 2 rfl rfl ?_
  simp only [w160_16, w160_19, w160_20, w160_21, w160_22, w160_23, w160_29, w160_31, zk_sI, zk_sJ, zk_sP, zn_sI, zn_sJ, zn_sP, zI_sI, zI_sJ, zI_sP, zJ_sI, zJ_sJ, zJ_sP, zP_sI, zP_sJ, zP_sP, Option.toList_some, Option.toList_none, List.cons_append, List.nil_append, zk_of hP.1, zn_of hP.1, zix, ziN, ne_eq, reduceCtorEq, not_false_eq_true, true_and, and_true, Option.getD_some, Nat.reduceLeDiff, Nat.reduceLT, c_ofNat, zkd58, zp_58_1 hP, zp_58_2 hP, zp_58_6 hP, zp_58_7 hP, zp_58_10 hP, zp_58_11 hP, zp_58_12 hP, zp_58_14 hP, zp_58_15 hP, zp_58_17 hP, zp_58_18 hP, zp_58_19 hP, zp_58_20 hP, zp_58_21 hP, zp_58_22 hP, zp_58_24 hP, zp_58_26 hP, zp_58_29 hP, zp_58_32 hP, zp_58_33 hP, zp_58_34 hP, zp_58_35 hP, zp_58_36 hP, zp_58_37 hP, zp_58_38 hP, zp_58_39 hP, zB_0]
  refine ⟨fun g => h0 (fun z => g z.2), fun g2 => ?_⟩
  have hb : bPut s f := ⟨nn g1, nn g2⟩
  rw [if_pos hb, if_pos hb] at h
  obtain ⟨s', s1, rfl⟩ := zin_o (n := 3) rfl (by decide) hb.1
  rw [n_cl (by omega)] at h
  have hmS := hM.2.2.2.2.2.2.1
  obtain ⟨b1, b2, b3⟩ := hmS s' (by omega)
  have h60 := (hv.2.2.2.2.2 s' (by omega)).1
  refine s158 hv hP hM (by omega) (fun hz => ?_) (fun hz => ?_)
  · obtain ⟨w1, w2, w3⟩ := zft_ok hz
    obtain ⟨i', i1, rfl⟩ := vhas_oN w3 (by omega)
    rw [if_pos hz, if_pos hz, n_cl (by omega)] at h
    have e60 : (60 : Int32) * nI s' = nI (60 * s') := pk_mul 60 s'
    simp only [w160_26, w160_29, w160_31, w160_32, w160_33, w160_36, w160_38, w160_39, w160_40, w160_41, w160_42, w160_43, zk_sI, zk_sJ, zk_sP, zn_sI, zn_sJ, zn_sP, zI_sI, zI_sJ, zI_sP, zJ_sI, zJ_sJ, zJ_sP, zP_sI, zP_sJ, zP_sP, Option.toList_some, Option.toList_none, List.cons_append, List.nil_append, zk_of hP.1, zn_of hP.1, zix, ziN, ne_eq, reduceCtorEq, not_false_eq_true, true_and, and_true, Option.getD_some, Nat.reduceLeDiff, Nat.reduceLT, c_ofNat, zkd58, zp_58_1 hP, zp_58_2 hP, zp_58_6 hP, zp_58_7 hP, zp_58_10 hP, zp_58_11 hP, zp_58_12 hP, zp_58_14 hP, zp_58_15 hP, zp_58_17 hP, zp_58_18 hP, zp_58_19 hP, zp_58_20 hP, zp_58_21 hP, zp_58_22 hP, zp_58_24 hP, zp_58_26 hP, zp_58_29 hP, zp_58_32 hP, zp_58_33 hP, zp_58_34 hP, zp_58_35 hP, zp_58_36 hP, zp_58_37 hP, zp_58_38 hP, zp_58_39 hP, zkd83, znd83, zfx83, e60, nI_add, n_cl (show 60 * s' + i' < 2 ^ 31 by omega), n_in (show 60 * s' + i' < 240 by omega) (show 240 < 2 ^ 31 by decide), b3 i' i1 (by omega), true_implies, not_true_eq_false, false_implies, and_true]
    exact h _ (zF_rf _ _) hM
  · rw [if_neg hz, if_neg hz] at h
    have hne := zft_ne hz
    simp only [w160_26, w160_29, w160_31, zk_sI, zk_sJ, zk_sP, zn_sI, zn_sJ, zn_sP, zI_sI, zI_sJ, zI_sP, zJ_sI, zJ_sJ, zJ_sP, zP_sI, zP_sJ, zP_sP, Option.toList_some, Option.toList_none, List.cons_append, List.nil_append, hne, not_false_eq_true, true_implies, false_implies, true_and]
    obtain ⟨x1, x2⟩ := zKM_f (v := zft q s' f i) hM
    exact h _ x1 x2
theorem M162 {s r : Int32} (hv : vQ q) (hP : zPk M) (hM : zKM q M) (h : ∀ M1, zDn M M1 → zKM (nShake q s r) M1 → Q (some (.int (aShake q s))) M1) : zC X 162 [.ref 58, .int s, .int r] M Q := by
  unfold nShake aShake at h
  rw [c162]
  simp only [w162_0, w162_1, zk_sI, zk_sJ, zk_sP, zn_sI, zn_sJ, zn_sP, zI_sI, zI_sJ, zI_sP, zJ_sI, zJ_sJ, zJ_sP, zP_sI, zP_sJ, zP_sP, Option.toList_some, Option.toList_none, List.cons_append, List.nil_append]
  refine s155 ?_
  simp only [w162_4, w162_7, w162_9, w162_10, zk_sI, zk_sJ, zk_sP, zn_sI, zn_sJ, zn_sP, zI_sI, zI_sJ, zI_sP, zJ_sI, zJ_sJ, zJ_sP, zP_sI, zP_sJ, zP_sP, Option.toList_some, Option.toList_none, List.cons_append, List.nil_append, zk_of hP.1, zn_of hP.1, zix, ziN, ne_eq, reduceCtorEq, not_false_eq_true, true_and, and_true, Option.getD_some, Nat.reduceLeDiff, Nat.reduceLT, c_ofNat, zkd58, zp_58_1 hP, zp_58_2 hP, zp_58_6 hP, zp_58_7 hP, zp_58_10 hP, zp_58_11 hP, zp_58_12 hP, zp_58_14 hP, zp_58_15 hP, zp_58_17 hP, zp_58_18 hP, zp_58_19 hP, zp_58_20 hP, zp_58_21 hP, zp_58_22 hP, zp_58_24 hP, zp_58_26 hP, zp_58_29 hP, zp_58_32 hP, zp_58_33 hP, zp_58_34 hP, zp_58_35 hP, zp_58_36 hP, zp_58_37 hP, zp_58_38 hP, zp_58_39 hP, zB_0]
  refine ⟨fun g => ?_, fun g => ?_⟩
  · have g := Classical.not_not.mp g
    rw [if_pos g, if_pos g] at h
    obtain ⟨s', s1, rfl⟩ := zin_o (n := 3) rfl (by decide) g
    rw [n_cl (by omega)] at h
    have hmS := hM.2.2.2.2.2.2.1
    obtain ⟨b1, b2, b3⟩ := hmS s' (by omega)
    have hvs := hv.2.2.2.2.2 s' (by omega)
    have x0 := n_cl (show s' < 2 ^ 31 by omega)
    have x1 := n_in (show s' < 4 by omega) (show 4 < 2 ^ 31 by decide)
    simp only [w162_10, w162_11, w162_14, w162_15, w162_16, w162_19, w162_20, w162_21, w162_24, w162_25, w162_26, w162_27, w162_28, zk_sI, zk_sJ, zk_sP, zn_sI, zn_sJ, zn_sP, zI_sI, zI_sJ, zI_sP, zJ_sI, zJ_sJ, zJ_sP, zP_sI, zP_sJ, zP_sP, Option.toList_some, Option.toList_none, List.cons_append, List.nil_append, zk_of hP.1, zn_of hP.1, zix, ziN, ne_eq, reduceCtorEq, not_false_eq_true, true_and, and_true, Option.getD_some, Nat.reduceLeDiff, Nat.reduceLT, c_ofNat, zkd58, zp_58_1 hP, zp_58_2 hP, zp_58_6 hP, zp_58_7 hP, zp_58_10 hP, zp_58_11 hP, zp_58_12 hP, zp_58_14 hP, zp_58_15 hP, zp_58_17 hP, zp_58_18 hP, zp_58_19 hP, zp_58_20 hP, zp_58_21 hP, zp_58_22 hP, zp_58_24 hP, zp_58_26 hP, zp_58_29 hP, zp_58_32 hP, zp_58_33 hP, zp_58_34 hP, zp_58_35 hP, zp_58_36 hP, zp_58_37 hP, zp_58_38 hP, zp_58_39 hP, zkd81, znd81, zfx81, zkd82, znd82, zfx82, x0, x1, b1]
    refine ⟨fun g2 => ?_, fun g2 => ?_⟩
    · have g2' : ¬ (qS q).1 s' < 0 := Int32.not_lt.mpr g2
      rw [if_neg g2', if_neg g2'] at h
      have loop : ∀ (m i : Nat) (M1 : zf_M), i + m = (qS q).2.1 s' → zF (fun c => c = 83) M M1 → (∀ j, j < i → zf_I M1 83 (60 * s' + j) = zrv (zrs r (j + 1))) → (∀ j, j < 60 * s' ∨ 60 * s' + 60 ≤ j → zf_I M1 83 j = zf_I M 83 j) → zW X 162 30 [.val (.ref 58), .val (.int (nI s')), .val (.int r), .val (.int (zrs r i)), .val (.int (nI i))] [] M1 Q := by
        intro m
        induction m with
        | zero =>
          intro i M1 hi hF y1 y2
          obtain rfl : i = (qS q).2.1 s' := by omega
          have hP1 := zPk_F hP hF
          have c2 : zf_I M1 82 s' = nI ((qS q).2.1 s') := by rw [(hF.2.1 82 (by omega) s').1]; exact b2
          have hfin := h M1 (zF_mo hF (fun c hc => by omega)) (zKM_S hM (fun c j kc k => (hF.2.1 c (by omega) j).1) (mS_up (s := s') hmS (by omega) (fun t ht => ⟨(hF.2.1 81 (by omega) t).1, (hF.2.1 82 (by omega) t).1⟩) y2 (fun t ht => ⟨rfl, rfl, zud_neq ht⟩) (by rw [(hF.2.1 81 (by omega) s').1]; exact b1) c2 (fun j hj hj6 => by rw [zud_eq]; exact y1 j hj)))
          rw [w162_30]
          simp only [w162_32, w162_33, w162_36, w162_37, w162_38, w162_41, w162_44, w162_45, w162_46, w162_49, w162_50, w162_51, w162_52, w162_55, w162_57, w162_58, w162_59, w162_61, w162_62, w162_63, w162_64, w162_66, w162_67, w162_69, w162_70, w162_71, w162_72, w162_75, w162_78, w162_79, w162_82, w162_83, w162_84, zk_sI, zk_sJ, zk_sP, zn_sI, zn_sJ, zn_sP, zI_sI, zI_sJ, zI_sP, zJ_sI, zJ_sJ, zJ_sP, zP_sI, zP_sJ, zP_sP, Option.toList_some, Option.toList_none, List.cons_append, List.nil_append, zk_of hP1.1, zn_of hP1.1, zix, ziN, ne_eq, reduceCtorEq, not_false_eq_true, true_and, and_true, Option.getD_some, Nat.reduceLeDiff, Nat.reduceLT, c_ofNat, zkd58, zp_58_1 hP1, zp_58_2 hP1, zp_58_6 hP1, zp_58_7 hP1, zp_58_10 hP1, zp_58_11 hP1, zp_58_12 hP1, zp_58_14 hP1, zp_58_15 hP1, zp_58_17 hP1, zp_58_18 hP1, zp_58_19 hP1, zp_58_20 hP1, zp_58_21 hP1, zp_58_22 hP1, zp_58_24 hP1, zp_58_26 hP1, zp_58_29 hP1, zp_58_32 hP1, zp_58_33 hP1, zp_58_34 hP1, zp_58_35 hP1, zp_58_36 hP1, zp_58_37 hP1, zp_58_38 hP1, zp_58_39 hP1, zkd82, znd82, zfx82, x0, x1, c2, Int32.le_refl, true_implies, not_true_eq_false, false_implies, and_true]
          exact hfin
        | succ m ih =>
          intro i M1 hi hF y1 y2
          have hP1 := zPk_F hP hF
          have c2 : zf_I M1 82 s' = nI ((qS q).2.1 s') := by rw [(hF.2.1 82 (by omega) s').1]; exact b2
          have e60 : (60 : Int32) * nI s' = nI (60 * s') := pk_mul 60 s'
          have ers : 1103515245 * zrs r i + 12345 = zrs r (i + 1) := rfl
          have erq : ((zrs r (i + 1)).toUInt32 >>> (Int32.toUInt32 16 &&& Int32.toUInt32 31)).toInt32 = zrq (zrs r (i + 1)) := rfl
          have erv : 1 + (zrq (zrs r (i + 1)) - zrq (zrs r (i + 1)) / 6 * 6) = zrv (zrs r (i + 1)) := rfl
          have n60 : ¬ (6 : Int32) = 0 := by decide
          rw [w162_30]
          simp only [w162_32, w162_33, w162_36, w162_37, w162_38, w162_41, w162_44, w162_45, w162_46, w162_49, w162_50, w162_51, w162_52, w162_55, w162_57, w162_58, w162_59, w162_61, w162_62, w162_63, w162_64, w162_66, w162_67, w162_69, w162_70, w162_71, w162_72, w162_75, zk_sI, zk_sJ, zk_sP, zn_sI, zn_sJ, zn_sP, zI_sI, zI_sJ, zI_sP, zJ_sI, zJ_sJ, zJ_sP, zP_sI, zP_sJ, zP_sP, Option.toList_some, Option.toList_none, List.cons_append, List.nil_append, zk_of hP1.1, zn_of hP1.1, zix, ziN, ne_eq, reduceCtorEq, not_false_eq_true, true_and, and_true, Option.getD_some, Nat.reduceLeDiff, Nat.reduceLT, c_ofNat, zkd58, zp_58_1 hP1, zp_58_2 hP1, zp_58_6 hP1, zp_58_7 hP1, zp_58_10 hP1, zp_58_11 hP1, zp_58_12 hP1, zp_58_14 hP1, zp_58_15 hP1, zp_58_17 hP1, zp_58_18 hP1, zp_58_19 hP1, zp_58_20 hP1, zp_58_21 hP1, zp_58_22 hP1, zp_58_24 hP1, zp_58_26 hP1, zp_58_29 hP1, zp_58_32 hP1, zp_58_33 hP1, zp_58_34 hP1, zp_58_35 hP1, zp_58_36 hP1, zp_58_37 hP1, zp_58_38 hP1, zp_58_39 hP1, zkd82, znd82, zfx82, zkd83, znd83, zfx83, x0, x1, c2, ers, erq, erv, e60, nI_add, n_a1, n60, not_false_eq_true, true_and, n_cl (show 60 * s' + i < 2 ^ 31 by omega), n_in (show 60 * s' + i < 240 by omega) (show 240 < 2 ^ 31 by decide)]
          rw [n_le (by omega) (by omega)]
          refine ⟨fun z => by omega, fun _ => ih (i + 1) _ (by omega) (zF_sI hF rfl) (fun j hj => ?_) (fun j hj => ?_)⟩
          · by_cases e : j = i
            · rw [e, zI_eq]
            · rw [zI_ne (by omega)]
              exact y1 j (by omega)
          · rw [zI_ne (by omega)]
            exact y2 j hj
      exact loop ((qS q).2.1 s') 0 M (Nat.zero_add _) (zF_rf _ _) (fun j hj => by omega) (fun _ _ => rfl)
    · have g2' : (qS q).1 s' < 0 := Int32.not_le.mp g2
      rw [if_pos g2', if_pos g2'] at h
      refine s154 hP ?_
      simp only [w162_24, zk_sI, zk_sJ, zk_sP, zn_sI, zn_sJ, zn_sP, zI_sI, zI_sJ, zI_sP, zJ_sI, zJ_sJ, zJ_sP, zP_sI, zP_sJ, zP_sP, Option.toList_some, Option.toList_none, List.cons_append, List.nil_append]
      obtain ⟨x1, x2⟩ := zKM_f (v := 1) hM
      exact h _ x1 x2
  · have := h M (zF_rf _ _)
    rw [if_neg (fun z => g (fun y => y z)), if_neg (fun z => g (fun y => y z))] at this
    exact this hM
/-- sums in longs -/
theorem run_l {i n z : Nat} (hi : i < 2 ^ 31) (hn : n < 2 ^ 31) (hz : z ≤ 60) : ((nI i).toInt64 + (nI n).toInt64 ≤ (nI z).toInt64) = (i + n ≤ z) := by
  rw [nI_l hi, nI_l hn, nI_l (by omega), lN_add, pk_lLE (by omega) (by omega)]
theorem M161 {s i t j n : Int32} (hv : vQ q) (hP : zPk M) (hM : zKM q M) (h : ∀ M1, zDn M M1 → zKM (nCopy q s i t j n) M1 → Q (some (.int (aCopy q s i t j n))) M1) : zC X 161 [.ref 58, .int s, .int i, .int t, .int j, .int n] M Q := by
  unfold nCopy aCopy at h
  have h0 : ¬ bCopy s t → Q (some (.int (-2))) M := by
    intro g
    have := h M (zF_rf _ _)
    rw [if_neg g, if_neg g] at this
    exact this hM
  have nn : ∀ {x : Prop}, ¬ ¬ x → x := Classical.not_not.mp
  rw [c161]
  simp only [w161_0, w161_1, zk_sI, zk_sJ, zk_sP, zn_sI, zn_sJ, zn_sP, zI_sI, zI_sJ, zI_sP, zJ_sI, zJ_sJ, zJ_sP, zP_sI, zP_sJ, zP_sP, Option.toList_some, Option.toList_none, List.cons_append, List.nil_append]
  refine s155 ?_
  simp only [w161_4, w161_7, w161_8, w161_14, w161_16, zk_sI, zk_sJ, zk_sP, zn_sI, zn_sJ, zn_sP, zI_sI, zI_sJ, zI_sP, zJ_sI, zJ_sJ, zJ_sP, zP_sI, zP_sJ, zP_sP, Option.toList_some, Option.toList_none, List.cons_append, List.nil_append, zB_0]
  refine ⟨fun g => h0 (fun z => g z.1), fun g1 => ?_⟩
  refine s155 ?_
  simp only [w161_11, w161_14, w161_16, w161_17, zk_sI, zk_sJ, zk_sP, zn_sI, zn_sJ, zn_sP, zI_sI, zI_sJ, zI_sP, zJ_sI, zJ_sJ, zJ_sP, zP_sI, zP_sJ, zP_sP, Option.toList_some, Option.toList_none, List.cons_append, List.nil_append, zk_of hP.1, zn_of hP.1, zix, ziN, ne_eq, reduceCtorEq, not_false_eq_true, true_and, and_true, Option.getD_some, Nat.reduceLeDiff, Nat.reduceLT, c_ofNat, zkd58, zp_58_1 hP, zp_58_2 hP, zp_58_6 hP, zp_58_7 hP, zp_58_10 hP, zp_58_11 hP, zp_58_12 hP, zp_58_14 hP, zp_58_15 hP, zp_58_17 hP, zp_58_18 hP, zp_58_19 hP, zp_58_20 hP, zp_58_21 hP, zp_58_22 hP, zp_58_24 hP, zp_58_26 hP, zp_58_29 hP, zp_58_32 hP, zp_58_33 hP, zp_58_34 hP, zp_58_35 hP, zp_58_36 hP, zp_58_37 hP, zp_58_38 hP, zp_58_39 hP, zB_0]
  refine ⟨fun g2 => ?_, fun g => h0 (fun z => g (fun y => y z.2))⟩
  have hb : bCopy s t := ⟨nn g1, nn g2⟩
  rw [if_pos hb, if_pos hb] at h
  obtain ⟨s', s1, rfl⟩ := zin_o (n := 3) rfl (by decide) hb.1
  obtain ⟨t', t1, rfl⟩ := zin_o (n := 3) rfl (by decide) hb.2
  rw [n_cl (by omega), n_cl (by omega)] at h
  have hmS := hM.2.2.2.2.2.2.1
  obtain ⟨b1, b2, b3⟩ := hmS s' (by omega)
  obtain ⟨d1, d2, d3⟩ := hmS t' (by omega)
  have hvs := (hv.2.2.2.2.2 s' (by omega)).1
  have hvt := (hv.2.2.2.2.2 t' (by omega)).1
  have x0 := n_cl (show s' < 2 ^ 31 by omega)
  have x1 := n_in (show s' < 4 by omega) (show 4 < 2 ^ 31 by decide)
  have y0 := n_cl (show t' < 2 ^ 31 by omega)
  have y1 := n_in (show t' < 4 by omega) (show 4 < 2 ^ 31 by decide)
  have fl : ∀ v, zfc q s' t' i j n = v → v ≠ 0 → ∀ pc ls, (∀ M1, zW X 161 pc ls [.int (-10 - v)] M1 Q ↔ Q (some (.int (-10 - v))) M1) → zC X 154 [.ref 58, .int v] M (fun w M2 => zW X 161 pc ls (w.toList ++ []) M2 Q) := by
    intro v hvv hv0 pc ls hpc
    refine s154 hP ?_
    show zW X 161 pc ls (.int (-10 - v) :: []) _ Q
    rw [hpc]
    rw [hvv, if_neg hv0, if_neg hv0] at h
    obtain ⟨x1, x2⟩ := zKM_f (v := v) hM
    exact h _ x1 x2
  simp only [w161_17, w161_18, w161_21, w161_22, w161_23, w161_26, w161_27, w161_30, w161_31, w161_32, zk_sI, zk_sJ, zk_sP, zn_sI, zn_sJ, zn_sP, zI_sI, zI_sJ, zI_sP, zJ_sI, zJ_sJ, zJ_sP, zP_sI, zP_sJ, zP_sP, Option.toList_some, Option.toList_none, List.cons_append, List.nil_append, zk_of hP.1, zn_of hP.1, zix, ziN, ne_eq, reduceCtorEq, not_false_eq_true, true_and, and_true, Option.getD_some, Nat.reduceLeDiff, Nat.reduceLT, c_ofNat, zkd58, zp_58_1 hP, zp_58_2 hP, zp_58_6 hP, zp_58_7 hP, zp_58_10 hP, zp_58_11 hP, zp_58_12 hP, zp_58_14 hP, zp_58_15 hP, zp_58_17 hP, zp_58_18 hP, zp_58_19 hP, zp_58_20 hP, zp_58_21 hP, zp_58_22 hP, zp_58_24 hP, zp_58_26 hP, zp_58_29 hP, zp_58_32 hP, zp_58_33 hP, zp_58_34 hP, zp_58_35 hP, zp_58_36 hP, zp_58_37 hP, zp_58_38 hP, zp_58_39 hP, zkd81, znd81, zfx81, x0, x1, y0, y1, b1, d1]
  have F1 : ((qS q).1 s' < 0 ∨ (qS q).1 t' < 0) → ∀ l1 l2 l3 l4 l5 l6, zW X 161 35 [.val (.ref 58), l1, l2, l3, l4, l5, l6] [] M Q := by
    intro g l1 l2 l3 l4 l5 l6
    simp only [w161_35, w161_36, w161_37, zk_sI, zk_sJ, zk_sP, zn_sI, zn_sJ, zn_sP, zI_sI, zI_sJ, zI_sP, zJ_sI, zJ_sJ, zJ_sP, zP_sI, zP_sJ, zP_sP, Option.toList_some, Option.toList_none, List.cons_append, List.nil_append, zk_of hP.1, zn_of hP.1, zix, ziN, ne_eq, reduceCtorEq, not_false_eq_true, true_and, and_true, Option.getD_some, Nat.reduceLeDiff, Nat.reduceLT, c_ofNat, zkd58, zp_58_1 hP, zp_58_2 hP, zp_58_6 hP, zp_58_7 hP, zp_58_10 hP, zp_58_11 hP, zp_58_12 hP, zp_58_14 hP, zp_58_15 hP, zp_58_17 hP, zp_58_18 hP, zp_58_19 hP, zp_58_20 hP, zp_58_21 hP, zp_58_22 hP, zp_58_24 hP, zp_58_26 hP, zp_58_29 hP, zp_58_32 hP, zp_58_33 hP, zp_58_34 hP, zp_58_35 hP, zp_58_36 hP, zp_58_37 hP, zp_58_38 hP, zp_58_39 hP]
    exact fl 1 (by unfold zfc; rw [if_pos g]) (by decide) 40 _ (fun _ => w161_40)
  have F2 : ¬ ((qS q).1 s' < 0 ∨ (qS q).1 t' < 0) → zW X 161 41 [.val (.ref 58), .val (.int (nI s')), .val (.int i), .val (.int (nI t')), .val (.int j), .val (.int n), .unset] [] M Q := by
    intro g
    simp only [w161_41, w161_42, w161_45, w161_46, w161_47, w161_48, w161_51, w161_52, w161_53, w161_56, w161_57, w161_58, zk_sI, zk_sJ, zk_sP, zn_sI, zn_sJ, zn_sP, zI_sI, zI_sJ, zI_sP, zJ_sI, zJ_sJ, zJ_sP, zP_sI, zP_sJ, zP_sP, Option.toList_some, Option.toList_none, List.cons_append, List.nil_append, zk_of hP.1, zn_of hP.1, zix, ziN, ne_eq, reduceCtorEq, not_false_eq_true, true_and, and_true, Option.getD_some, Nat.reduceLeDiff, Nat.reduceLT, c_ofNat, zkd58, zp_58_1 hP, zp_58_2 hP, zp_58_6 hP, zp_58_7 hP, zp_58_10 hP, zp_58_11 hP, zp_58_12 hP, zp_58_14 hP, zp_58_15 hP, zp_58_17 hP, zp_58_18 hP, zp_58_19 hP, zp_58_20 hP, zp_58_21 hP, zp_58_22 hP, zp_58_24 hP, zp_58_26 hP, zp_58_29 hP, zp_58_32 hP, zp_58_33 hP, zp_58_34 hP, zp_58_35 hP, zp_58_36 hP, zp_58_37 hP, zp_58_38 hP, zp_58_39 hP, zkd81, znd81, zfx81, x0, x1, y0, y1, b1, d1]
    refine ⟨fun g2 => ?_, fun g2 => fl 4 (by unfold zfc; rw [if_neg g, if_pos g2]) (by decide) 61 _ (fun _ => w161_61)⟩
    have F4 : ¬ ((0 ≤ i ∧ 0 ≤ n ∧ i.toInt + n.toInt ≤ ((qS q).2.1 s' : Int)) ∧ (0 ≤ j ∧ 0 ≤ n ∧ j.toInt + n.toInt ≤ ((qS q).2.1 t' : Int))) → ∀ l1 l2 l3 l4 l5 l6, zW X 161 111 [.val (.ref 58), l1, l2, l3, l4, l5, l6] [] M Q := by
      intro g3 l1 l2 l3 l4 l5 l6
      simp only [w161_111, w161_112, w161_113, zk_sI, zk_sJ, zk_sP, zn_sI, zn_sJ, zn_sP, zI_sI, zI_sJ, zI_sP, zJ_sI, zJ_sJ, zJ_sP, zP_sI, zP_sJ, zP_sP, Option.toList_some, Option.toList_none, List.cons_append, List.nil_append, zk_of hP.1, zn_of hP.1, zix, ziN, ne_eq, reduceCtorEq, not_false_eq_true, true_and, and_true, Option.getD_some, Nat.reduceLeDiff, Nat.reduceLT, c_ofNat, zkd58, zp_58_1 hP, zp_58_2 hP, zp_58_6 hP, zp_58_7 hP, zp_58_10 hP, zp_58_11 hP, zp_58_12 hP, zp_58_14 hP, zp_58_15 hP, zp_58_17 hP, zp_58_18 hP, zp_58_19 hP, zp_58_20 hP, zp_58_21 hP, zp_58_22 hP, zp_58_24 hP, zp_58_26 hP, zp_58_29 hP, zp_58_32 hP, zp_58_33 hP, zp_58_34 hP, zp_58_35 hP, zp_58_36 hP, zp_58_37 hP, zp_58_38 hP, zp_58_39 hP]
      exact fl 2 (by unfold zfc; rw [if_neg g, if_neg (fun z => z g2), if_neg g3]) (by decide) 116 _ (fun _ => w161_116)
    simp only [w161_62, w161_63, w161_66, w161_68, w161_71, w161_73, w161_76, w161_77, w161_78, w161_80, w161_81, w161_82, w161_83, w161_86, w161_87, w161_88, w161_89, w161_90, w161_93, w161_95, w161_96, w161_98, w161_99, w161_100, w161_101, w161_104, w161_105, w161_106, w161_107, w161_108, zk_sI, zk_sJ, zk_sP, zn_sI, zn_sJ, zn_sP, zI_sI, zI_sJ, zI_sP, zJ_sI, zJ_sJ, zJ_sP, zP_sI, zP_sJ, zP_sP, Option.toList_some, Option.toList_none, List.cons_append, List.nil_append, zk_of hP.1, zn_of hP.1, zix, ziN, ne_eq, reduceCtorEq, not_false_eq_true, true_and, and_true, Option.getD_some, Nat.reduceLeDiff, Nat.reduceLT, c_ofNat, zkd58, zp_58_1 hP, zp_58_2 hP, zp_58_6 hP, zp_58_7 hP, zp_58_10 hP, zp_58_11 hP, zp_58_12 hP, zp_58_14 hP, zp_58_15 hP, zp_58_17 hP, zp_58_18 hP, zp_58_19 hP, zp_58_20 hP, zp_58_21 hP, zp_58_22 hP, zp_58_24 hP, zp_58_26 hP, zp_58_29 hP, zp_58_32 hP, zp_58_33 hP, zp_58_34 hP, zp_58_35 hP, zp_58_36 hP, zp_58_37 hP, zp_58_38 hP, zp_58_39 hP, zkd82, znd82, zfx82, x0, x1, y0, y1, b2, d2, lc_gt, lc_le]
    refine ⟨fun z => F4 (fun y => Int32.not_lt.mpr y.1.1 z) _ _ _ _ _ _, fun gi => ⟨fun z => F4 (fun y => Int32.not_lt.mpr y.2.1 z) _ _ _ _ _ _, fun gj => ⟨fun z => F4 (fun y => Int32.not_lt.mpr y.1.2.1 z) _ _ _ _ _ _, fun gn => ?_⟩⟩⟩
    obtain ⟨i', i1, rfl⟩ := nI_of gi
    obtain ⟨j', j1, rfl⟩ := nI_of gj
    obtain ⟨n', n1, rfl⟩ := nI_of gn
    have r1 : ((nI ((qS q).2.1 s')).toInt64 < (nI i').toInt64 + (nI n').toInt64) = ¬ (i' + n' ≤ (qS q).2.1 s') := by rw [← run_l i1 n1 hvs, Int64.not_le]
    have r2 := run_l j1 n1 hvt
    have e1 : (0 ≤ nI i' ∧ 0 ≤ nI n' ∧ (nI i').toInt + (nI n').toInt ≤ ((qS q).2.1 s' : Int)) ↔ i' + n' ≤ (qS q).2.1 s' := by
      rw [nI_toInt i1, nI_toInt n1]
      exact ⟨fun z => by have := z.2.2; omega, fun z => ⟨nI_pos' i1, nI_pos' n1, by omega⟩⟩
    have e2 : (0 ≤ nI j' ∧ 0 ≤ nI n' ∧ (nI j').toInt + (nI n').toInt ≤ ((qS q).2.1 t' : Int)) ↔ j' + n' ≤ (qS q).2.1 t' := by
      rw [nI_toInt j1, nI_toInt n1]
      exact ⟨fun z => by have := z.2.2; omega, fun z => ⟨nI_pos' j1, nI_pos' n1, by omega⟩⟩
    rw [r1, r2]
    refine ⟨fun z => F4 (fun y => z (e1.mp y.1)) _ _ _ _ _ _, fun hin => ⟨fun hjn => ?_, fun z => F4 (fun y => z (e2.mp y.2)) _ _ _ _ _ _⟩⟩
    have hin := nn hin
    have hz : zfc q s' t' (nI i') (nI j') (nI n') = 0 := by
      unfold zfc
      rw [if_neg g, if_neg (fun z => z g2), if_pos ⟨e1.mpr hin, e2.mpr hjn⟩]
    rw [if_pos hz, if_pos hz, n_cl i1, n_cl j1, n_cl n1] at h
    have e60 : ∀ a, (60 : Int32) * nI a = nI (60 * a) := fun a => pk_mul 60 a
    have loop2 : ∀ (m x : Nat) (M1 : zf_M), x + m = n' → zF (fun c => c = 83 ∨ c = 84) M M1 → (∀ y, y < n' → zf_I M1 84 y = (qS q).2.2 s' (i' + y)) → (∀ y, y < x → zf_I M1 83 (60 * t' + j' + y) = (qS q).2.2 s' (i' + y)) → (∀ k, k < 60 * t' + j' ∨ 60 * t' + j' + x ≤ k → zf_I M1 83 k = zf_I M 83 k) → zW X 161 157 [.val (.ref 58), .val (.int (nI s')), .val (.int (nI i')), .val (.int (nI t')), .val (.int (nI j')), .val (.int (nI n')), .val (.int (nI x))] [] M1 Q := by
      intro m
      induction m with
      | zero =>
        intro x M1 hx hF z1 z2 z3
        obtain rfl : x = n' := by omega
        rw [w161_157]
        simp only [w161_159, w161_161, w161_164, w161_165, w161_168, w161_170, w161_171, w161_172, w161_174, w161_175, w161_177, w161_178, w161_179, w161_182, w161_184, w161_185, w161_186, w161_189, w161_192, w161_193, zk_sI, zk_sJ, zk_sP, zn_sI, zn_sJ, zn_sP, zI_sI, zI_sJ, zI_sP, zJ_sI, zJ_sJ, zJ_sP, zP_sI, zP_sJ, zP_sP, Option.toList_some, Option.toList_none, List.cons_append, List.nil_append, Int32.le_refl, true_implies, not_true_eq_false, false_implies, and_true]
        refine h M1 (zF_mo hF (fun c hc => by omega)) (zKM_S hM (fun c j kc k => (hF.2.1 c (by unfold kM at kc; omega) j).1) (mS_up (s := t') hmS (by omega) (fun u hu => ⟨(hF.2.1 81 (by omega) u).1, (hF.2.1 82 (by omega) u).1⟩) (fun k hk => z3 k (by omega)) (fun u hu => ⟨rfl, rfl, zud_neq hu⟩) (by rw [(hF.2.1 81 (by omega) t').1]; exact d1) (by rw [(hF.2.1 82 (by omega) t').1]; exact d2) (fun k hk hk6 => ?_)))
        rw [zud_eq]
        unfold zcy
        by_cases e : j' ≤ k ∧ k < j' + x
        · rw [if_pos e]
          have := z2 (k - j') (by omega)
          rw [show 60 * t' + j' + (k - j') = 60 * t' + k by omega] at this
          exact this
        · rw [if_neg e, z3 _ (by omega)]
          exact d3 k hk hk6
      | succ m ih =>
        intro x M1 hx hF z1 z2 z3
        have hP1 := zPk_F hP hF
        rw [w161_157]
        simp only [w161_159, w161_161, w161_164, w161_165, w161_168, w161_170, w161_171, w161_172, w161_174, w161_175, w161_177, w161_178, w161_179, w161_182, w161_184, w161_185, w161_186, w161_189, zk_sI, zk_sJ, zk_sP, zn_sI, zn_sJ, zn_sP, zI_sI, zI_sJ, zI_sP, zJ_sI, zJ_sJ, zJ_sP, zP_sI, zP_sJ, zP_sP, Option.toList_some, Option.toList_none, List.cons_append, List.nil_append, zk_of hP1.1, zn_of hP1.1, zix, ziN, ne_eq, reduceCtorEq, not_false_eq_true, true_and, and_true, Option.getD_some, Nat.reduceLeDiff, Nat.reduceLT, c_ofNat, zkd58, zp_58_1 hP1, zp_58_2 hP1, zp_58_6 hP1, zp_58_7 hP1, zp_58_10 hP1, zp_58_11 hP1, zp_58_12 hP1, zp_58_14 hP1, zp_58_15 hP1, zp_58_17 hP1, zp_58_18 hP1, zp_58_19 hP1, zp_58_20 hP1, zp_58_21 hP1, zp_58_22 hP1, zp_58_24 hP1, zp_58_26 hP1, zp_58_29 hP1, zp_58_32 hP1, zp_58_33 hP1, zp_58_34 hP1, zp_58_35 hP1, zp_58_36 hP1, zp_58_37 hP1, zp_58_38 hP1, zp_58_39 hP1, zkd83, znd83, zfx83, zkd84, znd84, zfx84, e60, nI_add, n_a1, n_cl (show 60 * t' + j' + x < 2 ^ 31 by omega), n_in (show 60 * t' + j' + x < 240 by omega) (show 240 < 2 ^ 31 by decide), n_cl (show x < 2 ^ 31 by omega), n_in (show x < 60 by omega) (show 60 < 2 ^ 31 by decide), z1 x (by omega)]
        rw [n_le (by omega) (by omega)]
        refine ⟨fun z => by omega, fun _ => ih (x + 1) _ (by omega) (zF_sI hF (Or.inl rfl)) (fun y hy => ?_) (fun y hy => ?_) (fun k hk => ?_)⟩
        · rw [zI_ne (by omega)]
          exact z1 y hy
        · by_cases e : y = x
          · rw [e, zI_eq]
          · rw [zI_ne (by omega)]
            exact z2 y (by omega)
        · rw [zI_ne (by omega)]
          exact z3 k (by omega)
    have loop1 : ∀ (m x : Nat) (M1 : zf_M), x + m = n' → zF (fun c => c = 84) M M1 → (∀ y, y < x → zf_I M1 84 y = (qS q).2.2 s' (i' + y)) → zW X 161 120 [.val (.ref 58), .val (.int (nI s')), .val (.int (nI i')), .val (.int (nI t')), .val (.int (nI j')), .val (.int (nI n')), .val (.int (nI x))] [] M1 Q := by
      intro m
      induction m with
      | zero =>
        intro x M1 hx hF z1
        obtain rfl : x = n' := by omega
        rw [w161_120]
        simp only [w161_122, w161_124, w161_127, w161_128, w161_131, w161_133, w161_134, w161_137, w161_139, w161_140, w161_141, w161_142, w161_143, w161_145, w161_146, w161_147, w161_148, w161_151, w161_154, w161_155, zk_sI, zk_sJ, zk_sP, zn_sI, zn_sJ, zn_sP, zI_sI, zI_sJ, zI_sP, zJ_sI, zJ_sJ, zJ_sP, zP_sI, zP_sJ, zP_sP, Option.toList_some, Option.toList_none, List.cons_append, List.nil_append, Int32.le_refl, true_implies, not_true_eq_false, false_implies, and_true]
        exact loop2 x 0 M1 (Nat.zero_add _) (zF_mo hF (fun c hc => Or.inr hc)) z1 (fun y hy => by omega) (fun k _ => (hF.2.1 83 (by omega) k).1)
      | succ m ih =>
        intro x M1 hx hF z1
        have hP1 := zPk_F hP hF
        have e83 : zf_I M1 83 (60 * s' + i' + x) = (qS q).2.2 s' (i' + x) := by
          rw [(hF.2.1 83 (by omega) _).1, show 60 * s' + i' + x = 60 * s' + (i' + x) by omega]
          exact b3 (i' + x) (by omega) (by omega)
        rw [w161_120]
        simp only [w161_122, w161_124, w161_127, w161_128, w161_131, w161_133, w161_134, w161_137, w161_139, w161_140, w161_141, w161_142, w161_143, w161_145, w161_146, w161_147, w161_148, w161_151, zk_sI, zk_sJ, zk_sP, zn_sI, zn_sJ, zn_sP, zI_sI, zI_sJ, zI_sP, zJ_sI, zJ_sJ, zJ_sP, zP_sI, zP_sJ, zP_sP, Option.toList_some, Option.toList_none, List.cons_append, List.nil_append, zk_of hP1.1, zn_of hP1.1, zix, ziN, ne_eq, reduceCtorEq, not_false_eq_true, true_and, and_true, Option.getD_some, Nat.reduceLeDiff, Nat.reduceLT, c_ofNat, zkd58, zp_58_1 hP1, zp_58_2 hP1, zp_58_6 hP1, zp_58_7 hP1, zp_58_10 hP1, zp_58_11 hP1, zp_58_12 hP1, zp_58_14 hP1, zp_58_15 hP1, zp_58_17 hP1, zp_58_18 hP1, zp_58_19 hP1, zp_58_20 hP1, zp_58_21 hP1, zp_58_22 hP1, zp_58_24 hP1, zp_58_26 hP1, zp_58_29 hP1, zp_58_32 hP1, zp_58_33 hP1, zp_58_34 hP1, zp_58_35 hP1, zp_58_36 hP1, zp_58_37 hP1, zp_58_38 hP1, zp_58_39 hP1, zkd83, znd83, zfx83, zkd84, znd84, zfx84, e60, nI_add, n_a1, n_cl (show 60 * s' + i' + x < 2 ^ 31 by omega), n_in (show 60 * s' + i' + x < 240 by omega) (show 240 < 2 ^ 31 by decide), n_cl (show x < 2 ^ 31 by omega), n_in (show x < 60 by omega) (show 60 < 2 ^ 31 by decide), e83]
        rw [n_le (by omega) (by omega)]
        refine ⟨fun z => by omega, fun _ => ih (x + 1) _ (by omega) (zF_sI hF rfl) (fun y hy => ?_)⟩
        by_cases e : y = x
        · rw [e, zI_eq]
        · rw [zI_ne (by omega)]
          exact z1 y (by omega)
    simp only [w161_117, w161_118, zk_sI, zk_sJ, zk_sP, zn_sI, zn_sJ, zn_sP, zI_sI, zI_sJ, zI_sP, zJ_sI, zJ_sJ, zJ_sP, zP_sI, zP_sJ, zP_sP, Option.toList_some, Option.toList_none, List.cons_append, List.nil_append]
    exact loop1 n' 0 M (Nat.zero_add _) (zF_rf _ _) (fun y hy => by omega)
  exact ⟨fun g => F1 (Or.inl g) _ _ _ _ _ _, fun g => ⟨fun g2 => F2 (fun z => z.elim g (fun y => Int32.not_lt.mpr g2 y)), fun g2 => F1 (Or.inr (Int32.not_le.mp g2)) _ _ _ _ _ _⟩⟩
end ZMp2
