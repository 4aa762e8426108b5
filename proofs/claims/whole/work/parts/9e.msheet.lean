/-! ===== sheets: the model's ===== -/
section ZMs2
variable {X : zf_X} {M : zf_M} {Q : Option Value → zf_M → Prop} {q : tQ}
theorem s155 {s : Int32} (h : Q (some (.int (zB (zin s 0 3)))) M) : zC X 155 [.int s] M Q := by
  rw [c155]
  simp only [w155_0, w155_1, w155_2, w155_3, w155_6, w155_9, zk_sI, zk_sJ, zk_sP, zn_sI, zn_sJ, zn_sP, zI_sI, zI_sJ, zI_sP, zJ_sI, zJ_sJ, zJ_sP, zP_sI, zP_sJ, zP_sP, Option.toList_some, Option.toList_none, List.cons_append, List.nil_append]
  refine s103i 0 3 rfl rfl ?_
  simp only [w155_0, w155_1, w155_2, w155_3, w155_6, w155_9, zk_sI, zk_sJ, zk_sP, zn_sI, zn_sJ, zn_sP, zI_sI, zI_sJ, zI_sP, zJ_sI, zJ_sJ, zJ_sP, zP_sI, zP_sJ, zP_sP, Option.toList_some, Option.toList_none, List.cons_append, List.nil_append]
  exact ⟨zB_nar, h⟩
theorem s154 {v : Int32} (hP : zPk M) (h : Q (some (.int (-10 - v))) (zf_sI M 58 40 v)) : zC X 154 [.ref 58, .int v] M Q := by
  rw [c154]
  simp only [w154_0, w154_1, w154_2, w154_5, w154_7, w154_8, w154_9, zk_sI, zk_sJ, zk_sP, zn_sI, zn_sJ, zn_sP, zI_sI, zI_sJ, zI_sP, zJ_sI, zJ_sJ, zJ_sP, zP_sI, zP_sJ, zP_sP, Option.toList_some, Option.toList_none, List.cons_append, List.nil_append, zk_of hP.1, zn_of hP.1, zix, ziN, ne_eq, reduceCtorEq, not_false_eq_true, true_and, and_true, Option.getD_some, Nat.reduceLeDiff, Nat.reduceLT, c_ofNat, zkd58, zp_58_1 hP, zp_58_2 hP, zp_58_6 hP, zp_58_7 hP, zp_58_10 hP, zp_58_11 hP, zp_58_12 hP, zp_58_14 hP, zp_58_15 hP, zp_58_17 hP, zp_58_18 hP, zp_58_19 hP, zp_58_20 hP, zp_58_21 hP, zp_58_22 hP, zp_58_24 hP, zp_58_26 hP, zp_58_29 hP, zp_58_32 hP, zp_58_33 hP, zp_58_34 hP, zp_58_35 hP, zp_58_36 hP, zp_58_37 hP, zp_58_38 hP, zp_58_39 hP]
  exact h
theorem zKM_f {v : Int32} (hM : zKM q M) : zDn M (zf_sI M 58 40 v) ∧ zKM (uF q v) (zf_sI M 58 40 v) :=
  ⟨zF_sI (zF_rf _ _) (by omega), zKM_F hM (fun c j _ k => zI_ne (by omega)) zI_eq⟩
theorem mS_up {M1 : zf_M} {x : tS} {y1 : Nat → Int32} {y2 : Nat → Nat} {y3 : Nat → Nat → Int32} {s : Nat} (h : mS x M) (hs : s < 4) (e1 : ∀ t, t ≠ s → zf_I M1 81 t = zf_I M 81 t ∧ zf_I M1 82 t = zf_I M 82 t) (e3 : ∀ j, j < 60 * s ∨ 60 * s + 60 ≤ j → zf_I M1 83 j = zf_I M 83 j) (hy : ∀ t, t ≠ s → y1 t = x.1 t ∧ y2 t = x.2.1 t ∧ y3 t = x.2.2 t) (h1 : zf_I M1 81 s = y1 s) (h2 : zf_I M1 82 s = nI (y2 s)) (h3 : ∀ j, j < y2 s → j < 60 → zf_I M1 83 (60 * s + j) = y3 s j) : mS (y1, y2, y3) M1 := by
  intro t ht
  show zf_I M1 81 t = y1 t ∧ zf_I M1 82 t = nI (y2 t) ∧ ∀ j, j < y2 t → j < 60 → zf_I M1 83 (60 * t + j) = y3 t j
  by_cases et : t = s
  · subst et
    exact ⟨h1, h2, h3⟩
  · obtain ⟨a1, a2, a3⟩ := hy t et
    obtain ⟨b1, b2, b3⟩ := h t ht
    obtain ⟨c1, c2⟩ := e1 t et
    rw [a1, a2, a3, c1, c2]
    exact ⟨b1, b2, fun j hj hj6 => by rw [e3 _ (by omega)]; exact b3 j hj hj6⟩
theorem M157 {s : Int32} (hv : vQ q) (hP : zPk M) (hM : zKM q M) (h : ∀ M1, zDn M M1 → zKM (nLose q s) M1 → Q (some (.int (aLose q s))) M1) : zC X 157 [.ref 58, .int s] M Q := by
  unfold nLose aLose at h
  rw [c157]
  simp only [w157_0, w157_1, zk_sI, zk_sJ, zk_sP, zn_sI, zn_sJ, zn_sP, zI_sI, zI_sJ, zI_sP, zJ_sI, zJ_sJ, zJ_sP, zP_sI, zP_sJ, zP_sP, Option.toList_some, Option.toList_none, List.cons_append, List.nil_append]
  refine s155 ?_
  simp only [w157_4, w157_7, w157_9, w157_10, zk_sI, zk_sJ, zk_sP, zn_sI, zn_sJ, zn_sP, zI_sI, zI_sJ, zI_sP, zJ_sI, zJ_sJ, zJ_sP, zP_sI, zP_sJ, zP_sP, Option.toList_some, Option.toList_none, List.cons_append, List.nil_append, zk_of hP.1, zn_of hP.1, zix, ziN, ne_eq, reduceCtorEq, not_false_eq_true, true_and, and_true, Option.getD_some, Nat.reduceLeDiff, Nat.reduceLT, c_ofNat, zkd58, zp_58_1 hP, zp_58_2 hP, zp_58_6 hP, zp_58_7 hP, zp_58_10 hP, zp_58_11 hP, zp_58_12 hP, zp_58_14 hP, zp_58_15 hP, zp_58_17 hP, zp_58_18 hP, zp_58_19 hP, zp_58_20 hP, zp_58_21 hP, zp_58_22 hP, zp_58_24 hP, zp_58_26 hP, zp_58_29 hP, zp_58_32 hP, zp_58_33 hP, zp_58_34 hP, zp_58_35 hP, zp_58_36 hP, zp_58_37 hP, zp_58_38 hP, zp_58_39 hP, zB_0]
  refine ⟨fun g => ?_, fun g => ?_⟩
  · have g := Classical.not_not.mp g
    rw [if_pos g, if_pos g] at h
    obtain ⟨s', s1, rfl⟩ := zin_o (n := 3) rfl (by decide) g
    rw [n_cl (by omega)] at h
    have hmS := hM.2.2.2.2.2.2.1
    obtain ⟨b1, b2, b3⟩ := hmS s' (by omega)
    have x0 := n_cl (show s' < 2 ^ 31 by omega)
    have x1 := n_in (show s' < 4 by omega) (show 4 < 2 ^ 31 by decide)
    simp only [w157_10, w157_11, w157_14, w157_15, w157_16, w157_19, w157_20, w157_21, w157_24, w157_25, w157_26, w157_29, w157_30, w157_31, w157_32, w157_33, w157_36, w157_37, w157_38, zk_sI, zk_sJ, zk_sP, zn_sI, zn_sJ, zn_sP, zI_sI, zI_sJ, zI_sP, zJ_sI, zJ_sJ, zJ_sP, zP_sI, zP_sJ, zP_sP, Option.toList_some, Option.toList_none, List.cons_append, List.nil_append, zk_of hP.1, zn_of hP.1, zix, ziN, ne_eq, reduceCtorEq, not_false_eq_true, true_and, and_true, Option.getD_some, Nat.reduceLeDiff, Nat.reduceLT, c_ofNat, zkd58, zp_58_1 hP, zp_58_2 hP, zp_58_6 hP, zp_58_7 hP, zp_58_10 hP, zp_58_11 hP, zp_58_12 hP, zp_58_14 hP, zp_58_15 hP, zp_58_17 hP, zp_58_18 hP, zp_58_19 hP, zp_58_20 hP, zp_58_21 hP, zp_58_22 hP, zp_58_24 hP, zp_58_26 hP, zp_58_29 hP, zp_58_32 hP, zp_58_33 hP, zp_58_34 hP, zp_58_35 hP, zp_58_36 hP, zp_58_37 hP, zp_58_38 hP, zp_58_39 hP, zkd81, znd81, zfx81, zkd82, znd82, zfx82, x0, x1, b1, b2, Nat.reduceEqDiff, if_false]
    refine ⟨fun g2 => ?_, fun g2 => ?_⟩
    · have g2' : ¬ (qS q).1 s' < 0 := Int32.not_lt.mpr g2
      rw [if_neg g2', if_neg g2'] at h
      refine h _ (zF_sI (zF_rf _ _) (by omega)) (zKM_S hM (fun c j _ k => zI_ne (by omega)) (mS_up (s := s') hmS (by omega) (fun t ht => ⟨zI_ne (by omega), zI_ne (by omega)⟩) (fun j _ => zI_ne (by omega)) (fun t ht => ⟨zud_neq ht, rfl, rfl⟩) ?_ ?_ (fun j hj hj6 => ?_)))
      · rw [zI_eq, zud_eq]
      · rw [zI_ne (by omega)]
        exact b2
      · rw [zI_ne (by omega)]
        exact b3 j hj hj6
    · have g2' : (qS q).1 s' < 0 := Int32.not_le.mp g2
      rw [if_pos g2', if_pos g2'] at h
      refine s154 hP ?_
      simp only [w157_24, zk_sI, zk_sJ, zk_sP, zn_sI, zn_sJ, zn_sP, zI_sI, zI_sJ, zI_sP, zJ_sI, zJ_sJ, zJ_sP, zP_sI, zP_sJ, zP_sP, Option.toList_some, Option.toList_none, List.cons_append, List.nil_append]
      obtain ⟨x1, x2⟩ := zKM_f (v := 1) hM
      exact h _ x1 x2
  · have := h M (zF_rf _ _)
    rw [if_neg (fun z => g (fun y => y z)), if_neg (fun z => g (fun y => y z))] at this
    exact this hM
theorem M156 {s f n : Int32} (hv : vQ q) (hP : zPk M) (hM : zKM q M) (h : ∀ M1, zDn M M1 → zKM (nSheet q s f n) M1 → Q (some (.int (aSheet s f n))) M1) : zC X 156 [.ref 58, .int s, .int f, .int n] M Q := by
  unfold nSheet aSheet at h
  have h0 : ¬ bSheet s f n → Q (some (.int (-2))) M := by
    intro g
    have := h M (zF_rf _ _)
    rw [if_neg g, if_neg g] at this
    exact this hM
  have nn : ∀ {x : Prop}, ¬ ¬ x → x := Classical.not_not.mp
  rw [c156]
  simp only [w156_0, w156_1, zk_sI, zk_sJ, zk_sP, zn_sI, zn_sJ, zn_sP, zI_sI, zI_sJ, zI_sP, zJ_sI, zJ_sJ, zJ_sP, zP_sI, zP_sJ, zP_sP, Option.toList_some, Option.toList_none, List.cons_append, List.nil_append]
  refine s155 ?_
  simp only [w156_4, w156_7, w156_8, w156_9, w156_10, w156_13, w156_25, w156_27, zk_sI, zk_sJ, zk_sP, zn_sI, zn_sJ, zn_sP, zI_sI, zI_sJ, zI_sP, zJ_sI, zJ_sJ, zJ_sP, zP_sI, zP_sJ, zP_sP, Option.toList_some, Option.toList_none, List.cons_append, List.nil_append, zB_0]
  refine ⟨fun g => h0 (fun z => g z.1), fun g1 => ?_⟩
  refine s103i 0 2 rfl rfl ?_
  simp only [w156_16, w156_19, w156_20, w156_22, w156_25, w156_27, w156_28, w156_29, w156_32, w156_33, w156_34, zk_sI, zk_sJ, zk_sP, zn_sI, zn_sJ, zn_sP, zI_sI, zI_sJ, zI_sP, zJ_sI, zJ_sJ, zJ_sP, zP_sI, zP_sJ, zP_sP, Option.toList_some, Option.toList_none, List.cons_append, List.nil_append, zk_of hP.1, zn_of hP.1, zix, ziN, ne_eq, reduceCtorEq, not_false_eq_true, true_and, and_true, Option.getD_some, Nat.reduceLeDiff, Nat.reduceLT, c_ofNat, zkd58, zp_58_1 hP, zp_58_2 hP, zp_58_6 hP, zp_58_7 hP, zp_58_10 hP, zp_58_11 hP, zp_58_12 hP, zp_58_14 hP, zp_58_15 hP, zp_58_17 hP, zp_58_18 hP, zp_58_19 hP, zp_58_20 hP, zp_58_21 hP, zp_58_22 hP, zp_58_24 hP, zp_58_26 hP, zp_58_29 hP, zp_58_32 hP, zp_58_33 hP, zp_58_34 hP, zp_58_35 hP, zp_58_36 hP, zp_58_37 hP, zp_58_38 hP, zp_58_39 hP, zB_0]
  refine ⟨fun g => h0 (fun z => g z.2.1), fun g2 => ⟨fun g3 => ?_, fun g => h0 (fun z => g z.2.2)⟩⟩
  have hb : bSheet s f n := ⟨nn g1, nn g2, g3⟩
  rw [if_pos hb, if_pos hb] at h
  refine ⟨fun g4 => ?_, fun g4 => ?_⟩
  · rw [if_neg (Int32.not_lt.mpr g4), if_neg (Int32.not_lt.mpr g4)] at h
    obtain ⟨s', s1, rfl⟩ := zin_o (n := 3) rfl (by decide) hb.1
    obtain ⟨n', n1, rfl⟩ := zin_o (n := 60) rfl (by decide) ⟨g4, g3⟩
    rw [n_cl (by omega), n_cl (by omega)] at h
    have hmS := hM.2.2.2.2.2.2.1
    have x0 := n_cl (show s' < 2 ^ 31 by omega)
    have x1 := n_in (show s' < 4 by omega) (show 4 < 2 ^ 31 by decide)
    simp only [w156_38, w156_39, w156_42, w156_43, w156_44, w156_45, w156_46, w156_49, w156_50, w156_51, w156_52, w156_53, zk_sI, zk_sJ, zk_sP, zn_sI, zn_sJ, zn_sP, zI_sI, zI_sJ, zI_sP, zJ_sI, zJ_sJ, zJ_sP, zP_sI, zP_sJ, zP_sP, Option.toList_some, Option.toList_none, List.cons_append, List.nil_append, zk_of hP.1, zn_of hP.1, zix, ziN, ne_eq, reduceCtorEq, not_false_eq_true, true_and, and_true, Option.getD_some, Nat.reduceLeDiff, Nat.reduceLT, c_ofNat, zkd58, zp_58_1 hP, zp_58_2 hP, zp_58_6 hP, zp_58_7 hP, zp_58_10 hP, zp_58_11 hP, zp_58_12 hP, zp_58_14 hP, zp_58_15 hP, zp_58_17 hP, zp_58_18 hP, zp_58_19 hP, zp_58_20 hP, zp_58_21 hP, zp_58_22 hP, zp_58_24 hP, zp_58_26 hP, zp_58_29 hP, zp_58_32 hP, zp_58_33 hP, zp_58_34 hP, zp_58_35 hP, zp_58_36 hP, zp_58_37 hP, zp_58_38 hP, zp_58_39 hP, zkd81, znd81, zfx81, zkd82, znd82, zfx82, x0, x1]
    have hF0 : zDn M (zf_sI (zf_sI M 81 s' f) 82 s' (nI n')) := zF_sI (zF_sI (zF_rf _ _) (by omega)) (by omega)
    have loop : ∀ (m i : Nat) (M1 : zf_M), i + m = n' → zF (fun c => c = 83) (zf_sI (zf_sI M 81 s' f) 82 s' (nI n')) M1 → (∀ j, j < i → zf_I M1 83 (60 * s' + j) = 0) → (∀ j, j < 60 * s' ∨ 60 * s' + 60 ≤ j → zf_I M1 83 j = zf_I M 83 j) → zW X 156 55 [.val (.ref 58), .val (.int (nI s')), .val (.int f), .val (.int (nI n')), .val (.int (nI i))] [] M1 Q := by
      intro m
      induction m with
      | zero =>
        intro i M1 hi hF y1 y2
        obtain rfl : i = n' := by omega
        have u1 : zDn M M1 := zF_tr hF0 (zF_mo hF (fun c hc => by omega))
        rw [w156_55]
        simp only [w156_57, w156_58, w156_61, w156_62, w156_65, w156_67, w156_68, w156_69, w156_71, w156_72, w156_73, w156_74, w156_77, w156_80, w156_81, zk_sI, zk_sJ, zk_sP, zn_sI, zn_sJ, zn_sP, zI_sI, zI_sJ, zI_sP, zJ_sI, zJ_sJ, zJ_sP, zP_sI, zP_sJ, zP_sP, Option.toList_some, Option.toList_none, List.cons_append, List.nil_append, Int32.le_refl, true_implies, not_true_eq_false, false_implies, and_true]
        refine h M1 u1 (zKM_S hM (fun c j kc k => ?_) (mS_up (s := s') hmS (by omega) (fun t ht => ⟨?_, ?_⟩) y2 (fun t ht => ⟨zud_neq ht, zud_neq ht, zud_neq ht⟩) ?_ ?_ (fun j hj hj6 => ?_)))
        · rw [(hF.2.1 c (by omega) j).1, zI_ne (by omega), zI_ne (by omega)]
        · rw [(hF.2.1 81 (by omega) t).1, zI_ne (by omega), zI_ne (by omega)]
        · rw [(hF.2.1 82 (by omega) t).1, zI_ne (by omega), zI_ne (by omega)]
        · rw [(hF.2.1 81 (by omega) s').1, zI_ne (by omega), zI_eq, zud_eq]
        · rw [(hF.2.1 82 (by omega) s').1, zI_eq, zud_eq]
        · rw [zud_eq] at hj ⊢
          exact y1 j hj
      | succ m ih =>
        intro i M1 hi hF y1 y2
        have hP1 := zPk_F (zPk_F hP hF0) hF
        have e60 : (60 : Int32) * nI s' = nI (60 * s') := pk_mul 60 s'
        rw [w156_55]
        simp only [w156_57, w156_58, w156_61, w156_62, w156_65, w156_67, w156_68, w156_69, w156_71, w156_72, w156_73, w156_74, w156_77, zk_sI, zk_sJ, zk_sP, zn_sI, zn_sJ, zn_sP, zI_sI, zI_sJ, zI_sP, zJ_sI, zJ_sJ, zJ_sP, zP_sI, zP_sJ, zP_sP, Option.toList_some, Option.toList_none, List.cons_append, List.nil_append, zk_of hP1.1, zn_of hP1.1, zix, ziN, ne_eq, reduceCtorEq, not_false_eq_true, true_and, and_true, Option.getD_some, Nat.reduceLeDiff, Nat.reduceLT, c_ofNat, zkd58, zp_58_1 hP1, zp_58_2 hP1, zp_58_6 hP1, zp_58_7 hP1, zp_58_10 hP1, zp_58_11 hP1, zp_58_12 hP1, zp_58_14 hP1, zp_58_15 hP1, zp_58_17 hP1, zp_58_18 hP1, zp_58_19 hP1, zp_58_20 hP1, zp_58_21 hP1, zp_58_22 hP1, zp_58_24 hP1, zp_58_26 hP1, zp_58_29 hP1, zp_58_32 hP1, zp_58_33 hP1, zp_58_34 hP1, zp_58_35 hP1, zp_58_36 hP1, zp_58_37 hP1, zp_58_38 hP1, zp_58_39 hP1, zkd83, znd83, zfx83, e60, nI_add, n_a1, n_cl (show 60 * s' + i < 2 ^ 31 by omega), n_in (show 60 * s' + i < 240 by omega) (show 240 < 2 ^ 31 by decide)]
        rw [n_le (by omega) (by omega)]
        refine ⟨fun z => by omega, fun _ => ih (i + 1) _ (by omega) (zF_sI hF rfl) (fun j hj => ?_) (fun j hj => ?_)⟩
        · by_cases e : j = i
          · rw [e, zI_eq]
          · rw [zI_ne (by omega)]
            exact y1 j (by omega)
        · rw [zI_ne (by omega)]
          exact y2 j hj
    exact loop n' 0 _ (Nat.zero_add _) (zF_rf _ _) (fun j hj => by omega) (fun j _ => by rw [zI_ne (by omega), zI_ne (by omega)])
  · have g4 := Int32.not_le.mp g4
    rw [if_pos g4, if_pos g4] at h
    refine s154 hP ?_
    simp only [w156_37, zk_sI, zk_sJ, zk_sP, zn_sI, zn_sJ, zn_sP, zI_sI, zI_sJ, zI_sP, zJ_sI, zJ_sJ, zJ_sP, zP_sI, zP_sJ, zP_sP, Option.toList_some, Option.toList_none, List.cons_append, List.nil_append]
    obtain ⟨x1, x2⟩ := zKM_f (v := 5) hM
    exact h _ x1 x2
end ZMs2
