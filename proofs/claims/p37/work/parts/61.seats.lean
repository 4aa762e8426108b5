/-! ===== FairFight: seats ===== -/
/-- a row in the class's memory -/
def zRx (M : zf_M) (a h : Nat) (w : Nat → Nat) : Prop := h ≤ 3 ∧ zf_I M a 1 = nI h ∧ ∀ j, j < h → zf_I M (a + 1) j = nI (w j)
theorem zRx_F {S : Nat → Prop} {M M1 : zf_M} {a h : Nat} {w : Nat → Nat} (hR : zRx M a h w) (hF : zF S M M1) (h0 : ¬ S a) (h1 : ¬ S (a + 1)) : zRx M1 a h w := ⟨hR.1, by rw [(hF.2.1 a h0 1).1]; exact hR.2.1, fun j hj => by rw [(hF.2.1 _ h1 j).1]; exact hR.2.2 j hj⟩
theorem zRw_F {S : Nat → Prop} {M M1 : zf_M} {a : Nat} (h : zRw M a) (hF : zF S M M1) : zRw M1 a := ⟨h.1, by rw [zF_k hF]; exact h.2.1, by rw [hF.2.2]; exact h.2.2.1, by rw [zF_n hF]; exact h.2.2.2⟩
theorem zRo_F {S : Nat → Prop} {M M1 : zf_M} {n : Nat} {nu : Nat → Nat} (h : zRo n nu M) (hF : zF S M M1) (h1 : ¬ S 1) (h2 : ¬ S 2) : zRo n nu M1 := ⟨h.1, by rw [(hF.2.1 1 h1 1).1]; exact h.2.1, fun i hi => by rw [(hF.2.1 2 h2 i).1]; exact h.2.2 i hi⟩
theorem in02 : vp_in 0 2 = True := eq_true (vp_in_nI (show 0 < 2 by decide) (by decide))
theorem in12 : vp_in 1 2 = True := eq_true (vp_in_nI (show 1 < 2 by decide) (by decide))
theorem zp30 {M : zf_M} (h : zPk M) : zf_P M 3 (Int32.toNatClampNeg 0) = some 46 := zp_3_0 h
theorem zp31 {M : zf_M} (h : zPk M) : zf_P M 3 (Int32.toNatClampNeg 1) = some 48 := zp_3_1 h
section ZSs
variable {X : zf_X} {M : zf_M} {Q : Option Value → zf_M → Prop} {n : Nat} {c : zCs}
/-- seatFoes -/
theorem s97 {a h : Nat} {w : Nat → Nat} (hP : zPk M) (hR : zRo n c.1 M) (hS : zSt c M 3) (hrow : zRw M a) (ha : 11 < a) (hrx : zRx M a h w) (hwn : ∀ k f, c.2.1 k = some f → f < n) (hw : ∀ j, j < h → c.2.1 (3 + j) = some (w j) ∧ c.2.2 (3 + j) = 0) (hw2 : ∀ k, 3 + h ≤ k → k < 6 → c.2.1 k = none)
    (hQ : ∀ M1, zF (fun c => 4 ≤ c ∧ c ≤ 11) M M1 → zSt c M1 6 → (∀ i, i ≠ 7 → zf_I M1 4 i = zf_I M 4 i) → Q none M1) : zC X 97 [.ref 0, .ref a] M Q := by
  rw [c97]
  have ka : zkd a = 6 := by rw [← zk_of hP.1]; exact hrow.2.1
  have loop : ∀ (m i : Nat) (M1 : zf_M), i + m = h → zF (fun c => 4 ≤ c ∧ c ≤ 11) M M1 → zSt c M1 (3 + i) → (∀ i, i ≠ 7 → zf_I M1 4 i = zf_I M 4 i) → zW X 97 2 [.val (.ref 0), .val (.ref a), .val (.int (nI i))] [] M1 Q := by
    intro m
    induction m with
    | zero =>
      intro i M1 hi hF h1 h2
      obtain rfl : i = h := by omega
      have hP1 := zPk_F hP hF
      have rw1 := zRw_F hrow hF
      have rx1 := zRx_F hrx hF (by omega) (by omega)
      rw [w97_2]
      simp only [w97_0, w97_1, w97_3, w97_4, w97_7, w97_10, w97_11, w97_14, w97_15, w97_16, w97_19, w97_20, w97_23, w97_24, w97_25, w97_28, w97_29, w97_32, w97_35, w97_38, zk_sI, zk_sJ, zk_sP, zn_sI, zn_sJ, zn_sP, zI_sI, zI_sJ, zI_sP, zJ_sI, zJ_sJ, zJ_sP, zP_sI, zP_sJ, zP_sP, Option.toList_some, Option.toList_none, List.cons_append, List.nil_append, zk_of hP1.1, zn_of hP1.1, zix, ziN, ne_eq, reduceCtorEq, not_false_eq_true, true_and, and_true, Option.getD_some, Nat.reduceLeDiff, Nat.reduceLT, c_ofNat, zkd0, zp_0_0 hP1, zp_0_1 hP1, zp_0_2 hP1, zp_0_3 hP1, zp_0_4 hP1, zp_0_5 hP1, zp_0_6 hP1, zp_0_7 hP1, zkd1, zp_1_0 hP1, zkd4, zp_4_0 hP1, zp_4_1 hP1, zp_4_2 hP1, zp_4_3 hP1, zp_4_4 hP1, zp_4_5 hP1, zp_4_6 hP1, ka, rx1.2.1]
      refine ⟨fun _ => hQ M1 hF ?_ h2, fun z => absurd (Int32.le_refl _) z⟩
      have key : ∀ d k, k + d = 6 → 3 + i ≤ k → zSt c M1 k → zSt c M1 6 := by
        intro d
        induction d with
        | zero =>
          intro k hk _ h3
          obtain rfl : k = 6 := by omega
          exact h3
        | succ d ih =>
          intro k hk hik h3
          exact ih (k + 1) (by omega) (by omega) (zSt_skip h3 (hw2 k hik (by omega)))
      have := hrx.1
      exact key (3 - i) (3 + i) (by omega) (by omega) h1
    | succ m ih =>
      intro i M1 hi hF h1 h2
      have hP1 := zPk_F hP hF
      have rw1 := zRw_F hrow hF
      have rx1 := zRx_F hrx hF (by omega) (by omega)
      have := hrx.1
      obtain ⟨v1, v2⟩ := hw i (by omega)
      have e3 : (3 : Int32) * 1 + nI i = nI (3 + i) := nI_add 3 i
      rw [w97_2]
      simp only [w97_0, w97_1, w97_3, w97_4, w97_7, w97_10, w97_11, w97_14, w97_15, w97_16, w97_19, w97_20, w97_23, w97_24, w97_25, w97_28, w97_29, w97_32, w97_35, w97_38, c89, w89_0, w89_1, w89_2, w89_3, w89_4, w89_5, zk_sI, zk_sJ, zk_sP, zn_sI, zn_sJ, zn_sP, zI_sI, zI_sJ, zI_sP, zJ_sI, zJ_sJ, zJ_sP, zP_sI, zP_sJ, zP_sP, Option.toList_some, Option.toList_none, List.cons_append, List.nil_append, zk_of hP1.1, zn_of hP1.1, zix, ziN, ne_eq, reduceCtorEq, not_false_eq_true, true_and, and_true, Option.getD_some, Nat.reduceLeDiff, Nat.reduceLT, c_ofNat, zkd0, zp_0_0 hP1, zp_0_1 hP1, zp_0_2 hP1, zp_0_3 hP1, zp_0_4 hP1, zp_0_5 hP1, zp_0_6 hP1, zp_0_7 hP1, zkd1, zp_1_0 hP1, zkd4, zp_4_0 hP1, zp_4_1 hP1, zp_4_2 hP1, zp_4_3 hP1, zp_4_4 hP1, zp_4_5 hP1, zp_4_6 hP1, ka, rx1.2.1, e3]
      rw [n_le (by omega) (by omega)]
      refine ⟨fun z => by omega, fun _ => ?_⟩
      refine s42 rw1 (by omega) ?_
      rw [rx1.2.2 i (by omega)]
      simp only [w97_0, w97_1, w97_3, w97_4, w97_7, w97_10, w97_11, w97_14, w97_15, w97_16, w97_19, w97_20, w97_23, w97_24, w97_25, w97_28, w97_29, w97_32, w97_35, w97_38, zk_sI, zk_sJ, zk_sP, zn_sI, zn_sJ, zn_sP, zI_sI, zI_sJ, zI_sP, zJ_sI, zJ_sJ, zJ_sP, zP_sI, zP_sJ, zP_sP, Option.toList_some, Option.toList_none, List.cons_append, List.nil_append, zk_of hP1.1, zn_of hP1.1, zix, ziN, ne_eq, reduceCtorEq, not_false_eq_true, true_and, and_true, Option.getD_some, Nat.reduceLeDiff, Nat.reduceLT, c_ofNat, zkd0, zp_0_0 hP1, zp_0_1 hP1, zp_0_2 hP1, zp_0_3 hP1, zp_0_4 hP1, zp_0_5 hP1, zp_0_6 hP1, zp_0_7 hP1, zkd1, zp_1_0 hP1, zkd4, zp_4_0 hP1, zp_4_1 hP1, zp_4_2 hP1, zp_4_3 hP1, zp_4_4 hP1, zp_4_5 hP1, zp_4_6 hP1, ka, rx1.2.1, e3]
      have e0 : (0 : Int32) = nI (c.2.2 (3 + i)) := by rw [v2]; rfl
      rw [e0]
      refine s8c hP1 (zRo_F hR hF (by omega) (by omega)) h1 (by omega) v1 hwn (fun M2 g1 g2 g3 => ?_)
      simp only [w97_0, w97_1, w97_3, w97_4, w97_7, w97_10, w97_11, w97_14, w97_15, w97_16, w97_19, w97_20, w97_23, w97_24, w97_25, w97_28, w97_29, w97_32, w97_35, w97_38, zk_sI, zk_sJ, zk_sP, zn_sI, zn_sJ, zn_sP, zI_sI, zI_sJ, zI_sP, zJ_sI, zJ_sJ, zJ_sP, zP_sI, zP_sJ, zP_sP, Option.toList_some, Option.toList_none, List.cons_append, List.nil_append, n_a1]
      exact ih (i + 1) M2 (by omega) (zF_tr hF g1) g2 (fun i hi => by rw [g3 i hi]; exact h2 i hi)
  simp only [w97_0, w97_1, w97_3, w97_4, w97_7, w97_10, w97_11, w97_14, w97_15, w97_16, w97_19, w97_20, w97_23, w97_24, w97_25, w97_28, w97_29, w97_32, w97_35, w97_38, zk_sI, zk_sJ, zk_sP, zn_sI, zn_sJ, zn_sP, zI_sI, zI_sJ, zI_sP, zJ_sI, zJ_sJ, zJ_sP, zP_sI, zP_sJ, zP_sP, Option.toList_some, Option.toList_none, List.cons_append, List.nil_append]
  exact loop h 0 M (by omega) (zF_rf _ _) hS (fun i _ => rfl)
/-- seatHeroes -/
theorem s96 {h b : Nat} {w sx : Nat → Nat} {but : Int32} (hP : zPk M) (hR : zRo n c.1 M) (hS : zSt c M 0) (hrx : zRx M 46 h w) (hwn : ∀ k f, c.2.1 k = some f → f < n) (h0 : sx 0 = 0) (hw : ∀ i, i < h → (nI i = but → sx (i + 1) = sx i) ∧ (¬ nI i = but → sx (i + 1) = sx i + 1 ∧ c.2.1 (sx i) = some (w i) ∧ c.2.2 (sx i) = b)) (hsx : ∀ i, sx i ≤ i) (hw2 : ∀ k, sx h ≤ k → k < 3 → c.2.1 k = none)
    (hQ : ∀ M1, zF (fun c => 4 ≤ c ∧ c ≤ 11) M M1 → zSt c M1 3 → (∀ i, i ≠ 7 → zf_I M1 4 i = zf_I M 4 i) → Q none M1) : zC X 96 [.ref 0, .int but, .int (nI b)] M Q := by
  rw [c96]
  have loop : ∀ (m i : Nat) (M1 : zf_M), i + m = h → zF (fun c => 4 ≤ c ∧ c ≤ 11) M M1 → zSt c M1 (sx i) → (∀ i, i ≠ 7 → zf_I M1 4 i = zf_I M 4 i) → zW X 96 9 [.val (.ref 0), .val (.int but), .val (.int (nI b)), .val (.int (nI (sx i))), .val (.int (nI i))] [] M1 Q := by
    intro m
    induction m with
    | zero =>
      intro i M1 hi hF h1 h2
      obtain rfl : i = h := by omega
      have hP1 := zPk_F hP hF
      have rx1 := zRx_F hrx hF (by omega) (by omega)
      rw [w96_9]
      simp only [w96_0, w96_1, w96_2, w96_5, w96_6, w96_7, w96_11, w96_12, w96_15, w96_16, w96_17, w96_20, w96_23, w96_25, w96_26, w96_29, w96_30, w96_33, w96_34, w96_35, w96_38, w96_39, w96_42, w96_43, w96_44, w96_46, w96_49, w96_50, w96_53, w96_56, w96_59, w96_62, zk_sI, zk_sJ, zk_sP, zn_sI, zn_sJ, zn_sP, zI_sI, zI_sJ, zI_sP, zJ_sI, zJ_sJ, zJ_sP, zP_sI, zP_sJ, zP_sP, Option.toList_some, Option.toList_none, List.cons_append, List.nil_append, zk_of hP1.1, zn_of hP1.1, zix, ziN, ne_eq, reduceCtorEq, not_false_eq_true, true_and, and_true, Option.getD_some, Nat.reduceLeDiff, Nat.reduceLT, c_ofNat, zkd0, zp_0_0 hP1, zp_0_1 hP1, zp_0_2 hP1, zp_0_3 hP1, zp_0_4 hP1, zp_0_5 hP1, zp_0_6 hP1, zp_0_7 hP1, zkd1, zp_1_0 hP1, zkd3, znd3, zfx3, zp_3_0 hP1, zp_3_1 hP1, zkd4, zp_4_0 hP1, zp_4_1 hP1, zp_4_2 hP1, zp_4_3 hP1, zp_4_4 hP1, zp_4_5 hP1, zp_4_6 hP1, zkd46, zp_46_0 hP1, in02, true_or, zp30 hP1, rx1.2.1]
      have key : ∀ d k, k + d = 3 → sx i ≤ k → zSt c M1 k → zSt c M1 3 := by
        intro d
        induction d with
        | zero =>
          intro k hk _ h3
          obtain rfl : k = 3 := by omega
          exact h3
        | succ d ih =>
          intro k hk hik h3
          exact ih (k + 1) (by omega) (by omega) (zSt_skip h3 (hw2 k hik (by omega)))
      have h5 := hrx.1
      have h6 := hsx i
      have hfin := hQ M1 hF (key (3 - sx i) (sx i) (by omega) (by omega) h1) h2
      exact ⟨fun _ => hfin, fun z => absurd (Int32.le_refl _) z⟩
    | succ m ih =>
      intro i M1 hi hF h1 h2
      have hP1 := zPk_F hP hF
      have rx1 := zRx_F hrx hF (by omega) (by omega)
      have h5 := hrx.1
      have h6 := hsx i
      obtain ⟨v1, v2⟩ := hw i (by omega)
      rw [w96_9]
      simp only [w96_0, w96_1, w96_2, w96_5, w96_6, w96_7, w96_11, w96_12, w96_15, w96_16, w96_17, w96_20, w96_23, w96_25, w96_26, w96_29, w96_30, w96_33, w96_34, w96_35, w96_38, w96_39, w96_42, w96_43, w96_44, w96_46, w96_49, w96_50, w96_53, w96_56, w96_59, w96_62, zk_sI, zk_sJ, zk_sP, zn_sI, zn_sJ, zn_sP, zI_sI, zI_sJ, zI_sP, zJ_sI, zJ_sJ, zJ_sP, zP_sI, zP_sJ, zP_sP, Option.toList_some, Option.toList_none, List.cons_append, List.nil_append, zk_of hP1.1, zn_of hP1.1, zix, ziN, ne_eq, reduceCtorEq, not_false_eq_true, true_and, and_true, Option.getD_some, Nat.reduceLeDiff, Nat.reduceLT, c_ofNat, zkd0, zp_0_0 hP1, zp_0_1 hP1, zp_0_2 hP1, zp_0_3 hP1, zp_0_4 hP1, zp_0_5 hP1, zp_0_6 hP1, zp_0_7 hP1, zkd1, zp_1_0 hP1, zkd3, znd3, zfx3, zp_3_0 hP1, zp_3_1 hP1, zkd4, zp_4_0 hP1, zp_4_1 hP1, zp_4_2 hP1, zp_4_3 hP1, zp_4_4 hP1, zp_4_5 hP1, zp_4_6 hP1, zkd46, zp_46_0 hP1, in02, true_or, zp30 hP1, rx1.2.1]
      rw [n_le (by omega) (by omega)]
      refine ⟨fun z => by omega, fun _ => ⟨fun hb => ?_, fun hb => ?_⟩⟩
      · rw [n_a1]
        have := ih (i + 1) M1 (by omega) hF (by rw [v1 hb]; exact h1) h2
        rw [v1 hb] at this
        exact this
      · obtain ⟨v3, v4, v5⟩ := v2 hb
        refine s42 (zRw_of hP1 (Or.inl rfl)) (by omega) ?_
        have ew := rx1.2.2 i (by omega)
        change zf_I M1 47 i = _ at ew
        simp only [w96_0, w96_1, w96_2, w96_5, w96_6, w96_7, w96_11, w96_12, w96_15, w96_16, w96_17, w96_20, w96_23, w96_25, w96_26, w96_29, w96_30, w96_33, w96_34, w96_35, w96_38, w96_39, w96_42, w96_43, w96_44, w96_46, w96_49, w96_50, w96_53, w96_56, w96_59, w96_62, zk_sI, zk_sJ, zk_sP, zn_sI, zn_sJ, zn_sP, zI_sI, zI_sJ, zI_sP, zJ_sI, zJ_sJ, zJ_sP, zP_sI, zP_sJ, zP_sP, Option.toList_some, Option.toList_none, List.cons_append, List.nil_append, zk_of hP1.1, zn_of hP1.1, zix, ziN, ne_eq, reduceCtorEq, not_false_eq_true, true_and, and_true, Option.getD_some, Nat.reduceLeDiff, Nat.reduceLT, c_ofNat, zkd0, zp_0_0 hP1, zp_0_1 hP1, zp_0_2 hP1, zp_0_3 hP1, zp_0_4 hP1, zp_0_5 hP1, zp_0_6 hP1, zp_0_7 hP1, zkd1, zp_1_0 hP1, zkd3, znd3, zfx3, zp_3_0 hP1, zp_3_1 hP1, zkd4, zp_4_0 hP1, zp_4_1 hP1, zp_4_2 hP1, zp_4_3 hP1, zp_4_4 hP1, zp_4_5 hP1, zp_4_6 hP1, zkd46, zp_46_0 hP1, ew, n_a1]
        rw [← v5]
        refine s8c hP1 (zRo_F hR hF (by omega) (by omega)) h1 (by omega) v4 hwn (fun M2 g1 g2 g3 => ?_)
        simp only [w96_0, w96_1, w96_2, w96_5, w96_6, w96_7, w96_11, w96_12, w96_15, w96_16, w96_17, w96_20, w96_23, w96_25, w96_26, w96_29, w96_30, w96_33, w96_34, w96_35, w96_38, w96_39, w96_42, w96_43, w96_44, w96_46, w96_49, w96_50, w96_53, w96_56, w96_59, w96_62, zk_sI, zk_sJ, zk_sP, zn_sI, zn_sJ, zn_sP, zI_sI, zI_sJ, zI_sP, zJ_sI, zJ_sJ, zJ_sP, zP_sI, zP_sJ, zP_sP, Option.toList_some, Option.toList_none, List.cons_append, List.nil_append, n_a1]
        have := ih (i + 1) M2 (by omega) (zF_tr hF g1) (by rw [v3]; exact g2) (fun i hi => by rw [g3 i hi]; exact h2 i hi)
        rw [v3] at this
        rw [v5]
        exact this
  simp only [w96_0, w96_1, w96_2, w96_5, w96_6, w96_7, w96_11, w96_12, w96_15, w96_16, w96_17, w96_20, w96_23, w96_25, w96_26, w96_29, w96_30, w96_33, w96_34, w96_35, w96_38, w96_39, w96_42, w96_43, w96_44, w96_46, w96_49, w96_50, w96_53, w96_56, w96_59, w96_62, c89, w89_0, w89_1, w89_2, w89_3, w89_4, w89_5, zk_sI, zk_sJ, zk_sP, zn_sI, zn_sJ, zn_sP, zI_sI, zI_sJ, zI_sP, zJ_sI, zJ_sJ, zJ_sP, zP_sI, zP_sJ, zP_sP, Option.toList_some, Option.toList_none, List.cons_append, List.nil_append]
  have := loop h 0 M (by omega) (zF_rf _ _) (by rw [h0]; exact hS) (fun i _ => rfl)
  rw [h0] at this
  exact this
end ZSs

