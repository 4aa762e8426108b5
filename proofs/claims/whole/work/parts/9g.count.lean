/-! ===== count, played ===== -/
def aCount (q : tQ) (k : Int32) : Int32 := if k = 0 then nI (qA q).1 else if k = 1 then nI (qB q).1.1 else if k = 2 then nI (qB q).2.1 else if k = 3 then nI (qL q).1 else if k = 4 then (qL q).2.1 else if k = 5 then nI (qD q).1 else if k = 6 then qF q else if k = 7 then (qL q).2.2 else if k = 8 then nI (qD q).2.2.1 else if k = 9 then nI (qD q).2.2.2 else -2
def aPl (q : tQ) (k : Int32) : Int32 := if k = 0 then (qP q).1.1 else if k = 1 then (qP q).1.2.1 else if k = 2 then (qP q).1.2.2 else if zin k 10 15 then (qP q).2 (k - 10).toNatClampNeg else -2
theorem out_9 {k : Int32} (h0 : k ≠ 0) (h1 : k ≠ 1) (h2 : k ≠ 2) (h3 : k ≠ 3) (h4 : k ≠ 4) (h5 : k ≠ 5) (h6 : k ≠ 6) (h7 : k ≠ 7) (h8 : k ≠ 8) (h9 : k ≠ 9) : k.toInt < 0 ∨ 9 < k.toInt := by
  rw [ne_eq, ← Int32.toInt_inj] at h0 h1 h2 h3 h4 h5 h6 h7 h8 h9
  rw [t_0] at h0
  rw [t_1] at h1
  rw [t_2] at h2
  rw [t_3] at h3
  rw [show (4 : Int32).toInt = 4 by decide] at h4
  rw [show (5 : Int32).toInt = 5 by decide] at h5
  rw [show (6 : Int32).toInt = 6 by decide] at h6
  rw [show (7 : Int32).toInt = 7 by decide] at h7
  rw [show (8 : Int32).toInt = 8 by decide] at h8
  rw [show (9 : Int32).toInt = 9 by decide] at h9
  omega
theorem many_z {n : Nat} {B : Nat × (Nat → Nat)} (h : vRow n B) (hn : n ≤ 16) : ((if zvo (zat B 0) = -1 then 0 else 1) + (if zvo (zat B 1) = -1 then 0 else 1) + (if zvo (zat B 2) = -1 then 0 else 1) : Int32) = nI B.1 := by
  have e : ∀ j, (zvo (zat B j) = -1) = ¬ j < B.1 := by
    intro j
    refine propext ((zvo_n (fun f e => ?_)).trans ?_)
    · have := zat_lt h e
      omega
    · unfold zat
      by_cases g : j < B.1
      · rw [if_pos g]
        exact ⟨fun z => (by cases z), fun z => absurd g z⟩
      · rw [if_neg g]
        exact ⟨fun _ => g, fun _ => rfl⟩
  have h3 := h.1
  simp only [e]
  generalize B.1 = b at *
  rcases (show b = 0 ∨ b = 1 ∨ b = 2 ∨ b = 3 by omega) with rfl | rfl | rfl | rfl <;> decide
section ZCn
variable {X : zf_X} {M : zf_M} {Q : Option Value → zf_M → Prop} {q : tQ}

theorem C82 {k : Int32} (hP : zPk M) (hC : zKC q M) (h : ∀ M1, zUp M M1 → zKC q M1 → Q (some (.int (aCount q k))) M1) : zC X 82 [.ref 0, .int k] M Q := by
  have h0 := h M (zUp_rf hP) hC
  obtain ⟨-, hA, hB, hL, hD, -, -, -, hFi⟩ := hC
  change zf_I M 0 12 = qF q at hFi
  unfold aCount at h0
  rw [c82]

  by_cases e0 : k = 0
  · rw [e0]
    rw [if_pos e0] at h0
    simp only [w82_0, w82_1_0, w82_56, w82_57, w82_60, w82_63, zk_sI, zk_sJ, zk_sP, zn_sI, zn_sJ, zn_sP, zI_sI, zI_sJ, zI_sP, zJ_sI, zJ_sJ, zJ_sP, zP_sI, zP_sJ, zP_sP, Option.toList_some, Option.toList_none, List.cons_append, List.nil_append, zk_of hP.1, zn_of hP.1, zix, ziN, ne_eq, reduceCtorEq, not_false_eq_true, true_and, and_true, Option.getD_some, Nat.reduceLeDiff, Nat.reduceLT, c_ofNat, zkd0, zp_0_0 hP, zp_0_1 hP, zp_0_2 hP, zp_0_3 hP, zp_0_4 hP, zp_0_5 hP, zp_0_6 hP, zp_0_7 hP, zkd1, zp_1_0 hP, zkd3, znd3, zfx3, zp_3_0 hP, zp_3_1 hP, zkd26, zp_26_0 hP, zp_26_1 hP, zp_26_2 hP, zkd46, zp_46_0 hP, zkd48, zp_48_0 hP, hA.1]
    exact h0
  by_cases e1 : k = 1
  · rw [e1]
    rw [if_neg e0, if_pos e1] at h0
    simp only [w82_0, w82_1_1, w82_64, w82_65, w82_68, w82_69, w82_70, w82_73, zk_sI, zk_sJ, zk_sP, zn_sI, zn_sJ, zn_sP, zI_sI, zI_sJ, zI_sP, zJ_sI, zJ_sJ, zJ_sP, zP_sI, zP_sJ, zP_sP, Option.toList_some, Option.toList_none, List.cons_append, List.nil_append, zk_of hP.1, zn_of hP.1, zix, ziN, ne_eq, reduceCtorEq, not_false_eq_true, true_and, and_true, Option.getD_some, Nat.reduceLeDiff, Nat.reduceLT, c_ofNat, zkd0, zp_0_0 hP, zp_0_1 hP, zp_0_2 hP, zp_0_3 hP, zp_0_4 hP, zp_0_5 hP, zp_0_6 hP, zp_0_7 hP, zkd1, zp_1_0 hP, zkd3, znd3, zfx3, zp_3_0 hP, zp_3_1 hP, zkd26, zp_26_0 hP, zp_26_1 hP, zp_26_2 hP, zkd46, zp_46_0 hP, zkd48, zp_48_0 hP, in02, in12, true_or, zp30 hP, zp31 hP, hB.1]
    exact h0
  by_cases e2 : k = 2
  · rw [e2]
    rw [if_neg e0, if_neg e1, if_pos e2] at h0
    simp only [w82_0, w82_1_2, w82_74, w82_75, w82_78, w82_79, w82_80, w82_83, zk_sI, zk_sJ, zk_sP, zn_sI, zn_sJ, zn_sP, zI_sI, zI_sJ, zI_sP, zJ_sI, zJ_sJ, zJ_sP, zP_sI, zP_sJ, zP_sP, Option.toList_some, Option.toList_none, List.cons_append, List.nil_append, zk_of hP.1, zn_of hP.1, zix, ziN, ne_eq, reduceCtorEq, not_false_eq_true, true_and, and_true, Option.getD_some, Nat.reduceLeDiff, Nat.reduceLT, c_ofNat, zkd0, zp_0_0 hP, zp_0_1 hP, zp_0_2 hP, zp_0_3 hP, zp_0_4 hP, zp_0_5 hP, zp_0_6 hP, zp_0_7 hP, zkd1, zp_1_0 hP, zkd3, znd3, zfx3, zp_3_0 hP, zp_3_1 hP, zkd26, zp_26_0 hP, zp_26_1 hP, zp_26_2 hP, zkd46, zp_46_0 hP, zkd48, zp_48_0 hP, in02, in12, true_or, zp30 hP, zp31 hP, hB.2.1]
    exact h0
  by_cases e3 : k = 3
  · rw [e3]
    rw [if_neg e0, if_neg e1, if_neg e2, if_pos e3] at h0
    simp only [w82_0, w82_1_3, w82_84, w82_85, w82_88, zk_sI, zk_sJ, zk_sP, zn_sI, zn_sJ, zn_sP, zI_sI, zI_sJ, zI_sP, zJ_sI, zJ_sJ, zJ_sP, zP_sI, zP_sJ, zP_sP, Option.toList_some, Option.toList_none, List.cons_append, List.nil_append, zk_of hP.1, zn_of hP.1, zix, ziN, ne_eq, reduceCtorEq, not_false_eq_true, true_and, and_true, Option.getD_some, Nat.reduceLeDiff, Nat.reduceLT, c_ofNat, zkd0, zp_0_0 hP, zp_0_1 hP, zp_0_2 hP, zp_0_3 hP, zp_0_4 hP, zp_0_5 hP, zp_0_6 hP, zp_0_7 hP, zkd1, zp_1_0 hP, zkd3, znd3, zfx3, zp_3_0 hP, zp_3_1 hP, zkd26, zp_26_0 hP, zp_26_1 hP, zp_26_2 hP, zkd46, zp_46_0 hP, zkd48, zp_48_0 hP, hL.1]
    exact h0
  by_cases e4 : k = 4
  · rw [e4]
    rw [if_neg e0, if_neg e1, if_neg e2, if_neg e3, if_pos e4] at h0
    simp only [w82_0, w82_1_4, w82_89, w82_90, w82_93, zk_sI, zk_sJ, zk_sP, zn_sI, zn_sJ, zn_sP, zI_sI, zI_sJ, zI_sP, zJ_sI, zJ_sJ, zJ_sP, zP_sI, zP_sJ, zP_sP, Option.toList_some, Option.toList_none, List.cons_append, List.nil_append, zk_of hP.1, zn_of hP.1, zix, ziN, ne_eq, reduceCtorEq, not_false_eq_true, true_and, and_true, Option.getD_some, Nat.reduceLeDiff, Nat.reduceLT, c_ofNat, zkd0, zp_0_0 hP, zp_0_1 hP, zp_0_2 hP, zp_0_3 hP, zp_0_4 hP, zp_0_5 hP, zp_0_6 hP, zp_0_7 hP, zkd1, zp_1_0 hP, zkd3, znd3, zfx3, zp_3_0 hP, zp_3_1 hP, zkd26, zp_26_0 hP, zp_26_1 hP, zp_26_2 hP, zkd46, zp_46_0 hP, zkd48, zp_48_0 hP, hL.2.1]
    exact h0
  by_cases e5 : k = 5
  · rw [e5]
    rw [if_neg e0, if_neg e1, if_neg e2, if_neg e3, if_neg e4, if_pos e5] at h0
    simp only [w82_0, w82_1_5, w82_94, w82_95, w82_98, w82_101, zk_sI, zk_sJ, zk_sP, zn_sI, zn_sJ, zn_sP, zI_sI, zI_sJ, zI_sP, zJ_sI, zJ_sJ, zJ_sP, zP_sI, zP_sJ, zP_sP, Option.toList_some, Option.toList_none, List.cons_append, List.nil_append, zk_of hP.1, zn_of hP.1, zix, ziN, ne_eq, reduceCtorEq, not_false_eq_true, true_and, and_true, Option.getD_some, Nat.reduceLeDiff, Nat.reduceLT, c_ofNat, zkd0, zp_0_0 hP, zp_0_1 hP, zp_0_2 hP, zp_0_3 hP, zp_0_4 hP, zp_0_5 hP, zp_0_6 hP, zp_0_7 hP, zkd1, zp_1_0 hP, zkd3, znd3, zfx3, zp_3_0 hP, zp_3_1 hP, zkd26, zp_26_0 hP, zp_26_1 hP, zp_26_2 hP, zkd46, zp_46_0 hP, zkd48, zp_48_0 hP, hD.1]
    exact h0
  by_cases e6 : k = 6
  · rw [e6]
    rw [if_neg e0, if_neg e1, if_neg e2, if_neg e3, if_neg e4, if_neg e5, if_pos e6] at h0
    simp only [w82_0, w82_1_6, w82_102, w82_103, w82_106, zk_sI, zk_sJ, zk_sP, zn_sI, zn_sJ, zn_sP, zI_sI, zI_sJ, zI_sP, zJ_sI, zJ_sJ, zJ_sP, zP_sI, zP_sJ, zP_sP, Option.toList_some, Option.toList_none, List.cons_append, List.nil_append, zk_of hP.1, zn_of hP.1, zix, ziN, ne_eq, reduceCtorEq, not_false_eq_true, true_and, and_true, Option.getD_some, Nat.reduceLeDiff, Nat.reduceLT, c_ofNat, zkd0, zp_0_0 hP, zp_0_1 hP, zp_0_2 hP, zp_0_3 hP, zp_0_4 hP, zp_0_5 hP, zp_0_6 hP, zp_0_7 hP, zkd1, zp_1_0 hP, zkd3, znd3, zfx3, zp_3_0 hP, zp_3_1 hP, zkd26, zp_26_0 hP, zp_26_1 hP, zp_26_2 hP, zkd46, zp_46_0 hP, zkd48, zp_48_0 hP, hFi]
    exact h0
  by_cases e7 : k = 7
  · rw [e7]
    rw [if_neg e0, if_neg e1, if_neg e2, if_neg e3, if_neg e4, if_neg e5, if_neg e6, if_pos e7] at h0
    simp only [w82_0, w82_1_7, w82_107, w82_108, w82_111, zk_sI, zk_sJ, zk_sP, zn_sI, zn_sJ, zn_sP, zI_sI, zI_sJ, zI_sP, zJ_sI, zJ_sJ, zJ_sP, zP_sI, zP_sJ, zP_sP, Option.toList_some, Option.toList_none, List.cons_append, List.nil_append, zk_of hP.1, zn_of hP.1, zix, ziN, ne_eq, reduceCtorEq, not_false_eq_true, true_and, and_true, Option.getD_some, Nat.reduceLeDiff, Nat.reduceLT, c_ofNat, zkd0, zp_0_0 hP, zp_0_1 hP, zp_0_2 hP, zp_0_3 hP, zp_0_4 hP, zp_0_5 hP, zp_0_6 hP, zp_0_7 hP, zkd1, zp_1_0 hP, zkd3, znd3, zfx3, zp_3_0 hP, zp_3_1 hP, zkd26, zp_26_0 hP, zp_26_1 hP, zp_26_2 hP, zkd46, zp_46_0 hP, zkd48, zp_48_0 hP, hL.2.2]
    exact h0
  by_cases e8 : k = 8
  · rw [e8]
    rw [if_neg e0, if_neg e1, if_neg e2, if_neg e3, if_neg e4, if_neg e5, if_neg e6, if_neg e7, if_pos e8] at h0
    simp only [w82_0, w82_1_8, w82_112, w82_113, w82_116, w82_119, zk_sI, zk_sJ, zk_sP, zn_sI, zn_sJ, zn_sP, zI_sI, zI_sJ, zI_sP, zJ_sI, zJ_sJ, zJ_sP, zP_sI, zP_sJ, zP_sP, Option.toList_some, Option.toList_none, List.cons_append, List.nil_append, zk_of hP.1, zn_of hP.1, zix, ziN, ne_eq, reduceCtorEq, not_false_eq_true, true_and, and_true, Option.getD_some, Nat.reduceLeDiff, Nat.reduceLT, c_ofNat, zkd0, zp_0_0 hP, zp_0_1 hP, zp_0_2 hP, zp_0_3 hP, zp_0_4 hP, zp_0_5 hP, zp_0_6 hP, zp_0_7 hP, zkd1, zp_1_0 hP, zkd3, znd3, zfx3, zp_3_0 hP, zp_3_1 hP, zkd26, zp_26_0 hP, zp_26_1 hP, zp_26_2 hP, zkd46, zp_46_0 hP, zkd48, zp_48_0 hP, hD.2.1]
    exact h0
  by_cases e9 : k = 9
  · rw [e9]
    rw [if_neg e0, if_neg e1, if_neg e2, if_neg e3, if_neg e4, if_neg e5, if_neg e6, if_neg e7, if_neg e8, if_pos e9] at h0
    simp only [w82_0, w82_1_9, w82_120, w82_121, w82_124, w82_127, zk_sI, zk_sJ, zk_sP, zn_sI, zn_sJ, zn_sP, zI_sI, zI_sJ, zI_sP, zJ_sI, zJ_sJ, zJ_sP, zP_sI, zP_sJ, zP_sP, Option.toList_some, Option.toList_none, List.cons_append, List.nil_append, zk_of hP.1, zn_of hP.1, zix, ziN, ne_eq, reduceCtorEq, not_false_eq_true, true_and, and_true, Option.getD_some, Nat.reduceLeDiff, Nat.reduceLT, c_ofNat, zkd0, zp_0_0 hP, zp_0_1 hP, zp_0_2 hP, zp_0_3 hP, zp_0_4 hP, zp_0_5 hP, zp_0_6 hP, zp_0_7 hP, zkd1, zp_1_0 hP, zkd3, znd3, zfx3, zp_3_0 hP, zp_3_1 hP, zkd26, zp_26_0 hP, zp_26_1 hP, zp_26_2 hP, zkd46, zp_46_0 hP, zkd48, zp_48_0 hP, hD.2.2.1]
    exact h0
  rw [if_neg e0, if_neg e1, if_neg e2, if_neg e3, if_neg e4, if_neg e5, if_neg e6, if_neg e7, if_neg e8, if_neg e9] at h0
  simp only [w82_0, w82_1_e (out_9 e0 e1 e2 e3 e4 e5 e6 e7 e8 e9), w82_128, w82_130, zk_sI, zk_sJ, zk_sP, zn_sI, zn_sJ, zn_sP, zI_sI, zI_sJ, zI_sP, zJ_sI, zJ_sJ, zJ_sP, zP_sI, zP_sJ, zP_sP, Option.toList_some, Option.toList_none, List.cons_append, List.nil_append]
  exact h0
theorem M163 {k : Int32} (hv : vQ q) (hP : zPk M) (hM : zKM q M) (h : ∀ M1, zDn M M1 → zKM q M1 → Q (some (.int (aCount q k))) M1) : zC X 163 [.ref 58, .int k] M Q := by
  have h0 := h M (zF_rf _ _) hM
  obtain ⟨hA, hB, hL, hD, -, -, -, hFi⟩ := hM
  change zf_I M 58 40 = qF q at hFi
  unfold aCount at h0
  have v : ∀ j, j < 6 → vp_in (nI j) 6 = True := fun j hj => n_in hj (by decide)
  have v0 : vp_in 0 6 = True := v 0 (by decide)
  have v1 : vp_in 1 6 = True := v 1 (by decide)
  have v2 : vp_in 2 6 = True := v 2 (by decide)
  have v3 : vp_in 3 6 = True := v 3 (by decide)
  have v4 : vp_in 4 6 = True := v 4 (by decide)
  have v5 : vp_in 5 6 = True := v 5 (by decide)
  have b0 : zf_I M 60 (Int32.toNatClampNeg 0) = zvo (zat (qB q).1 0) := (hB 0 (by decide)).1
  have b1 : zf_I M 60 (Int32.toNatClampNeg 1) = zvo (zat (qB q).1 1) := (hB 1 (by decide)).1
  have b2 : zf_I M 60 (Int32.toNatClampNeg 2) = zvo (zat (qB q).1 2) := (hB 2 (by decide)).1
  have b3 : zf_I M 60 (Int32.toNatClampNeg 3) = zvo (zat (qB q).2 0) := (hB 0 (by decide)).2
  have b4 : zf_I M 60 (Int32.toNatClampNeg 4) = zvo (zat (qB q).2 1) := (hB 1 (by decide)).2
  have b5 : zf_I M 60 (Int32.toNatClampNeg 5) = zvo (zat (qB q).2 2) := (hB 2 (by decide)).2
  rw [c163]

  by_cases e0 : k = 0
  · rw [e0]
    rw [if_pos e0] at h0
    simp only [w163_0, w163_1_0, w163_56, w163_57, w163_60, zk_sI, zk_sJ, zk_sP, zn_sI, zn_sJ, zn_sP, zI_sI, zI_sJ, zI_sP, zJ_sI, zJ_sJ, zJ_sP, zP_sI, zP_sJ, zP_sP, Option.toList_some, Option.toList_none, List.cons_append, List.nil_append, zk_of hP.1, zn_of hP.1, zix, ziN, ne_eq, reduceCtorEq, not_false_eq_true, true_and, and_true, Option.getD_some, Nat.reduceLeDiff, Nat.reduceLT, c_ofNat, zkd58, zp_58_1 hP, zp_58_2 hP, zp_58_6 hP, zp_58_7 hP, zp_58_10 hP, zp_58_11 hP, zp_58_12 hP, zp_58_14 hP, zp_58_15 hP, zp_58_17 hP, zp_58_18 hP, zp_58_19 hP, zp_58_20 hP, zp_58_21 hP, zp_58_22 hP, zp_58_24 hP, zp_58_26 hP, zp_58_29 hP, zp_58_32 hP, zp_58_33 hP, zp_58_34 hP, zp_58_35 hP, zp_58_36 hP, zp_58_37 hP, zp_58_38 hP, zp_58_39 hP, hA.1]
    exact h0
  by_cases e1 : k = 1
  · rw [e1]
    rw [if_neg e0, if_pos e1] at h0
    simp only [w163_0, w163_1_1, w163_61, w163_62, w163_65, w163_66, w163_67, w163_68, w163_71, w163_72, w163_73, w163_74, w163_77, w163_78, w163_79, w163_82, zk_sI, zk_sJ, zk_sP, zn_sI, zn_sJ, zn_sP, zI_sI, zI_sJ, zI_sP, zJ_sI, zJ_sJ, zJ_sP, zP_sI, zP_sJ, zP_sP, Option.toList_some, Option.toList_none, List.cons_append, List.nil_append, zk_of hP.1, zn_of hP.1, zix, ziN, ne_eq, reduceCtorEq, not_false_eq_true, true_and, and_true, Option.getD_some, Nat.reduceLeDiff, Nat.reduceLT, c_ofNat, zkd58, zp_58_1 hP, zp_58_2 hP, zp_58_6 hP, zp_58_7 hP, zp_58_10 hP, zp_58_11 hP, zp_58_12 hP, zp_58_14 hP, zp_58_15 hP, zp_58_17 hP, zp_58_18 hP, zp_58_19 hP, zp_58_20 hP, zp_58_21 hP, zp_58_22 hP, zp_58_24 hP, zp_58_26 hP, zp_58_29 hP, zp_58_32 hP, zp_58_33 hP, zp_58_34 hP, zp_58_35 hP, zp_58_36 hP, zp_58_37 hP, zp_58_38 hP, zp_58_39 hP, zkd60, znd60, zfx60, v0, v1, v2, v3, v4, v5, b0, b1, b2, b3, b4, b5]
    refine s111 ?_
    rw [many_z hv.2.1.1 hv.1.1]
    simp only [w163_82, zk_sI, zk_sJ, zk_sP, zn_sI, zn_sJ, zn_sP, zI_sI, zI_sJ, zI_sP, zJ_sI, zJ_sJ, zJ_sP, zP_sI, zP_sJ, zP_sP, Option.toList_some, Option.toList_none, List.cons_append, List.nil_append]
    exact h0
  by_cases e2 : k = 2
  · rw [e2]
    rw [if_neg e0, if_neg e1, if_pos e2] at h0
    simp only [w163_0, w163_1_2, w163_83, w163_84, w163_87, w163_88, w163_89, w163_90, w163_93, w163_94, w163_95, w163_96, w163_99, w163_100, w163_101, w163_104, zk_sI, zk_sJ, zk_sP, zn_sI, zn_sJ, zn_sP, zI_sI, zI_sJ, zI_sP, zJ_sI, zJ_sJ, zJ_sP, zP_sI, zP_sJ, zP_sP, Option.toList_some, Option.toList_none, List.cons_append, List.nil_append, zk_of hP.1, zn_of hP.1, zix, ziN, ne_eq, reduceCtorEq, not_false_eq_true, true_and, and_true, Option.getD_some, Nat.reduceLeDiff, Nat.reduceLT, c_ofNat, zkd58, zp_58_1 hP, zp_58_2 hP, zp_58_6 hP, zp_58_7 hP, zp_58_10 hP, zp_58_11 hP, zp_58_12 hP, zp_58_14 hP, zp_58_15 hP, zp_58_17 hP, zp_58_18 hP, zp_58_19 hP, zp_58_20 hP, zp_58_21 hP, zp_58_22 hP, zp_58_24 hP, zp_58_26 hP, zp_58_29 hP, zp_58_32 hP, zp_58_33 hP, zp_58_34 hP, zp_58_35 hP, zp_58_36 hP, zp_58_37 hP, zp_58_38 hP, zp_58_39 hP, zkd60, znd60, zfx60, v0, v1, v2, v3, v4, v5, b0, b1, b2, b3, b4, b5]
    refine s111 ?_
    rw [many_z hv.2.1.2 hv.1.1]
    simp only [w163_104, zk_sI, zk_sJ, zk_sP, zn_sI, zn_sJ, zn_sP, zI_sI, zI_sJ, zI_sP, zJ_sI, zJ_sJ, zJ_sP, zP_sI, zP_sJ, zP_sP, Option.toList_some, Option.toList_none, List.cons_append, List.nil_append]
    exact h0
  by_cases e3 : k = 3
  · rw [e3]
    rw [if_neg e0, if_neg e1, if_neg e2, if_pos e3] at h0
    simp only [w163_0, w163_1_3, w163_105, w163_106, w163_109, zk_sI, zk_sJ, zk_sP, zn_sI, zn_sJ, zn_sP, zI_sI, zI_sJ, zI_sP, zJ_sI, zJ_sJ, zJ_sP, zP_sI, zP_sJ, zP_sP, Option.toList_some, Option.toList_none, List.cons_append, List.nil_append, zk_of hP.1, zn_of hP.1, zix, ziN, ne_eq, reduceCtorEq, not_false_eq_true, true_and, and_true, Option.getD_some, Nat.reduceLeDiff, Nat.reduceLT, c_ofNat, zkd58, zp_58_1 hP, zp_58_2 hP, zp_58_6 hP, zp_58_7 hP, zp_58_10 hP, zp_58_11 hP, zp_58_12 hP, zp_58_14 hP, zp_58_15 hP, zp_58_17 hP, zp_58_18 hP, zp_58_19 hP, zp_58_20 hP, zp_58_21 hP, zp_58_22 hP, zp_58_24 hP, zp_58_26 hP, zp_58_29 hP, zp_58_32 hP, zp_58_33 hP, zp_58_34 hP, zp_58_35 hP, zp_58_36 hP, zp_58_37 hP, zp_58_38 hP, zp_58_39 hP, hL.1]
    exact h0
  by_cases e4 : k = 4
  · rw [e4]
    rw [if_neg e0, if_neg e1, if_neg e2, if_neg e3, if_pos e4] at h0
    simp only [w163_0, w163_1_4, w163_110, w163_111, w163_114, zk_sI, zk_sJ, zk_sP, zn_sI, zn_sJ, zn_sP, zI_sI, zI_sJ, zI_sP, zJ_sI, zJ_sJ, zJ_sP, zP_sI, zP_sJ, zP_sP, Option.toList_some, Option.toList_none, List.cons_append, List.nil_append, zk_of hP.1, zn_of hP.1, zix, ziN, ne_eq, reduceCtorEq, not_false_eq_true, true_and, and_true, Option.getD_some, Nat.reduceLeDiff, Nat.reduceLT, c_ofNat, zkd58, zp_58_1 hP, zp_58_2 hP, zp_58_6 hP, zp_58_7 hP, zp_58_10 hP, zp_58_11 hP, zp_58_12 hP, zp_58_14 hP, zp_58_15 hP, zp_58_17 hP, zp_58_18 hP, zp_58_19 hP, zp_58_20 hP, zp_58_21 hP, zp_58_22 hP, zp_58_24 hP, zp_58_26 hP, zp_58_29 hP, zp_58_32 hP, zp_58_33 hP, zp_58_34 hP, zp_58_35 hP, zp_58_36 hP, zp_58_37 hP, zp_58_38 hP, zp_58_39 hP, hL.2.1]
    exact h0
  by_cases e5 : k = 5
  · rw [e5]
    rw [if_neg e0, if_neg e1, if_neg e2, if_neg e3, if_neg e4, if_pos e5] at h0
    simp only [w163_0, w163_1_5, w163_115, w163_116, w163_119, zk_sI, zk_sJ, zk_sP, zn_sI, zn_sJ, zn_sP, zI_sI, zI_sJ, zI_sP, zJ_sI, zJ_sJ, zJ_sP, zP_sI, zP_sJ, zP_sP, Option.toList_some, Option.toList_none, List.cons_append, List.nil_append, zk_of hP.1, zn_of hP.1, zix, ziN, ne_eq, reduceCtorEq, not_false_eq_true, true_and, and_true, Option.getD_some, Nat.reduceLeDiff, Nat.reduceLT, c_ofNat, zkd58, zp_58_1 hP, zp_58_2 hP, zp_58_6 hP, zp_58_7 hP, zp_58_10 hP, zp_58_11 hP, zp_58_12 hP, zp_58_14 hP, zp_58_15 hP, zp_58_17 hP, zp_58_18 hP, zp_58_19 hP, zp_58_20 hP, zp_58_21 hP, zp_58_22 hP, zp_58_24 hP, zp_58_26 hP, zp_58_29 hP, zp_58_32 hP, zp_58_33 hP, zp_58_34 hP, zp_58_35 hP, zp_58_36 hP, zp_58_37 hP, zp_58_38 hP, zp_58_39 hP, hD.1]
    exact h0
  by_cases e6 : k = 6
  · rw [e6]
    rw [if_neg e0, if_neg e1, if_neg e2, if_neg e3, if_neg e4, if_neg e5, if_pos e6] at h0
    simp only [w163_0, w163_1_6, w163_120, w163_121, w163_124, zk_sI, zk_sJ, zk_sP, zn_sI, zn_sJ, zn_sP, zI_sI, zI_sJ, zI_sP, zJ_sI, zJ_sJ, zJ_sP, zP_sI, zP_sJ, zP_sP, Option.toList_some, Option.toList_none, List.cons_append, List.nil_append, zk_of hP.1, zn_of hP.1, zix, ziN, ne_eq, reduceCtorEq, not_false_eq_true, true_and, and_true, Option.getD_some, Nat.reduceLeDiff, Nat.reduceLT, c_ofNat, zkd58, zp_58_1 hP, zp_58_2 hP, zp_58_6 hP, zp_58_7 hP, zp_58_10 hP, zp_58_11 hP, zp_58_12 hP, zp_58_14 hP, zp_58_15 hP, zp_58_17 hP, zp_58_18 hP, zp_58_19 hP, zp_58_20 hP, zp_58_21 hP, zp_58_22 hP, zp_58_24 hP, zp_58_26 hP, zp_58_29 hP, zp_58_32 hP, zp_58_33 hP, zp_58_34 hP, zp_58_35 hP, zp_58_36 hP, zp_58_37 hP, zp_58_38 hP, zp_58_39 hP, hFi]
    exact h0
  by_cases e7 : k = 7
  · rw [e7]
    rw [if_neg e0, if_neg e1, if_neg e2, if_neg e3, if_neg e4, if_neg e5, if_neg e6, if_pos e7] at h0
    simp only [w163_0, w163_1_7, w163_125, w163_126, w163_129, zk_sI, zk_sJ, zk_sP, zn_sI, zn_sJ, zn_sP, zI_sI, zI_sJ, zI_sP, zJ_sI, zJ_sJ, zJ_sP, zP_sI, zP_sJ, zP_sP, Option.toList_some, Option.toList_none, List.cons_append, List.nil_append, zk_of hP.1, zn_of hP.1, zix, ziN, ne_eq, reduceCtorEq, not_false_eq_true, true_and, and_true, Option.getD_some, Nat.reduceLeDiff, Nat.reduceLT, c_ofNat, zkd58, zp_58_1 hP, zp_58_2 hP, zp_58_6 hP, zp_58_7 hP, zp_58_10 hP, zp_58_11 hP, zp_58_12 hP, zp_58_14 hP, zp_58_15 hP, zp_58_17 hP, zp_58_18 hP, zp_58_19 hP, zp_58_20 hP, zp_58_21 hP, zp_58_22 hP, zp_58_24 hP, zp_58_26 hP, zp_58_29 hP, zp_58_32 hP, zp_58_33 hP, zp_58_34 hP, zp_58_35 hP, zp_58_36 hP, zp_58_37 hP, zp_58_38 hP, zp_58_39 hP, hL.2.2]
    exact h0
  by_cases e8 : k = 8
  · rw [e8]
    rw [if_neg e0, if_neg e1, if_neg e2, if_neg e3, if_neg e4, if_neg e5, if_neg e6, if_neg e7, if_pos e8] at h0
    simp only [w163_0, w163_1_8, w163_130, w163_131, w163_134, zk_sI, zk_sJ, zk_sP, zn_sI, zn_sJ, zn_sP, zI_sI, zI_sJ, zI_sP, zJ_sI, zJ_sJ, zJ_sP, zP_sI, zP_sJ, zP_sP, Option.toList_some, Option.toList_none, List.cons_append, List.nil_append, zk_of hP.1, zn_of hP.1, zix, ziN, ne_eq, reduceCtorEq, not_false_eq_true, true_and, and_true, Option.getD_some, Nat.reduceLeDiff, Nat.reduceLT, c_ofNat, zkd58, zp_58_1 hP, zp_58_2 hP, zp_58_6 hP, zp_58_7 hP, zp_58_10 hP, zp_58_11 hP, zp_58_12 hP, zp_58_14 hP, zp_58_15 hP, zp_58_17 hP, zp_58_18 hP, zp_58_19 hP, zp_58_20 hP, zp_58_21 hP, zp_58_22 hP, zp_58_24 hP, zp_58_26 hP, zp_58_29 hP, zp_58_32 hP, zp_58_33 hP, zp_58_34 hP, zp_58_35 hP, zp_58_36 hP, zp_58_37 hP, zp_58_38 hP, zp_58_39 hP, hD.2.1]
    exact h0
  by_cases e9 : k = 9
  · rw [e9]
    rw [if_neg e0, if_neg e1, if_neg e2, if_neg e3, if_neg e4, if_neg e5, if_neg e6, if_neg e7, if_neg e8, if_pos e9] at h0
    simp only [w163_0, w163_1_9, w163_135, w163_136, w163_139, zk_sI, zk_sJ, zk_sP, zn_sI, zn_sJ, zn_sP, zI_sI, zI_sJ, zI_sP, zJ_sI, zJ_sJ, zJ_sP, zP_sI, zP_sJ, zP_sP, Option.toList_some, Option.toList_none, List.cons_append, List.nil_append, zk_of hP.1, zn_of hP.1, zix, ziN, ne_eq, reduceCtorEq, not_false_eq_true, true_and, and_true, Option.getD_some, Nat.reduceLeDiff, Nat.reduceLT, c_ofNat, zkd58, zp_58_1 hP, zp_58_2 hP, zp_58_6 hP, zp_58_7 hP, zp_58_10 hP, zp_58_11 hP, zp_58_12 hP, zp_58_14 hP, zp_58_15 hP, zp_58_17 hP, zp_58_18 hP, zp_58_19 hP, zp_58_20 hP, zp_58_21 hP, zp_58_22 hP, zp_58_24 hP, zp_58_26 hP, zp_58_29 hP, zp_58_32 hP, zp_58_33 hP, zp_58_34 hP, zp_58_35 hP, zp_58_36 hP, zp_58_37 hP, zp_58_38 hP, zp_58_39 hP, hD.2.2.1]
    exact h0
  rw [if_neg e0, if_neg e1, if_neg e2, if_neg e3, if_neg e4, if_neg e5, if_neg e6, if_neg e7, if_neg e8, if_neg e9] at h0
  simp only [w163_0, w163_1_e (out_9 e0 e1 e2 e3 e4 e5 e6 e7 e8 e9), w163_140, w163_142, zk_sI, zk_sJ, zk_sP, zn_sI, zn_sJ, zn_sP, zI_sI, zI_sJ, zI_sP, zJ_sI, zJ_sJ, zJ_sP, zP_sI, zP_sJ, zP_sP, Option.toList_some, Option.toList_none, List.cons_append, List.nil_append]
  exact h0
theorem out_2 {k : Int32} (h0 : k ≠ 0) (h1 : k ≠ 1) (h2 : k ≠ 2) : k.toInt < 0 ∨ 2 < k.toInt := by
  rw [ne_eq, ← Int32.toInt_inj] at h0 h1 h2
  rw [t_0] at h0
  rw [t_1] at h1
  rw [t_2] at h2
  omega
theorem t_10 : (10 : Int32).toInt = 10 := by decide
theorem t_15 : (15 : Int32).toInt = 15 := by decide
theorem t_16 : (16 : Int32).toInt = 16 := by decide
theorem pl_in {k : Int32} : (¬ k < 10 ∧ k < 16) ↔ zin k 10 15 := by
  show _ ↔ (10 ≤ k ∧ k ≤ 15)
  rw [Int32.lt_iff_toInt_lt, Int32.lt_iff_toInt_lt, Int32.le_iff_toInt_le, Int32.le_iff_toInt_le, t_10, t_15, t_16]
  omega
theorem pl_o {k : Int32} (h : zin k 10 15) : ∃ j, j < 6 ∧ k = nI (10 + j) ∧ k - 10 = nI j := by
  obtain ⟨n, n1, rfl, n2⟩ := zin_16 (h := 15) (by decide) (by decide) h
  have e : (10 : Int32) = nI 10 := rfl
  rw [e, n_le (by decide) (by omega)] at n2
  refine ⟨n - 10, by omega, by congr 1; omega, ?_⟩
  rw [e]
  exact pk_sub n2
theorem C75 {k : Int32} (hP : zPk M) (hC : zKC q M) (h : ∀ M1, zUp M M1 → zKC q M1 → Q (some (.int (aPl q k))) M1) : zC X 75 [.ref 0, .int k] M Q := by
  have h0 := h M (zUp_rf hP) hC
  have hp := hC.2.2.2.2.2.2.1
  unfold aPl at h0
  rw [c75]
  by_cases e0 : k = 0
  · rw [if_pos e0] at h0
    rw [e0]
    simp only [w75_0, w75_1_0, w75_28, w75_29, w75_32, w75_35, zk_sI, zk_sJ, zk_sP, zn_sI, zn_sJ, zn_sP, zI_sI, zI_sJ, zI_sP, zJ_sI, zJ_sJ, zJ_sP, zP_sI, zP_sJ, zP_sP, Option.toList_some, Option.toList_none, List.cons_append, List.nil_append, zk_of hP.1, zn_of hP.1, zix, ziN, ne_eq, reduceCtorEq, not_false_eq_true, true_and, and_true, Option.getD_some, Nat.reduceLeDiff, Nat.reduceLT, c_ofNat, zkd0, zp_0_0 hP, zp_0_1 hP, zp_0_2 hP, zp_0_3 hP, zp_0_4 hP, zp_0_5 hP, zp_0_6 hP, zp_0_7 hP, zkd43, zp_43_3 hP, hp.1]
    exact h0
  by_cases e1 : k = 1
  · rw [if_neg e0, if_pos e1] at h0
    rw [e1]
    simp only [w75_0, w75_1_1, w75_36, w75_37, w75_40, w75_43, zk_sI, zk_sJ, zk_sP, zn_sI, zn_sJ, zn_sP, zI_sI, zI_sJ, zI_sP, zJ_sI, zJ_sJ, zJ_sP, zP_sI, zP_sJ, zP_sP, Option.toList_some, Option.toList_none, List.cons_append, List.nil_append, zk_of hP.1, zn_of hP.1, zix, ziN, ne_eq, reduceCtorEq, not_false_eq_true, true_and, and_true, Option.getD_some, Nat.reduceLeDiff, Nat.reduceLT, c_ofNat, zkd0, zp_0_0 hP, zp_0_1 hP, zp_0_2 hP, zp_0_3 hP, zp_0_4 hP, zp_0_5 hP, zp_0_6 hP, zp_0_7 hP, zkd43, zp_43_3 hP, hp.2.1]
    exact h0
  by_cases e2 : k = 2
  · rw [if_neg e0, if_neg e1, if_pos e2] at h0
    rw [e2]
    simp only [w75_0, w75_1_2, w75_44, w75_45, w75_48, w75_51, zk_sI, zk_sJ, zk_sP, zn_sI, zn_sJ, zn_sP, zI_sI, zI_sJ, zI_sP, zJ_sI, zJ_sJ, zJ_sP, zP_sI, zP_sJ, zP_sP, Option.toList_some, Option.toList_none, List.cons_append, List.nil_append, zk_of hP.1, zn_of hP.1, zix, ziN, ne_eq, reduceCtorEq, not_false_eq_true, true_and, and_true, Option.getD_some, Nat.reduceLeDiff, Nat.reduceLT, c_ofNat, zkd0, zp_0_0 hP, zp_0_1 hP, zp_0_2 hP, zp_0_3 hP, zp_0_4 hP, zp_0_5 hP, zp_0_6 hP, zp_0_7 hP, zkd43, zp_43_3 hP, hp.2.2.1]
    exact h0
  rw [if_neg e0, if_neg e1, if_neg e2] at h0
  simp only [w75_0, w75_1_e (out_2 e0 e1 e2), w75_52, w75_53, w75_55, w75_58, w75_59, w75_61, w75_64, w75_66, w75_69, w75_70, w75_73, w75_76, w75_77, w75_79, w75_80, w75_81, zk_sI, zk_sJ, zk_sP, zn_sI, zn_sJ, zn_sP, zI_sI, zI_sJ, zI_sP, zJ_sI, zJ_sJ, zJ_sP, zP_sI, zP_sJ, zP_sP, Option.toList_some, Option.toList_none, List.cons_append, List.nil_append, zk_of hP.1, zn_of hP.1, zix, ziN, ne_eq, reduceCtorEq, not_false_eq_true, true_and, and_true, Option.getD_some, Nat.reduceLeDiff, Nat.reduceLT, c_ofNat, zkd0, zp_0_0 hP, zp_0_1 hP, zp_0_2 hP, zp_0_3 hP, zp_0_4 hP, zp_0_5 hP, zp_0_6 hP, zp_0_7 hP, zkd43, zp_43_3 hP, zkd44, znd44, zfx44]
  refine ⟨fun g => ?_, fun g => ⟨fun g2 => ?_, fun g2 => ?_⟩⟩
  · rw [if_neg (fun z => (pl_in.mpr z).1 g)] at h0
    exact h0
  · have hz := pl_in.mp ⟨g, g2⟩
    obtain ⟨j, j1, j2, j3⟩ := pl_o hz
    rw [if_pos hz, j3, n_cl (by omega)] at h0
    rw [j3, n_cl (by omega), hp.2.2.2 j j1]
    exact ⟨vp_in_nI j1 (by decide), h0⟩
  · rw [if_neg (fun z => g2 (pl_in.mpr z).2)] at h0
    exact h0
theorem M153 {k : Int32} (hP : zPk M) (hM : zKM q M) (h : ∀ M1, zDn M M1 → zKM q M1 → Q (some (.int (aPl q k))) M1) : zC X 153 [.ref 58, .int k] M Q := by
  have h0 := h M (zF_rf _ _) hM
  have hp := hM.2.2.2.2.2.1
  unfold aPl at h0
  rw [c153]
  simp only [w153_0, w153_1, w153_2, w153_3, w153_6, zk_sI, zk_sJ, zk_sP, zn_sI, zn_sJ, zn_sP, zI_sI, zI_sJ, zI_sP, zJ_sI, zJ_sJ, zJ_sP, zP_sI, zP_sJ, zP_sP, Option.toList_some, Option.toList_none, List.cons_append, List.nil_append]
  refine s103i 0 2 rfl rfl ?_
  simp only [w153_9, w153_12, w153_13, w153_16, w153_17, w153_18, w153_19, w153_20, w153_21, w153_24, w153_27, zk_sI, zk_sJ, zk_sP, zn_sI, zn_sJ, zn_sP, zI_sI, zI_sJ, zI_sP, zJ_sI, zJ_sJ, zJ_sP, zP_sI, zP_sJ, zP_sP, Option.toList_some, Option.toList_none, List.cons_append, List.nil_append, zk_of hP.1, zn_of hP.1, zix, ziN, ne_eq, reduceCtorEq, not_false_eq_true, true_and, and_true, Option.getD_some, Nat.reduceLeDiff, Nat.reduceLT, c_ofNat, zkd58, zp_58_1 hP, zp_58_2 hP, zp_58_6 hP, zp_58_7 hP, zp_58_10 hP, zp_58_11 hP, zp_58_12 hP, zp_58_14 hP, zp_58_15 hP, zp_58_17 hP, zp_58_18 hP, zp_58_19 hP, zp_58_20 hP, zp_58_21 hP, zp_58_22 hP, zp_58_24 hP, zp_58_26 hP, zp_58_29 hP, zp_58_32 hP, zp_58_33 hP, zp_58_34 hP, zp_58_35 hP, zp_58_36 hP, zp_58_37 hP, zp_58_38 hP, zp_58_39 hP, zkd78, znd78, zfx78, zB_0]
  refine ⟨fun g => ?_, fun g => ?_⟩
  · refine s103i 10 15 rfl rfl ?_
    have n0 : ¬ k = 0 := fun z => g (by rw [z]; decide)
    have n1 : ¬ k = 1 := fun z => g (by rw [z]; decide)
    have n2 : ¬ k = 2 := fun z => g (by rw [z]; decide)
    rw [if_neg n0, if_neg n1, if_neg n2] at h0
    simp only [w153_30, w153_33, w153_34, w153_37, w153_38, w153_40, w153_41, w153_42, w153_43, w153_46, w153_47, w153_50, w153_51, w153_53, w153_54, w153_55, w153_58, w153_60, zk_sI, zk_sJ, zk_sP, zn_sI, zn_sJ, zn_sP, zI_sI, zI_sJ, zI_sP, zJ_sI, zJ_sJ, zJ_sP, zP_sI, zP_sJ, zP_sP, Option.toList_some, Option.toList_none, List.cons_append, List.nil_append, zk_of hP.1, zn_of hP.1, zix, ziN, ne_eq, reduceCtorEq, not_false_eq_true, true_and, and_true, Option.getD_some, Nat.reduceLeDiff, Nat.reduceLT, c_ofNat, zkd58, zp_58_1 hP, zp_58_2 hP, zp_58_6 hP, zp_58_7 hP, zp_58_10 hP, zp_58_11 hP, zp_58_12 hP, zp_58_14 hP, zp_58_15 hP, zp_58_17 hP, zp_58_18 hP, zp_58_19 hP, zp_58_20 hP, zp_58_21 hP, zp_58_22 hP, zp_58_24 hP, zp_58_26 hP, zp_58_29 hP, zp_58_32 hP, zp_58_33 hP, zp_58_34 hP, zp_58_35 hP, zp_58_36 hP, zp_58_37 hP, zp_58_38 hP, zp_58_39 hP, zkd79, znd79, zfx79, zkd80, znd80, zfx80, zB_0]
    refine ⟨fun g2 => ?_, fun g2 => ?_⟩
    · rw [if_neg g2] at h0
      exact h0
    · have hz := Classical.not_not.mp g2
      obtain ⟨j, j1, j2, j3⟩ := pl_o hz
      rw [if_pos hz, j3, n_cl (by omega), ← hp.2.2.2 j j1] at h0
      rw [j3, n_cl (by omega)]
      refine ⟨vp_in_nI j1 (by decide), fun g3 => ?_, fun g3 => ⟨vp_in_nI j1 (by decide), ?_⟩⟩
      · rw [if_pos g3] at h0
        exact h0
      · rw [if_neg g3] at h0
        exact h0
  · have g := Classical.not_not.mp g
    obtain ⟨j, j1, rfl⟩ := zin_o (n := 2) rfl (by decide) g
    rw [n_cl (by omega)]
    refine ⟨vp_in_nI (by omega) (by decide), ?_⟩
    rcases (show j = 0 ∨ j = 1 ∨ j = 2 by omega) with rfl | rfl | rfl
    · rw [if_pos (show nI 0 = 0 from rfl)] at h0
      rw [hp.1]
      exact h0
    · rw [if_neg (show ¬ nI 1 = 0 by decide), if_pos (show nI 1 = 1 from rfl)] at h0
      rw [hp.2.1]
      exact h0
    · rw [if_neg (show ¬ nI 2 = 0 by decide), if_neg (show ¬ nI 2 = 1 by decide), if_pos (show nI 2 = 2 from rfl)] at h0
      rw [hp.2.2.1]
      exact h0
end ZCn
