/-! ===== side ===== -/
abbrev bSide (q : tQ) (s a b c : Int32) : Prop := zin s 0 1 ∧ bRow (qA q).1 a b c
def aSide (q : tQ) (s a b c : Int32) : Int32 := if bSide q s a b c then nI (rSize a b c) else -2
def nSide (q : tQ) (s a b c : Int32) : tQ := if bSide q s a b c then uB q (if s = 0 then (rRow a b c, (qB q).2) else ((qB q).1, rRow a b c)) else q
theorem vSide {q : tQ} (s a b c : Int32) (hv : vQ q) : vQ (nSide q s a b c) := by
  unfold nSide
  split
  next g =>
    have hr := (rRow_e g.2 hv.1.1).1
    refine ⟨hv.1, ?_, hv.2.2⟩
    by_cases e : s = 0
    · rw [if_pos e]
      exact ⟨hr, hv.2.1.2⟩
    · rw [if_neg e]
      exact ⟨hv.2.1.1, hr⟩
  next => exact hv
section ZSe2
variable {X : zf_X} {M : zf_M} {Q : Option Value → zf_M → Prop} {q : tQ} {n : Nat}
/-- isFighterOrNone -/
theorem s91 {a : Int32} (hP : zPk M) (hn : zf_I M 1 1 = nI n) (h : Q (some (.int (zB (a = -1 ∨ vhas n a)))) M) : zC X 91 [.ref 0, .int a] M Q := by
  rw [c91]
  simp only [w91_0, w91_1, w91_2, w91_5, w91_6, w91_9, w91_10, w91_13, w91_16, w91_17, w91_20, w91_21, zk_sI, zk_sJ, zk_sP, zn_sI, zn_sJ, zn_sP, zI_sI, zI_sJ, zI_sP, zJ_sI, zJ_sJ, zJ_sP, zP_sI, zP_sJ, zP_sP, Option.toList_some, Option.toList_none, List.cons_append, List.nil_append, zk_of hP.1, zn_of hP.1, zix, ziN, ne_eq, reduceCtorEq, not_false_eq_true, true_and, and_true, Option.getD_some, Nat.reduceLeDiff, Nat.reduceLT, c_ofNat, zkd0, zp_0_0 hP, zp_0_1 hP, zp_0_2 hP, zp_0_3 hP, zp_0_4 hP, zp_0_5 hP, zp_0_6 hP, zp_0_7 hP, zkd1, zp_1_0 hP]
  refine ⟨fun g => zB_1 (Or.inl g) h, fun g => s37n hP hn ?_⟩
  simp only [w91_0, w91_1, w91_2, w91_5, w91_6, w91_9, w91_10, w91_13, w91_16, w91_17, w91_20, w91_21, zk_sI, zk_sJ, zk_sP, zn_sI, zn_sJ, zn_sP, zI_sI, zI_sJ, zI_sP, zJ_sI, zJ_sJ, zJ_sP, zP_sI, zP_sJ, zP_sP, Option.toList_some, Option.toList_none, List.cons_append, List.nil_append, zB_0]
  exact ⟨fun g2 => zB_2 (fun z => z.elim g g2) h, fun g2 => zB_1 (Or.inr (Classical.not_not.mp g2)) h⟩
/-- rowSize -/
theorem s90 {a b c : Int32} (hP : zPk M) (hn : zf_I M 1 1 = nI n) (h : Q (some (.int (if bRow n a b c then nI (rSize a b c) else -2))) M) : zC X 90 [.ref 0, .int a, .int b, .int c] M Q := by
  have h0 : ¬ bRow n a b c → Q (some (.int (-2))) M := by
    intro g
    rw [if_neg g] at h
    exact h
  have h1 : bRow n a b c → ∀ k, rSize a b c = k → Q (some (.int (nI k))) M := by
    intro g k e
    rw [if_pos g, e] at h
    exact h
  have nn : ∀ {x : Prop}, ¬ ¬ x → x := Classical.not_not.mp
  rw [c90]
  simp only [w90_0, w90_1, w90_2, w90_5, w90_8, w90_9, w90_10, w90_13, w90_16, w90_17, w90_18, w90_21, w90_24, w90_26, w90_27, w90_28, w90_29, w90_32, w90_33, w90_34, w90_37, w90_38, w90_39, w90_42, w90_43, w90_46, w90_48, w90_49, w90_50, w90_51, w90_54, w90_55, w90_56, w90_59, w90_60, w90_63, w90_65, w90_66, w90_67, w90_68, w90_71, w90_72, w90_75, w90_76, zk_sI, zk_sJ, zk_sP, zn_sI, zn_sJ, zn_sP, zI_sI, zI_sJ, zI_sP, zJ_sI, zJ_sJ, zJ_sP, zP_sI, zP_sJ, zP_sP, Option.toList_some, Option.toList_none, List.cons_append, List.nil_append, zk_of hP.1, zn_of hP.1, zix, ziN, ne_eq, reduceCtorEq, not_false_eq_true, true_and, and_true, Option.getD_some, Nat.reduceLeDiff, Nat.reduceLT, c_ofNat, zkd0, zp_0_0 hP, zp_0_1 hP, zp_0_2 hP, zp_0_3 hP, zp_0_4 hP, zp_0_5 hP, zp_0_6 hP, zp_0_7 hP]
  refine s91 hP hn ?_
  simp only [w90_0, w90_1, w90_2, w90_5, w90_8, w90_9, w90_10, w90_13, w90_16, w90_17, w90_18, w90_21, w90_24, w90_26, w90_27, w90_28, w90_29, w90_32, w90_33, w90_34, w90_37, w90_38, w90_39, w90_42, w90_43, w90_46, w90_48, w90_49, w90_50, w90_51, w90_54, w90_55, w90_56, w90_59, w90_60, w90_63, w90_65, w90_66, w90_67, w90_68, w90_71, w90_72, w90_75, w90_76, zk_sI, zk_sJ, zk_sP, zn_sI, zn_sJ, zn_sP, zI_sI, zI_sJ, zI_sP, zJ_sI, zJ_sJ, zJ_sP, zP_sI, zP_sJ, zP_sP, Option.toList_some, Option.toList_none, List.cons_append, List.nil_append, zk_of hP.1, zn_of hP.1, zix, ziN, ne_eq, reduceCtorEq, not_false_eq_true, true_and, and_true, Option.getD_some, Nat.reduceLeDiff, Nat.reduceLT, c_ofNat, zkd0, zp_0_0 hP, zp_0_1 hP, zp_0_2 hP, zp_0_3 hP, zp_0_4 hP, zp_0_5 hP, zp_0_6 hP, zp_0_7 hP, zB_0]
  refine ⟨fun g => h0 (fun z => g z.1), fun ga => ?_⟩
  refine s91 hP hn ?_
  simp only [w90_0, w90_1, w90_2, w90_5, w90_8, w90_9, w90_10, w90_13, w90_16, w90_17, w90_18, w90_21, w90_24, w90_26, w90_27, w90_28, w90_29, w90_32, w90_33, w90_34, w90_37, w90_38, w90_39, w90_42, w90_43, w90_46, w90_48, w90_49, w90_50, w90_51, w90_54, w90_55, w90_56, w90_59, w90_60, w90_63, w90_65, w90_66, w90_67, w90_68, w90_71, w90_72, w90_75, w90_76, zk_sI, zk_sJ, zk_sP, zn_sI, zn_sJ, zn_sP, zI_sI, zI_sJ, zI_sP, zJ_sI, zJ_sJ, zJ_sP, zP_sI, zP_sJ, zP_sP, Option.toList_some, Option.toList_none, List.cons_append, List.nil_append, zk_of hP.1, zn_of hP.1, zix, ziN, ne_eq, reduceCtorEq, not_false_eq_true, true_and, and_true, Option.getD_some, Nat.reduceLeDiff, Nat.reduceLT, c_ofNat, zkd0, zp_0_0 hP, zp_0_1 hP, zp_0_2 hP, zp_0_3 hP, zp_0_4 hP, zp_0_5 hP, zp_0_6 hP, zp_0_7 hP, zB_0]
  refine ⟨fun g => h0 (fun z => g z.2.1), fun gb => ?_⟩
  refine s91 hP hn ?_
  simp only [w90_0, w90_1, w90_2, w90_5, w90_8, w90_9, w90_10, w90_13, w90_16, w90_17, w90_18, w90_21, w90_24, w90_26, w90_27, w90_28, w90_29, w90_32, w90_33, w90_34, w90_37, w90_38, w90_39, w90_42, w90_43, w90_46, w90_48, w90_49, w90_50, w90_51, w90_54, w90_55, w90_56, w90_59, w90_60, w90_63, w90_65, w90_66, w90_67, w90_68, w90_71, w90_72, w90_75, w90_76, zk_sI, zk_sJ, zk_sP, zn_sI, zn_sJ, zn_sP, zI_sI, zI_sJ, zI_sP, zJ_sI, zJ_sJ, zJ_sP, zP_sI, zP_sJ, zP_sP, Option.toList_some, Option.toList_none, List.cons_append, List.nil_append, zk_of hP.1, zn_of hP.1, zix, ziN, ne_eq, reduceCtorEq, not_false_eq_true, true_and, and_true, Option.getD_some, Nat.reduceLeDiff, Nat.reduceLT, c_ofNat, zkd0, zp_0_0 hP, zp_0_1 hP, zp_0_2 hP, zp_0_3 hP, zp_0_4 hP, zp_0_5 hP, zp_0_6 hP, zp_0_7 hP, zB_0]
  have ga := nn ga
  have gb := nn gb
  refine ⟨fun gc => ⟨fun ea => ⟨fun eb => ⟨fun ec => ?_, fun ec => ?_⟩, fun eb => ⟨fun ec => ?_, fun ec => ?_⟩⟩, fun ea => ⟨fun eb => ?_, fun eb => ⟨fun ec => ?_, fun ec => ?_⟩⟩⟩, fun g => h0 (fun z => g (fun y => y z.2.2.1))⟩
  · exact h1 ⟨ga, gb, nn gc, fun z => absurd z ea, fun z => absurd z eb⟩ 3 (by unfold rSize; rw [if_neg ea, if_neg eb, if_neg ec])
  · exact h1 ⟨ga, gb, nn gc, fun z => absurd z ea, fun z => absurd z eb⟩ 2 (by unfold rSize; rw [if_neg ea, if_neg eb, if_pos (nn ec)])
  · exact h0 (fun z => ec (z.2.2.2.2 (nn eb)))
  · exact h1 ⟨ga, gb, nn gc, fun z => absurd z ea, fun _ => nn ec⟩ 1 (by unfold rSize; rw [if_neg ea, if_pos (nn eb)])
  · exact h0 (fun z => eb (z.2.2.2.1 (nn ea)))
  · exact h0 (fun z => ec (z.2.2.2.2 (nn eb)))
  · exact h1 ⟨ga, gb, nn gc, fun _ => nn eb, fun _ => nn ec⟩ 0 (by unfold rSize; rw [if_pos (nn ea)])
/-- side, the class's -/
theorem C53 {s a b c : Int32} (hv : vQ q) (hP : zPk M) (hC : zKC q M) (h : ∀ M1, zUp M M1 → zKC (nSide q s a b c) M1 → Q (some (.int (aSide q s a b c))) M1) : zC X 53 [.ref 0, .int s, .int a, .int b, .int c] M Q := by
  have h16 := hv.1.1
  unfold nSide aSide at h
  have h0 : ¬ bSide q s a b c → Q (some (.int (-2))) M := by
    intro g
    have := h M (zUp_rf hP)
    rw [if_neg g, if_neg g] at this
    exact this hC
  rw [c53]
  simp only [w53_0, w53_1, w53_2, w53_3, w53_5, w53_8, w53_10, w53_11, w53_14, w53_17, w53_19, w53_21, w53_24, w53_26, w53_27, w53_28, w53_31, w53_32, w53_33, w53_34, w53_35, w53_37, w53_39, w53_42, w53_44, zk_sI, zk_sJ, zk_sP, zn_sI, zn_sJ, zn_sP, zI_sI, zI_sJ, zI_sP, zJ_sI, zJ_sJ, zJ_sP, zP_sI, zP_sJ, zP_sP, Option.toList_some, Option.toList_none, List.cons_append, List.nil_append, zk_of hP.1, zn_of hP.1, zix, ziN, ne_eq, reduceCtorEq, not_false_eq_true, true_and, and_true, Option.getD_some, Nat.reduceLeDiff, Nat.reduceLT, c_ofNat, zkd0, zp_0_0 hP, zp_0_1 hP, zp_0_2 hP, zp_0_3 hP, zp_0_4 hP, zp_0_5 hP, zp_0_6 hP, zp_0_7 hP]
  refine s90 hP hC.2.1.1 ?_
  simp only [w53_0, w53_1, w53_2, w53_3, w53_5, w53_8, w53_10, w53_11, w53_14, w53_17, w53_19, w53_21, w53_24, w53_26, w53_27, w53_28, w53_31, w53_32, w53_33, w53_34, w53_35, w53_37, w53_39, w53_42, w53_44, zk_sI, zk_sJ, zk_sP, zn_sI, zn_sJ, zn_sP, zI_sI, zI_sJ, zI_sP, zJ_sI, zJ_sJ, zJ_sP, zP_sI, zP_sJ, zP_sP, Option.toList_some, Option.toList_none, List.cons_append, List.nil_append]
  refine s84 ?_
  simp only [w53_0, w53_1, w53_2, w53_3, w53_5, w53_8, w53_10, w53_11, w53_14, w53_17, w53_19, w53_21, w53_24, w53_26, w53_27, w53_28, w53_31, w53_32, w53_33, w53_34, w53_35, w53_37, w53_39, w53_42, w53_44, zk_sI, zk_sJ, zk_sP, zn_sI, zn_sJ, zn_sP, zI_sI, zI_sJ, zI_sP, zJ_sI, zJ_sJ, zJ_sP, zP_sI, zP_sJ, zP_sP, Option.toList_some, Option.toList_none, List.cons_append, List.nil_append, zk_of hP.1, zn_of hP.1, zix, ziN, ne_eq, reduceCtorEq, not_false_eq_true, true_and, and_true, Option.getD_some, Nat.reduceLeDiff, Nat.reduceLT, c_ofNat, zkd0, zp_0_0 hP, zp_0_1 hP, zp_0_2 hP, zp_0_3 hP, zp_0_4 hP, zp_0_5 hP, zp_0_6 hP, zp_0_7 hP, zB_0]
  refine ⟨fun g => h0 (fun z => g (side_in.mpr z.1)), fun g => ?_⟩
  have g := Classical.not_not.mp g
  by_cases hb : bRow (qA q).1 a b c
  · have hbs : bSide q s a b c := ⟨side_in.mp g, hb⟩
    rw [if_pos hbs, if_pos hbs] at h
    rw [if_pos hb]
    have h3 := rSize_le a b c
    have hne : ¬ nI (rSize a b c) = -2 := by
      intro z
      have z2 := congrArg Int32.toInt z
      rw [nI_toInt (by omega), show (-2 : Int32).toInt = -2 from by decide] at z2
      omega
    obtain ⟨-, r0, r1, r2⟩ := rRow_e hb h16
    refine ⟨fun _ => ?_, fun z => absurd hne z⟩
    have hB := hC.2.2.1
    rcases g with rfl | rfl
    · simp only [w53_0, w53_1, w53_2, w53_3, w53_5, w53_8, w53_10, w53_11, w53_14, w53_17, w53_19, w53_21, w53_24, w53_26, w53_27, w53_28, w53_31, w53_32, w53_33, w53_34, w53_35, w53_37, w53_39, w53_42, w53_44, zk_sI, zk_sJ, zk_sP, zn_sI, zn_sJ, zn_sP, zI_sI, zI_sJ, zI_sP, zJ_sI, zJ_sJ, zJ_sP, zP_sI, zP_sJ, zP_sP, Option.toList_some, Option.toList_none, List.cons_append, List.nil_append, zk_of hP.1, zn_of hP.1, zix, ziN, ne_eq, reduceCtorEq, not_false_eq_true, true_and, and_true, Option.getD_some, Nat.reduceLeDiff, Nat.reduceLT, c_ofNat, zkd0, zp_0_0 hP, zp_0_1 hP, zp_0_2 hP, zp_0_3 hP, zp_0_4 hP, zp_0_5 hP, zp_0_6 hP, zp_0_7 hP, zkd3, znd3, zfx3, zp_3_0 hP, zp_3_1 hP, zkd46, zp_46_0 hP, zkd48, zp_48_0 hP, in02, in12, true_or, zp30 hP, zp31 hP]
      refine s41 (a := 46) (zRw_of hP (Or.inl rfl)) ?_
      simp only [w53_0, w53_1, w53_2, w53_3, w53_5, w53_8, w53_10, w53_11, w53_14, w53_17, w53_19, w53_21, w53_24, w53_26, w53_27, w53_28, w53_31, w53_32, w53_33, w53_34, w53_35, w53_37, w53_39, w53_42, w53_44, zk_sI, zk_sJ, zk_sP, zn_sI, zn_sJ, zn_sP, zI_sI, zI_sJ, zI_sP, zJ_sI, zJ_sJ, zJ_sP, zP_sI, zP_sJ, zP_sP, Option.toList_some, Option.toList_none, List.cons_append, List.nil_append]
      have hF : zF (fun c => c = 46 ∨ c = 47) M (zf_sI (zf_sI (zf_sI (zf_sI M (46 + 1) 0 a) (46 + 1) 1 b) (46 + 1) 2 c) 46 1 (nI (rSize a b c))) := zF_sI (zF_sI (zF_sI (zF_sI (zF_rf _ _) (by omega)) (by omega)) (by omega)) (by omega)
      refine h _ (zUp_F hP hF (fun c hc => by omega)) (zKC_B hC (zLO_F hC.1 hF (fun c x y => by omega)) (fun c j _ k => (hF.2.1 c (by omega) j).1) ⟨zI_eq, ?_, fun j hj => ⟨?_, ?_⟩⟩)
      · rw [(hF.2.1 48 (by omega) 1).1, if_pos rfl]
        exact hB.2.1
      · rw [if_pos rfl, zI_ne (by omega)]
        rcases (show j = 0 ∨ j = 1 ∨ j = 2 by omega) with rfl | rfl | rfl
        · rw [zI_ne (by omega), zI_ne (by omega), zI_eq]
          exact r0.symm
        · rw [zI_ne (by omega), zI_eq]
          exact r1.symm
        · rw [zI_eq]
          exact r2.symm
      · rw [(hF.2.1 49 (by omega) j).1, if_pos rfl]
        exact (hB.2.2 j hj).2
    · have n10 : ¬ (1 : Int32) = 0 := by decide
      simp only [w53_0, w53_1, w53_2, w53_3, w53_5, w53_8, w53_10, w53_11, w53_14, w53_17, w53_19, w53_21, w53_24, w53_26, w53_27, w53_28, w53_31, w53_32, w53_33, w53_34, w53_35, w53_37, w53_39, w53_42, w53_44, zk_sI, zk_sJ, zk_sP, zn_sI, zn_sJ, zn_sP, zI_sI, zI_sJ, zI_sP, zJ_sI, zJ_sJ, zJ_sP, zP_sI, zP_sJ, zP_sP, Option.toList_some, Option.toList_none, List.cons_append, List.nil_append, zk_of hP.1, zn_of hP.1, zix, ziN, ne_eq, reduceCtorEq, not_false_eq_true, true_and, and_true, Option.getD_some, Nat.reduceLeDiff, Nat.reduceLT, c_ofNat, zkd0, zp_0_0 hP, zp_0_1 hP, zp_0_2 hP, zp_0_3 hP, zp_0_4 hP, zp_0_5 hP, zp_0_6 hP, zp_0_7 hP, zkd3, znd3, zfx3, zp_3_0 hP, zp_3_1 hP, zkd46, zp_46_0 hP, zkd48, zp_48_0 hP, in02, in12, true_or, zp30 hP, zp31 hP]
      refine s41 (a := 48) (zRw_of hP (Or.inr (Or.inl rfl))) ?_
      simp only [w53_0, w53_1, w53_2, w53_3, w53_5, w53_8, w53_10, w53_11, w53_14, w53_17, w53_19, w53_21, w53_24, w53_26, w53_27, w53_28, w53_31, w53_32, w53_33, w53_34, w53_35, w53_37, w53_39, w53_42, w53_44, zk_sI, zk_sJ, zk_sP, zn_sI, zn_sJ, zn_sP, zI_sI, zI_sJ, zI_sP, zJ_sI, zJ_sJ, zJ_sP, zP_sI, zP_sJ, zP_sP, Option.toList_some, Option.toList_none, List.cons_append, List.nil_append]
      have hF : zF (fun c => c = 48 ∨ c = 49) M (zf_sI (zf_sI (zf_sI (zf_sI M (48 + 1) 0 a) (48 + 1) 1 b) (48 + 1) 2 c) 48 1 (nI (rSize a b c))) := zF_sI (zF_sI (zF_sI (zF_sI (zF_rf _ _) (by omega)) (by omega)) (by omega)) (by omega)
      refine h _ (zUp_F hP hF (fun c hc => by omega)) (zKC_B hC (zLO_F hC.1 hF (fun c x y => by omega)) (fun c j _ k => (hF.2.1 c (by omega) j).1) ⟨?_, ?_, fun j hj => ⟨?_, ?_⟩⟩)
      · rw [(hF.2.1 46 (by omega) 1).1, if_neg n10]
        exact hB.1
      · rw [if_neg n10]
        exact zI_eq
      · rw [(hF.2.1 47 (by omega) j).1, if_neg n10]
        exact (hB.2.2 j hj).1
      · rw [if_neg n10, zI_ne (by omega)]
        rcases (show j = 0 ∨ j = 1 ∨ j = 2 by omega) with rfl | rfl | rfl
        · rw [zI_ne (by omega), zI_ne (by omega), zI_eq]
          exact r0.symm
        · rw [zI_ne (by omega), zI_eq]
          exact r1.symm
        · rw [zI_eq]
          exact r2.symm
  · rw [if_neg hb]
    exact ⟨fun z => absurd rfl z, fun _ => h0 (fun z => hb z.2)⟩
end ZSe2

