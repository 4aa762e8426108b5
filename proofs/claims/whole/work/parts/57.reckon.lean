/-! ===== Odds: the reckoning ===== -/
/-- as zF, but the two layers may have changed places -/
def zG (S : Nat → Prop) (M M1 : zf_M) : Prop := M1.1 = M.1 ∧ (∀ b, ¬ S b → ∀ j, zf_I M1 b j = zf_I M b j ∧ zf_J M1 b j = zf_J M b j) ∧ ∀ b j, ¬ (b = 12 ∧ (j = 5 ∨ j = 6)) → zf_P M1 b j = zf_P M b j
theorem zG_F {S : Nat → Prop} {M M1 : zf_M} (h : zF S M M1) : zG S M M1 := ⟨h.1, h.2.1, fun b j _ => h.2.2 b j⟩
theorem zG_tr {S : Nat → Prop} {M M1 M2 : zf_M} (h : zG S M M1) (h2 : zG S M1 M2) : zG S M M2 := ⟨h2.1.trans h.1, fun b hb j => ⟨((h2.2.1 b hb j).1).trans (h.2.1 b hb j).1, ((h2.2.1 b hb j).2).trans (h.2.1 b hb j).2⟩, fun b j hj => (h2.2.2 b j hj).trans (h.2.2 b j hj)⟩
theorem zG_12 {S : Nat → Prop} {M : zf_M} {f : Nat} {q : Option Nat} (hf : f = 5 ∨ f = 6) : zG S M (zf_sP M 12 f q) := by
  refine ⟨rfl, fun _ _ _ => ⟨rfl, rfl⟩, fun b j hj => ?_⟩
  rw [zP_sP]
  by_cases h : b = 12
  · rw [if_pos h, if_neg (fun z => hj ⟨h, by rw [z]; exact hf⟩)]
  · rw [if_neg h]
theorem zPk_G {S : Nat → Prop} {M M1 : zf_M} (h : zPk M) (hG : zG S M M1) : zPk M1 := by
  refine ⟨hG.1.trans h.1, fun e he => ?_⟩
  have key : ∀ e ∈ zPL, ¬ (e.1 = 12 ∧ (e.2.1 = 5 ∨ e.2.1 = 6)) := by decide +kernel
  rw [hG.2.2 _ _ (key e he)]
  exact h.2 e he
theorem zFP_G {S : Nat → Prop} {p : zPm} {M M1 : zf_M} (h : zFP p M) (hF : zG S M M1) (hS : ∀ b, 4 ≤ b → b ≤ 11 → ¬ S b) : zFP p M1 := by
  obtain ⟨h1, h2, h3, h4, h5, h6⟩ := h
  have e : ∀ b, 4 ≤ b → b ≤ 11 → ∀ j, zf_I M1 b j = zf_I M b j := fun b x y j => (hF.2.1 b (hS b x y) j).1
  refine ⟨by rw [e 4 (by omega) (by omega)]; exact h1, fun i hi => by rw [e 11 (by omega) (by omega)]; exact h2 i hi, fun i hi => ?_, by rw [e 4 (by omega) (by omega)]; exact h4, by rw [e 4 (by omega) (by omega)]; exact h5, by rw [e 4 (by omega) (by omega)]; exact h6⟩
  rw [e 5 (by omega) (by omega), e 6 (by omega) (by omega), e 7 (by omega) (by omega), e 8 (by omega) (by omega), e 9 (by omega) (by omega)]
  exact h3 i hi
/-- the two layers -/
def zLO (M : zf_M) : Prop := ∃ a b n m, (a = 16 ∧ b = 21 ∨ a = 21 ∧ b = 16) ∧ zf_P M 12 5 = some a ∧ zf_P M 12 6 = some b ∧ zLI M a n ∧ zLI M b m
section ZRk
variable {X : zf_X} {M : zf_M} {Q : Option Value → zf_M → Prop} {p : zPm}
/-- clear -/
theorem s30 {a b n m : Nat} (hP : zPk M) (hab : a = 16 ∧ b = 21 ∨ a = 21 ∧ b = 16) (h5 : zf_P M 12 5 = some a) (h6 : zf_P M 12 6 = some b) (ha : zLI M a n) (hb : zLI M b m) (h : ∀ M1, zF (fun c => 12 ≤ c ∧ c ≤ 25) M M1 → zLI M1 a 0 → zLI M1 b 0 → zAM M1 zA0 → zf_I M1 12 1 = 0 → Q none M1) : zC X 30 [.ref 12] M Q := by
  rw [c30]
  have hka : zkd a = 3 := by rcases hab with ⟨rfl, -⟩ | ⟨rfl, -⟩ <;> rfl
  have hkb : zkd b = 3 := by rcases hab with ⟨-, rfl⟩ | ⟨-, rfl⟩ <;> rfl
  have la := zLy_of hP (show a = 16 ∨ a = 21 by omega)
  have lb := zLy_of hP (show b = 16 ∨ b = 21 by omega)
  simp only [w30_0, w30_1, w30_4, w30_7, w30_8, w30_11, w30_14, w30_15, w30_16, w30_19, w30_20, w30_22, w30_23, w30_26, w30_27, w30_30, w30_31, w30_34, w30_35, w30_36, w30_37, w30_40, w30_43, w30_44, w30_46, w30_47, w30_50, w30_51, w30_54, w30_55, w30_58, w30_59, w30_60, w30_61, w30_64, w30_67, w30_68, w30_70, w30_71, w30_74, w30_75, w30_78, w30_79, w30_82, w30_83, w30_84, w30_85, w30_88, w30_91, zk_sI, zk_sJ, zk_sP, zn_sI, zn_sJ, zn_sP, zI_sI, zI_sJ, zI_sP, zJ_sI, zJ_sJ, zJ_sP, zP_sI, zP_sJ, zP_sP, Option.toList_some, Option.toList_none, List.cons_append, List.nil_append, zk_of hP.1, zn_of hP.1, zix, ziN, ne_eq, reduceCtorEq, not_false_eq_true, true_and, and_true, Option.getD_some, Nat.reduceLeDiff, Nat.reduceLT, c_ofNat, zkd4, zp_4_0 hP, zp_4_1 hP, zp_4_2 hP, zp_4_3 hP, zp_4_4 hP, zp_4_5 hP, zp_4_6 hP, zkd12, zp_12_2 hP, zp_12_3 hP, zp_12_4 hP, zkd13, znd13, zfx13, zkd14, znd14, zfx14, zkd15, znd15, zfx15, h5, h6, hka, hkb]
  refine s23 la ha (fun M1 g1 g2 => ?_)
  have hP1 := zPk_F hP g1
  have e6 : zf_P M1 12 6 = some b := by rw [g1.2.2]; exact h6
  have e5 : zf_P M1 12 5 = some a := by rw [g1.2.2]; exact h5
  simp only [w30_0, w30_1, w30_4, w30_7, w30_8, w30_11, w30_14, w30_15, w30_16, w30_19, w30_20, w30_22, w30_23, w30_26, w30_27, w30_30, w30_31, w30_34, w30_35, w30_36, w30_37, w30_40, w30_43, w30_44, w30_46, w30_47, w30_50, w30_51, w30_54, w30_55, w30_58, w30_59, w30_60, w30_61, w30_64, w30_67, w30_68, w30_70, w30_71, w30_74, w30_75, w30_78, w30_79, w30_82, w30_83, w30_84, w30_85, w30_88, w30_91, zk_sI, zk_sJ, zk_sP, zn_sI, zn_sJ, zn_sP, zI_sI, zI_sJ, zI_sP, zJ_sI, zJ_sJ, zJ_sP, zP_sI, zP_sJ, zP_sP, Option.toList_some, Option.toList_none, List.cons_append, List.nil_append, zk_of hP1.1, zn_of hP1.1, zix, ziN, ne_eq, reduceCtorEq, not_false_eq_true, true_and, and_true, Option.getD_some, Nat.reduceLeDiff, Nat.reduceLT, c_ofNat, zkd4, zp_4_0 hP1, zp_4_1 hP1, zp_4_2 hP1, zp_4_3 hP1, zp_4_4 hP1, zp_4_5 hP1, zp_4_6 hP1, zkd12, zp_12_2 hP1, zp_12_3 hP1, zp_12_4 hP1, zkd13, znd13, zfx13, zkd14, znd14, zfx14, zkd15, znd15, zfx15, e5, e6, hka, hkb]
  refine s23 (zLy_F lb g1) (zLI_F hb g1 (fun c x y => by omega)) (fun M2 k1 k2 => ?_)
  have k3 := zLI_F g2 k1 (fun c x y => by omega)
  have hP2 := zPk_F hP1 k1
  have hF2 : zF (fun c => 12 ≤ c ∧ c ≤ 25) M M2 := zF_tr (zF_mo g1 (fun c hc => by omega)) (zF_mo k1 (fun c hc => by omega))
  clear g1 g2 k1 hP1 e5 e6
  have l3 : ∀ (q i : Nat) (M3 : zf_M), i + q = 384 → zF (fun c => 12 ≤ c ∧ c ≤ 15) M2 M3 → zf_I M3 12 1 = 0 → (∀ j, j < 3 → zf_J M3 13 j = 0) → (∀ j, j < 7 → zf_J M3 14 j = 0) → (∀ j, j < i → zf_J M3 15 j = 0) → zW X 30 69 [.val (.ref 12), .val (.int (nI i))] [] M3 Q := by
    intro q
    induction q with
    | zero =>
      intro i M3 hi hF x1 x2 x3 x4
      have hP3 := zPk_F hP2 hF
      obtain rfl : i = 384 := by omega
      rw [w30_69]
      simp only [w30_0, w30_1, w30_4, w30_7, w30_8, w30_11, w30_14, w30_15, w30_16, w30_19, w30_20, w30_22, w30_23, w30_26, w30_27, w30_30, w30_31, w30_34, w30_35, w30_36, w30_37, w30_40, w30_43, w30_44, w30_46, w30_47, w30_50, w30_51, w30_54, w30_55, w30_58, w30_59, w30_60, w30_61, w30_64, w30_67, w30_68, w30_70, w30_71, w30_74, w30_75, w30_78, w30_79, w30_82, w30_83, w30_84, w30_85, w30_88, w30_91, zk_sI, zk_sJ, zk_sP, zn_sI, zn_sJ, zn_sP, zI_sI, zI_sJ, zI_sP, zJ_sI, zJ_sJ, zJ_sP, zP_sI, zP_sJ, zP_sP, Option.toList_some, Option.toList_none, List.cons_append, List.nil_append, zk_of hP3.1, zn_of hP3.1, zix, ziN, ne_eq, reduceCtorEq, not_false_eq_true, true_and, and_true, Option.getD_some, Nat.reduceLeDiff, Nat.reduceLT, c_ofNat, zkd4, zp_4_0 hP3, zp_4_1 hP3, zp_4_2 hP3, zp_4_3 hP3, zp_4_4 hP3, zp_4_5 hP3, zp_4_6 hP3, zkd12, zp_12_2 hP3, zp_12_3 hP3, zp_12_4 hP3, zkd13, znd13, zfx13, zkd14, znd14, zfx14, zkd15, znd15, zfx15]
      refine ⟨fun _ => h M3 (zF_tr hF2 (zF_mo hF (fun c hc => by omega))) (zLI_F k3 hF (fun c x y => by omega)) (zLI_F k2 hF (fun c x y => by omega)) ⟨x2, x3, x4⟩ x1, fun z => absurd (Int32.le_refl _) z⟩
    | succ q ih =>
      intro i M3 hi hF x1 x2 x3 x4
      have hP3 := zPk_F hP2 hF
      rw [w30_69]
      simp only [w30_0, w30_1, w30_4, w30_7, w30_8, w30_11, w30_14, w30_15, w30_16, w30_19, w30_20, w30_22, w30_23, w30_26, w30_27, w30_30, w30_31, w30_34, w30_35, w30_36, w30_37, w30_40, w30_43, w30_44, w30_46, w30_47, w30_50, w30_51, w30_54, w30_55, w30_58, w30_59, w30_60, w30_61, w30_64, w30_67, w30_68, w30_70, w30_71, w30_74, w30_75, w30_78, w30_79, w30_82, w30_83, w30_84, w30_85, w30_88, w30_91, zk_sI, zk_sJ, zk_sP, zn_sI, zn_sJ, zn_sP, zI_sI, zI_sJ, zI_sP, zJ_sI, zJ_sJ, zJ_sP, zP_sI, zP_sJ, zP_sP, Option.toList_some, Option.toList_none, List.cons_append, List.nil_append, zk_of hP3.1, zn_of hP3.1, zix, ziN, ne_eq, reduceCtorEq, not_false_eq_true, true_and, and_true, Option.getD_some, Nat.reduceLeDiff, Nat.reduceLT, c_ofNat, zkd4, zp_4_0 hP3, zp_4_1 hP3, zp_4_2 hP3, zp_4_3 hP3, zp_4_4 hP3, zp_4_5 hP3, zp_4_6 hP3, zkd12, zp_12_2 hP3, zp_12_3 hP3, zp_12_4 hP3, zkd13, znd13, zfx13, zkd14, znd14, zfx14, zkd15, znd15, zfx15, n_a1, n_cl (show i < 2 ^ 31 by omega), n_in (show i < 384 by omega) (show 384 < 2 ^ 31 by decide)]
      rw [n_le (by decide) (by omega)]
      refine ⟨fun z => by omega, fun _ => ih (i + 1) _ (by omega) (zF_sJ hF ⟨by omega, by omega⟩) x1 x2 x3 (fun j hj => ?_)⟩
      rw [zJ_sJ, if_pos rfl]
      by_cases e : j = i
      · rw [if_pos e]
      · rw [if_neg e]
        exact x4 j (by omega)
  have l2 : ∀ (q i : Nat) (M3 : zf_M), i + q = 7 → zF (fun c => 12 ≤ c ∧ c ≤ 15) M2 M3 → zf_I M3 12 1 = 0 → (∀ j, j < 3 → zf_J M3 13 j = 0) → (∀ j, j < i → zf_J M3 14 j = 0) → zW X 30 45 [.val (.ref 12), .val (.int (nI i))] [] M3 Q := by
    intro q
    induction q with
    | zero =>
      intro i M3 hi hF x1 x2 x3
      have hP3 := zPk_F hP2 hF
      obtain rfl : i = 7 := by omega
      rw [w30_45]
      simp only [w30_0, w30_1, w30_4, w30_7, w30_8, w30_11, w30_14, w30_15, w30_16, w30_19, w30_20, w30_22, w30_23, w30_26, w30_27, w30_30, w30_31, w30_34, w30_35, w30_36, w30_37, w30_40, w30_43, w30_44, w30_46, w30_47, w30_50, w30_51, w30_54, w30_55, w30_58, w30_59, w30_60, w30_61, w30_64, w30_67, w30_68, w30_70, w30_71, w30_74, w30_75, w30_78, w30_79, w30_82, w30_83, w30_84, w30_85, w30_88, w30_91, zk_sI, zk_sJ, zk_sP, zn_sI, zn_sJ, zn_sP, zI_sI, zI_sJ, zI_sP, zJ_sI, zJ_sJ, zJ_sP, zP_sI, zP_sJ, zP_sP, Option.toList_some, Option.toList_none, List.cons_append, List.nil_append, zk_of hP3.1, zn_of hP3.1, zix, ziN, ne_eq, reduceCtorEq, not_false_eq_true, true_and, and_true, Option.getD_some, Nat.reduceLeDiff, Nat.reduceLT, c_ofNat, zkd4, zp_4_0 hP3, zp_4_1 hP3, zp_4_2 hP3, zp_4_3 hP3, zp_4_4 hP3, zp_4_5 hP3, zp_4_6 hP3, zkd12, zp_12_2 hP3, zp_12_3 hP3, zp_12_4 hP3, zkd13, znd13, zfx13, zkd14, znd14, zfx14, zkd15, znd15, zfx15]
      exact ⟨fun _ => l3 384 0 _ (by omega) hF x1 x2 x3 (fun j hj => by omega), fun z => absurd (Int32.le_refl _) z⟩
    | succ q ih =>
      intro i M3 hi hF x1 x2 x3
      have hP3 := zPk_F hP2 hF
      rw [w30_45]
      simp only [w30_0, w30_1, w30_4, w30_7, w30_8, w30_11, w30_14, w30_15, w30_16, w30_19, w30_20, w30_22, w30_23, w30_26, w30_27, w30_30, w30_31, w30_34, w30_35, w30_36, w30_37, w30_40, w30_43, w30_44, w30_46, w30_47, w30_50, w30_51, w30_54, w30_55, w30_58, w30_59, w30_60, w30_61, w30_64, w30_67, w30_68, w30_70, w30_71, w30_74, w30_75, w30_78, w30_79, w30_82, w30_83, w30_84, w30_85, w30_88, w30_91, zk_sI, zk_sJ, zk_sP, zn_sI, zn_sJ, zn_sP, zI_sI, zI_sJ, zI_sP, zJ_sI, zJ_sJ, zJ_sP, zP_sI, zP_sJ, zP_sP, Option.toList_some, Option.toList_none, List.cons_append, List.nil_append, zk_of hP3.1, zn_of hP3.1, zix, ziN, ne_eq, reduceCtorEq, not_false_eq_true, true_and, and_true, Option.getD_some, Nat.reduceLeDiff, Nat.reduceLT, c_ofNat, zkd4, zp_4_0 hP3, zp_4_1 hP3, zp_4_2 hP3, zp_4_3 hP3, zp_4_4 hP3, zp_4_5 hP3, zp_4_6 hP3, zkd12, zp_12_2 hP3, zp_12_3 hP3, zp_12_4 hP3, zkd13, znd13, zfx13, zkd14, znd14, zfx14, zkd15, znd15, zfx15, n_a1, n_cl (show i < 2 ^ 31 by omega), n_in (show i < 7 by omega) (show 7 < 2 ^ 31 by decide)]
      rw [n_le (by decide) (by omega)]
      refine ⟨fun z => by omega, fun _ => ih (i + 1) _ (by omega) (zF_sJ hF ⟨by omega, by omega⟩) x1 x2 (fun j hj => ?_)⟩
      rw [zJ_sJ, if_pos rfl]
      by_cases e : j = i
      · rw [if_pos e]
      · rw [if_neg e]
        exact x3 j (by omega)
  have l1 : ∀ (q i : Nat) (M3 : zf_M), i + q = 3 → zF (fun c => 12 ≤ c ∧ c ≤ 15) M2 M3 → zf_I M3 12 1 = 0 → (∀ j, j < i → zf_J M3 13 j = 0) → zW X 30 21 [.val (.ref 12), .val (.int (nI i))] [] M3 Q := by
    intro q
    induction q with
    | zero =>
      intro i M3 hi hF x1 x2
      have hP3 := zPk_F hP2 hF
      obtain rfl : i = 3 := by omega
      rw [w30_21]
      simp only [w30_0, w30_1, w30_4, w30_7, w30_8, w30_11, w30_14, w30_15, w30_16, w30_19, w30_20, w30_22, w30_23, w30_26, w30_27, w30_30, w30_31, w30_34, w30_35, w30_36, w30_37, w30_40, w30_43, w30_44, w30_46, w30_47, w30_50, w30_51, w30_54, w30_55, w30_58, w30_59, w30_60, w30_61, w30_64, w30_67, w30_68, w30_70, w30_71, w30_74, w30_75, w30_78, w30_79, w30_82, w30_83, w30_84, w30_85, w30_88, w30_91, zk_sI, zk_sJ, zk_sP, zn_sI, zn_sJ, zn_sP, zI_sI, zI_sJ, zI_sP, zJ_sI, zJ_sJ, zJ_sP, zP_sI, zP_sJ, zP_sP, Option.toList_some, Option.toList_none, List.cons_append, List.nil_append, zk_of hP3.1, zn_of hP3.1, zix, ziN, ne_eq, reduceCtorEq, not_false_eq_true, true_and, and_true, Option.getD_some, Nat.reduceLeDiff, Nat.reduceLT, c_ofNat, zkd4, zp_4_0 hP3, zp_4_1 hP3, zp_4_2 hP3, zp_4_3 hP3, zp_4_4 hP3, zp_4_5 hP3, zp_4_6 hP3, zkd12, zp_12_2 hP3, zp_12_3 hP3, zp_12_4 hP3, zkd13, znd13, zfx13, zkd14, znd14, zfx14, zkd15, znd15, zfx15]
      exact ⟨fun _ => l2 7 0 _ (by omega) hF x1 x2 (fun j hj => by omega), fun z => absurd (Int32.le_refl _) z⟩
    | succ q ih =>
      intro i M3 hi hF x1 x2
      have hP3 := zPk_F hP2 hF
      rw [w30_21]
      simp only [w30_0, w30_1, w30_4, w30_7, w30_8, w30_11, w30_14, w30_15, w30_16, w30_19, w30_20, w30_22, w30_23, w30_26, w30_27, w30_30, w30_31, w30_34, w30_35, w30_36, w30_37, w30_40, w30_43, w30_44, w30_46, w30_47, w30_50, w30_51, w30_54, w30_55, w30_58, w30_59, w30_60, w30_61, w30_64, w30_67, w30_68, w30_70, w30_71, w30_74, w30_75, w30_78, w30_79, w30_82, w30_83, w30_84, w30_85, w30_88, w30_91, zk_sI, zk_sJ, zk_sP, zn_sI, zn_sJ, zn_sP, zI_sI, zI_sJ, zI_sP, zJ_sI, zJ_sJ, zJ_sP, zP_sI, zP_sJ, zP_sP, Option.toList_some, Option.toList_none, List.cons_append, List.nil_append, zk_of hP3.1, zn_of hP3.1, zix, ziN, ne_eq, reduceCtorEq, not_false_eq_true, true_and, and_true, Option.getD_some, Nat.reduceLeDiff, Nat.reduceLT, c_ofNat, zkd4, zp_4_0 hP3, zp_4_1 hP3, zp_4_2 hP3, zp_4_3 hP3, zp_4_4 hP3, zp_4_5 hP3, zp_4_6 hP3, zkd12, zp_12_2 hP3, zp_12_3 hP3, zp_12_4 hP3, zkd13, znd13, zfx13, zkd14, znd14, zfx14, zkd15, znd15, zfx15, n_a1, n_cl (show i < 2 ^ 31 by omega), n_in (show i < 3 by omega) (show 3 < 2 ^ 31 by decide)]
      rw [n_le (by decide) (by omega)]
      refine ⟨fun z => by omega, fun _ => ih (i + 1) _ (by omega) (zF_sJ hF ⟨by omega, by omega⟩) x1 (fun j hj => ?_)⟩
      rw [zJ_sJ, if_pos rfl]
      by_cases e : j = i
      · rw [if_pos e]
      · rw [if_neg e]
        exact x2 j (by omega)
  simp only [w30_0, w30_1, w30_4, w30_7, w30_8, w30_11, w30_14, w30_15, w30_16, w30_19, w30_20, w30_22, w30_23, w30_26, w30_27, w30_30, w30_31, w30_34, w30_35, w30_36, w30_37, w30_40, w30_43, w30_44, w30_46, w30_47, w30_50, w30_51, w30_54, w30_55, w30_58, w30_59, w30_60, w30_61, w30_64, w30_67, w30_68, w30_70, w30_71, w30_74, w30_75, w30_78, w30_79, w30_82, w30_83, w30_84, w30_85, w30_88, w30_91, zk_sI, zk_sJ, zk_sP, zn_sI, zn_sJ, zn_sP, zI_sI, zI_sJ, zI_sP, zJ_sI, zJ_sJ, zJ_sP, zP_sI, zP_sJ, zP_sP, Option.toList_some, Option.toList_none, List.cons_append, List.nil_append, zk_of hP2.1, zn_of hP2.1, zix, ziN, ne_eq, reduceCtorEq, not_false_eq_true, true_and, and_true, Option.getD_some, Nat.reduceLeDiff, Nat.reduceLT, c_ofNat, zkd4, zp_4_0 hP2, zp_4_1 hP2, zp_4_2 hP2, zp_4_3 hP2, zp_4_4 hP2, zp_4_5 hP2, zp_4_6 hP2, zkd12, zp_12_2 hP2, zp_12_3 hP2, zp_12_4 hP2, zkd13, znd13, zfx13, zkd14, znd14, zfx14, zkd15, znd15, zfx15]
  exact l1 3 0 _ (by omega) (zF_sI (zF_rf _ _) ⟨by omega, by omega⟩) (by rw [zI_sI, if_pos rfl, if_pos rfl]) (fun j hj => by omega)
end ZRk
