/-! ===== Odds: the reckoning ===== -/
/-- as zF, but the two layers may have changed places -/
def zG (S : Nat → Prop) (M M1 : zf_M) : Prop := M1.1 = M.1 ∧ (∀ b, ¬ S b → ∀ j, zf_I M1 b j = zf_I M b j ∧ zf_J M1 b j = zf_J M b j) ∧ ∀ b j, ¬ (b = 12 ∧ (j = 5 ∨ j = 6)) → zf_P M1 b j = zf_P M b j
theorem zG_F {S : Nat → Prop} {M M1 : zf_M} (h : zF S M M1) : zG S M M1 := ⟨h.1, h.2.1, fun b j _ => h.2.2 b j⟩
theorem zG_tr {S : Nat → Prop} {M M1 M2 : zf_M} (h : zG S M M1) (h2 : zG S M1 M2) : zG S M M2 := ⟨h2.1.trans h.1, fun b hb j => ⟨((h2.2.1 b hb j).1).trans (h.2.1 b hb j).1, ((h2.2.1 b hb j).2).trans (h.2.1 b hb j).2⟩, fun b j hj => (h2.2.2 b j hj).trans (h.2.2 b j hj)⟩
theorem zG_12 {S : Nat → Prop} {M : zf_M} {f : Nat} {q : Option Nat} (hf : f = 5 ∨ f = 6) : zG S M (zf_sP M 12 f q) := by
  refine ⟨rfl, fun _ _ _ => ⟨rfl, rfl⟩, fun b j hj => ?_⟩
  rw [zP_sP]
  by_cases h : b = 12
  · rw [if_pos h, if_neg (fun z => hj ⟨h, by rw [z]; exact hf⟩)]
  · rw [if_neg h]
theorem zPk_G {S : Nat → Prop} {M M1 : zf_M} (h : zPk M) (hG : zG S M M1) : zPk M1 := by
  refine ⟨hG.1.trans h.1, fun e he => ?_⟩
  have key : ∀ e ∈ zPL, ¬ (e.1 = 12 ∧ (e.2.1 = 5 ∨ e.2.1 = 6)) := by decide +kernel
  rw [hG.2.2 _ _ (key e he)]
  exact h.2 e he
theorem zFP_G {S : Nat → Prop} {p : zPm} {M M1 : zf_M} (h : zFP p M) (hF : zG S M M1) (hS : ∀ b, 4 ≤ b → b ≤ 11 → ¬ S b) : zFP p M1 := by
  obtain ⟨h1, h2, h3, h4, h5, h6⟩ := h
  have e : ∀ b, 4 ≤ b → b ≤ 11 → ∀ j, zf_I M1 b j = zf_I M b j := fun b x y j => (hF.2.1 b (hS b x y) j).1
  refine ⟨by rw [e 4 (by omega) (by omega)]; exact h1, fun i hi => by rw [e 11 (by omega) (by omega)]; exact h2 i hi, fun i hi => ?_, by rw [e 4 (by omega) (by omega)]; exact h4, by rw [e 4 (by omega) (by omega)]; exact h5, by rw [e 4 (by omega) (by omega)]; exact h6⟩
  rw [e 5 (by omega) (by omega), e 6 (by omega) (by omega), e 7 (by omega) (by omega), e 8 (by omega) (by omega), e 9 (by omega) (by omega)]
  exact h3 i hi
/-- the two layers -/
def zLO (M : zf_M) : Prop := ∃ a b n m, (a = 16 ∧ b = 21 ∨ a = 21 ∧ b = 16) ∧ zf_P M 12 5 = some a ∧ zf_P M 12 6 = some b ∧ zLI M a n ∧ zLI M b m
/-- slot after slot -/
def zgo (p : zPm) : Nat → Nat → List (Nat × Nat) × zA → Nat → Bool × (List (Nat × Nat) × zA) × Nat
  | 0, _, S, wd => (true, S, wd)
  | m + 1, t, S, wd => if 400 < (zslot p (6 ^ m) (t / pn p + 1) (po p (t % pn p)) (decide (m = 0)) ([], S.2) S.1).1.length then (false, S, max wd S.1.length) else zgo p m (t + 1) (zslot p (6 ^ m) (t / pn p + 1) (po p (t % pn p)) (decide (m = 0)) ([], S.2) S.1) (max wd S.1.length)
/-- where a fight begins -/
def zst (p : zPm) : Nat := zbg (pl p) (po p) (pn p)
/-- the whole reckoning: whether there was room, the counters, the widest -/
def zrk (p : zPm) : Bool × zA × Nat :=
  if zwin (zst p) ≠ -1 then (true, ztl (po p) (pn p) zA0 (zst p) (6 ^ (pr p * pn p)) (zwe (zst p)) 0, 0)
  else ((zgo p (pr p * pn p) 0 ([(zst p, 1)], zA0) 0).1, (zgo p (pr p * pn p) 0 ([(zst p, 1)], zA0) 0).2.1.2, (zgo p (pr p * pn p) 0 ([(zst p, 1)], zA0) 0).2.2)
section ZRk
variable {X : zf_X} {M : zf_M} {Q : Option Value → zf_M → Prop} {p : zPm}
/-- clear -/
theorem s30 {a b n m : Nat} (hP : zPk M) (hab : a = 16 ∧ b = 21 ∨ a = 21 ∧ b = 16) (h5 : zf_P M 12 5 = some a) (h6 : zf_P M 12 6 = some b) (ha : zLI M a n) (hb : zLI M b m) (h : ∀ M1, zF (fun c => 12 ≤ c ∧ c ≤ 25) M M1 → zLI M1 a 0 → zLI M1 b 0 → zAM M1 zA0 → zf_I M1 12 1 = 0 → Q none M1) : zC X 30 [.ref 12] M Q := by
  rw [c30]
  have hka : zkd a = 3 := by rcases hab with ⟨rfl, -⟩ | ⟨rfl, -⟩ <;> rfl
  have hkb : zkd b = 3 := by rcases hab with ⟨-, rfl⟩ | ⟨-, rfl⟩ <;> rfl
  have la := zLy_of hP (show a = 16 ∨ a = 21 by omega)
  have lb := zLy_of hP (show b = 16 ∨ b = 21 by omega)
  simp only [w30_0, w30_1, w30_4, w30_7, w30_8, w30_11, w30_14, w30_15, w30_16, w30_19, w30_20, w30_22, w30_23, w30_26, w30_27, w30_30, w30_31, w30_34, w30_35, w30_36, w30_37, w30_40, w30_43, w30_44, w30_46, w30_47, w30_50, w30_51, w30_54, w30_55, w30_58, w30_59, w30_60, w30_61, w30_64, w30_67, w30_68, w30_70, w30_71, w30_74, w30_75, w30_78, w30_79, w30_82, w30_83, w30_84, w30_85, w30_88, w30_91, zk_sI, zk_sJ, zk_sP, zn_sI, zn_sJ, zn_sP, zI_sI, zI_sJ, zI_sP, zJ_sI, zJ_sJ, zJ_sP, zP_sI, zP_sJ, zP_sP, Option.toList_some, Option.toList_none, List.cons_append, List.nil_append, zk_of hP.1, zn_of hP.1, zix, ziN, ne_eq, reduceCtorEq, not_false_eq_true, true_and, and_true, Option.getD_some, Nat.reduceLeDiff, Nat.reduceLT, c_ofNat, zkd4, zp_4_0 hP, zp_4_1 hP, zp_4_2 hP, zp_4_3 hP, zp_4_4 hP, zp_4_5 hP, zp_4_6 hP, zkd12, zp_12_2 hP, zp_12_3 hP, zp_12_4 hP, zkd13, znd13, zfx13, zkd14, znd14, zfx14, zkd15, znd15, zfx15, h5, h6, hka, hkb]
  refine s23 la ha (fun M1 g1 g2 => ?_)
  have hP1 := zPk_F hP g1
  have e6 : zf_P M1 12 6 = some b := by rw [g1.2.2]; exact h6
  have e5 : zf_P M1 12 5 = some a := by rw [g1.2.2]; exact h5
  simp only [w30_0, w30_1, w30_4, w30_7, w30_8, w30_11, w30_14, w30_15, w30_16, w30_19, w30_20, w30_22, w30_23, w30_26, w30_27, w30_30, w30_31, w30_34, w30_35, w30_36, w30_37, w30_40, w30_43, w30_44, w30_46, w30_47, w30_50, w30_51, w30_54, w30_55, w30_58, w30_59, w30_60, w30_61, w30_64, w30_67, w30_68, w30_70, w30_71, w30_74, w30_75, w30_78, w30_79, w30_82, w30_83, w30_84, w30_85, w30_88, w30_91, zk_sI, zk_sJ, zk_sP, zn_sI, zn_sJ, zn_sP, zI_sI, zI_sJ, zI_sP, zJ_sI, zJ_sJ, zJ_sP, zP_sI, zP_sJ, zP_sP, Option.toList_some, Option.toList_none, List.cons_append, List.nil_append, zk_of hP1.1, zn_of hP1.1, zix, ziN, ne_eq, reduceCtorEq, not_false_eq_true, true_and, and_true, Option.getD_some, Nat.reduceLeDiff, Nat.reduceLT, c_ofNat, zkd4, zp_4_0 hP1, zp_4_1 hP1, zp_4_2 hP1, zp_4_3 hP1, zp_4_4 hP1, zp_4_5 hP1, zp_4_6 hP1, zkd12, zp_12_2 hP1, zp_12_3 hP1, zp_12_4 hP1, zkd13, znd13, zfx13, zkd14, znd14, zfx14, zkd15, znd15, zfx15, e5, e6, hka, hkb]
  refine s23 (zLy_F lb g1) (zLI_F hb g1 (fun c x y => by omega)) (fun M2 k1 k2 => ?_)
  have k3 := zLI_F g2 k1 (fun c x y => by omega)
  have hP2 := zPk_F hP1 k1
  have hF2 : zF (fun c => 12 ≤ c ∧ c ≤ 25) M M2 := zF_tr (zF_mo g1 (fun c hc => by omega)) (zF_mo k1 (fun c hc => by omega))
  clear g1 g2 k1 hP1 e5 e6
  have l3 : ∀ (q i : Nat) (M3 : zf_M), i + q = 384 → zF (fun c => 12 ≤ c ∧ c ≤ 15) M2 M3 → zf_I M3 12 1 = 0 → (∀ j, j < 3 → zf_J M3 13 j = 0) → (∀ j, j < 7 → zf_J M3 14 j = 0) → (∀ j, j < i → zf_J M3 15 j = 0) → zW X 30 69 [.val (.ref 12), .val (.int (nI i))] [] M3 Q := by
    intro q
    induction q with
    | zero =>
      intro i M3 hi hF x1 x2 x3 x4
      have hP3 := zPk_F hP2 hF
      obtain rfl : i = 384 := by omega
      rw [w30_69]
      simp only [w30_0, w30_1, w30_4, w30_7, w30_8, w30_11, w30_14, w30_15, w30_16, w30_19, w30_20, w30_22, w30_23, w30_26, w30_27, w30_30, w30_31, w30_34, w30_35, w30_36, w30_37, w30_40, w30_43, w30_44, w30_46, w30_47, w30_50, w30_51, w30_54, w30_55, w30_58, w30_59, w30_60, w30_61, w30_64, w30_67, w30_68, w30_70, w30_71, w30_74, w30_75, w30_78, w30_79, w30_82, w30_83, w30_84, w30_85, w30_88, w30_91, zk_sI, zk_sJ, zk_sP, zn_sI, zn_sJ, zn_sP, zI_sI, zI_sJ, zI_sP, zJ_sI, zJ_sJ, zJ_sP, zP_sI, zP_sJ, zP_sP, Option.toList_some, Option.toList_none, List.cons_append, List.nil_append, zk_of hP3.1, zn_of hP3.1, zix, ziN, ne_eq, reduceCtorEq, not_false_eq_true, true_and, and_true, Option.getD_some, Nat.reduceLeDiff, Nat.reduceLT, c_ofNat, zkd4, zp_4_0 hP3, zp_4_1 hP3, zp_4_2 hP3, zp_4_3 hP3, zp_4_4 hP3, zp_4_5 hP3, zp_4_6 hP3, zkd12, zp_12_2 hP3, zp_12_3 hP3, zp_12_4 hP3, zkd13, znd13, zfx13, zkd14, znd14, zfx14, zkd15, znd15, zfx15]
      refine ⟨fun _ => h M3 (zF_tr hF2 (zF_mo hF (fun c hc => by omega))) (zLI_F k3 hF (fun c x y => by omega)) (zLI_F k2 hF (fun c x y => by omega)) ⟨x2, x3, x4⟩ x1, fun z => absurd (Int32.le_refl _) z⟩
    | succ q ih =>
      intro i M3 hi hF x1 x2 x3 x4
      have hP3 := zPk_F hP2 hF
      rw [w30_69]
      simp only [w30_0, w30_1, w30_4, w30_7, w30_8, w30_11, w30_14, w30_15, w30_16, w30_19, w30_20, w30_22, w30_23, w30_26, w30_27, w30_30, w30_31, w30_34, w30_35, w30_36, w30_37, w30_40, w30_43, w30_44, w30_46, w30_47, w30_50, w30_51, w30_54, w30_55, w30_58, w30_59, w30_60, w30_61, w30_64, w30_67, w30_68, w30_70, w30_71, w30_74, w30_75, w30_78, w30_79, w30_82, w30_83, w30_84, w30_85, w30_88, w30_91, zk_sI, zk_sJ, zk_sP, zn_sI, zn_sJ, zn_sP, zI_sI, zI_sJ, zI_sP, zJ_sI, zJ_sJ, zJ_sP, zP_sI, zP_sJ, zP_sP, Option.toList_some, Option.toList_none, List.cons_append, List.nil_append, zk_of hP3.1, zn_of hP3.1, zix, ziN, ne_eq, reduceCtorEq, not_false_eq_true, true_and, and_true, Option.getD_some, Nat.reduceLeDiff, Nat.reduceLT, c_ofNat, zkd4, zp_4_0 hP3, zp_4_1 hP3, zp_4_2 hP3, zp_4_3 hP3, zp_4_4 hP3, zp_4_5 hP3, zp_4_6 hP3, zkd12, zp_12_2 hP3, zp_12_3 hP3, zp_12_4 hP3, zkd13, znd13, zfx13, zkd14, znd14, zfx14, zkd15, znd15, zfx15, n_a1, n_cl (show i < 2 ^ 31 by omega), n_in (show i < 384 by omega) (show 384 < 2 ^ 31 by decide)]
      rw [n_le (by decide) (by omega)]
      refine ⟨fun z => by omega, fun _ => ih (i + 1) _ (by omega) (zF_sJ hF ⟨by omega, by omega⟩) x1 x2 x3 (fun j hj => ?_)⟩
      rw [zJ_sJ, if_pos rfl]
      by_cases e : j = i
      · rw [if_pos e]
      · rw [if_neg e]
        exact x4 j (by omega)
  have l2 : ∀ (q i : Nat) (M3 : zf_M), i + q = 7 → zF (fun c => 12 ≤ c ∧ c ≤ 15) M2 M3 → zf_I M3 12 1 = 0 → (∀ j, j < 3 → zf_J M3 13 j = 0) → (∀ j, j < i → zf_J M3 14 j = 0) → zW X 30 45 [.val (.ref 12), .val (.int (nI i))] [] M3 Q := by
    intro q
    induction q with
    | zero =>
      intro i M3 hi hF x1 x2 x3
      have hP3 := zPk_F hP2 hF
      obtain rfl : i = 7 := by omega
      rw [w30_45]
      simp only [w30_0, w30_1, w30_4, w30_7, w30_8, w30_11, w30_14, w30_15, w30_16, w30_19, w30_20, w30_22, w30_23, w30_26, w30_27, w30_30, w30_31, w30_34, w30_35, w30_36, w30_37, w30_40, w30_43, w30_44, w30_46, w30_47, w30_50, w30_51, w30_54, w30_55, w30_58, w30_59, w30_60, w30_61, w30_64, w30_67, w30_68, w30_70, w30_71, w30_74, w30_75, w30_78, w30_79, w30_82, w30_83, w30_84, w30_85, w30_88, w30_91, zk_sI, zk_sJ, zk_sP, zn_sI, zn_sJ, zn_sP, zI_sI, zI_sJ, zI_sP, zJ_sI, zJ_sJ, zJ_sP, zP_sI, zP_sJ, zP_sP, Option.toList_some, Option.toList_none, List.cons_append, List.nil_append, zk_of hP3.1, zn_of hP3.1, zix, ziN, ne_eq, reduceCtorEq, not_false_eq_true, true_and, and_true, Option.getD_some, Nat.reduceLeDiff, Nat.reduceLT, c_ofNat, zkd4, zp_4_0 hP3, zp_4_1 hP3, zp_4_2 hP3, zp_4_3 hP3, zp_4_4 hP3, zp_4_5 hP3, zp_4_6 hP3, zkd12, zp_12_2 hP3, zp_12_3 hP3, zp_12_4 hP3, zkd13, znd13, zfx13, zkd14, znd14, zfx14, zkd15, znd15, zfx15]
      exact ⟨fun _ => l3 384 0 _ (by omega) hF x1 x2 x3 (fun j hj => by omega), fun z => absurd (Int32.le_refl _) z⟩
    | succ q ih =>
      intro i M3 hi hF x1 x2 x3
      have hP3 := zPk_F hP2 hF
      rw [w30_45]
      simp only [w30_0, w30_1, w30_4, w30_7, w30_8, w30_11, w30_14, w30_15, w30_16, w30_19, w30_20, w30_22, w30_23, w30_26, w30_27, w30_30, w30_31, w30_34, w30_35, w30_36, w30_37, w30_40, w30_43, w30_44, w30_46, w30_47, w30_50, w30_51, w30_54, w30_55, w30_58, w30_59, w30_60, w30_61, w30_64, w30_67, w30_68, w30_70, w30_71, w30_74, w30_75, w30_78, w30_79, w30_82, w30_83, w30_84, w30_85, w30_88, w30_91, zk_sI, zk_sJ, zk_sP, zn_sI, zn_sJ, zn_sP, zI_sI, zI_sJ, zI_sP, zJ_sI, zJ_sJ, zJ_sP, zP_sI, zP_sJ, zP_sP, Option.toList_some, Option.toList_none, List.cons_append, List.nil_append, zk_of hP3.1, zn_of hP3.1, zix, ziN, ne_eq, reduceCtorEq, not_false_eq_true, true_and, and_true, Option.getD_some, Nat.reduceLeDiff, Nat.reduceLT, c_ofNat, zkd4, zp_4_0 hP3, zp_4_1 hP3, zp_4_2 hP3, zp_4_3 hP3, zp_4_4 hP3, zp_4_5 hP3, zp_4_6 hP3, zkd12, zp_12_2 hP3, zp_12_3 hP3, zp_12_4 hP3, zkd13, znd13, zfx13, zkd14, znd14, zfx14, zkd15, znd15, zfx15, n_a1, n_cl (show i < 2 ^ 31 by omega), n_in (show i < 7 by omega) (show 7 < 2 ^ 31 by decide)]
      rw [n_le (by decide) (by omega)]
      refine ⟨fun z => by omega, fun _ => ih (i + 1) _ (by omega) (zF_sJ hF ⟨by omega, by omega⟩) x1 x2 (fun j hj => ?_)⟩
      rw [zJ_sJ, if_pos rfl]
      by_cases e : j = i
      · rw [if_pos e]
      · rw [if_neg e]
        exact x3 j (by omega)
  have l1 : ∀ (q i : Nat) (M3 : zf_M), i + q = 3 → zF (fun c => 12 ≤ c ∧ c ≤ 15) M2 M3 → zf_I M3 12 1 = 0 → (∀ j, j < i → zf_J M3 13 j = 0) → zW X 30 21 [.val (.ref 12), .val (.int (nI i))] [] M3 Q := by
    intro q
    induction q with
    | zero =>
      intro i M3 hi hF x1 x2
      have hP3 := zPk_F hP2 hF
      obtain rfl : i = 3 := by omega
      rw [w30_21]
      simp only [w30_0, w30_1, w30_4, w30_7, w30_8, w30_11, w30_14, w30_15, w30_16, w30_19, w30_20, w30_22, w30_23, w30_26, w30_27, w30_30, w30_31, w30_34, w30_35, w30_36, w30_37, w30_40, w30_43, w30_44, w30_46, w30_47, w30_50, w30_51, w30_54, w30_55, w30_58, w30_59, w30_60, w30_61, w30_64, w30_67, w30_68, w30_70, w30_71, w30_74, w30_75, w30_78, w30_79, w30_82, w30_83, w30_84, w30_85, w30_88, w30_91, zk_sI, zk_sJ, zk_sP, zn_sI, zn_sJ, zn_sP, zI_sI, zI_sJ, zI_sP, zJ_sI, zJ_sJ, zJ_sP, zP_sI, zP_sJ, zP_sP, Option.toList_some, Option.toList_none, List.cons_append, List.nil_append, zk_of hP3.1, zn_of hP3.1, zix, ziN, ne_eq, reduceCtorEq, not_false_eq_true, true_and, and_true, Option.getD_some, Nat.reduceLeDiff, Nat.reduceLT, c_ofNat, zkd4, zp_4_0 hP3, zp_4_1 hP3, zp_4_2 hP3, zp_4_3 hP3, zp_4_4 hP3, zp_4_5 hP3, zp_4_6 hP3, zkd12, zp_12_2 hP3, zp_12_3 hP3, zp_12_4 hP3, zkd13, znd13, zfx13, zkd14, znd14, zfx14, zkd15, znd15, zfx15]
      exact ⟨fun _ => l2 7 0 _ (by omega) hF x1 x2 (fun j hj => by omega), fun z => absurd (Int32.le_refl _) z⟩
    | succ q ih =>
      intro i M3 hi hF x1 x2
      have hP3 := zPk_F hP2 hF
      rw [w30_21]
      simp only [w30_0, w30_1, w30_4, w30_7, w30_8, w30_11, w30_14, w30_15, w30_16, w30_19, w30_20, w30_22, w30_23, w30_26, w30_27, w30_30, w30_31, w30_34, w30_35, w30_36, w30_37, w30_40, w30_43, w30_44, w30_46, w30_47, w30_50, w30_51, w30_54, w30_55, w30_58, w30_59, w30_60, w30_61, w30_64, w30_67, w30_68, w30_70, w30_71, w30_74, w30_75, w30_78, w30_79, w30_82, w30_83, w30_84, w30_85, w30_88, w30_91, zk_sI, zk_sJ, zk_sP, zn_sI, zn_sJ, zn_sP, zI_sI, zI_sJ, zI_sP, zJ_sI, zJ_sJ, zJ_sP, zP_sI, zP_sJ, zP_sP, Option.toList_some, Option.toList_none, List.cons_append, List.nil_append, zk_of hP3.1, zn_of hP3.1, zix, ziN, ne_eq, reduceCtorEq, not_false_eq_true, true_and, and_true, Option.getD_some, Nat.reduceLeDiff, Nat.reduceLT, c_ofNat, zkd4, zp_4_0 hP3, zp_4_1 hP3, zp_4_2 hP3, zp_4_3 hP3, zp_4_4 hP3, zp_4_5 hP3, zp_4_6 hP3, zkd12, zp_12_2 hP3, zp_12_3 hP3, zp_12_4 hP3, zkd13, znd13, zfx13, zkd14, znd14, zfx14, zkd15, znd15, zfx15, n_a1, n_cl (show i < 2 ^ 31 by omega), n_in (show i < 3 by omega) (show 3 < 2 ^ 31 by decide)]
      rw [n_le (by decide) (by omega)]
      refine ⟨fun z => by omega, fun _ => ih (i + 1) _ (by omega) (zF_sJ hF ⟨by omega, by omega⟩) x1 (fun j hj => ?_)⟩
      rw [zJ_sJ, if_pos rfl]
      by_cases e : j = i
      · rw [if_pos e]
      · rw [if_neg e]
        exact x2 j (by omega)
  simp only [w30_0, w30_1, w30_4, w30_7, w30_8, w30_11, w30_14, w30_15, w30_16, w30_19, w30_20, w30_22, w30_23, w30_26, w30_27, w30_30, w30_31, w30_34, w30_35, w30_36, w30_37, w30_40, w30_43, w30_44, w30_46, w30_47, w30_50, w30_51, w30_54, w30_55, w30_58, w30_59, w30_60, w30_61, w30_64, w30_67, w30_68, w30_70, w30_71, w30_74, w30_75, w30_78, w30_79, w30_82, w30_83, w30_84, w30_85, w30_88, w30_91, zk_sI, zk_sJ, zk_sP, zn_sI, zn_sJ, zn_sP, zI_sI, zI_sJ, zI_sP, zJ_sI, zJ_sJ, zJ_sP, zP_sI, zP_sJ, zP_sP, Option.toList_some, Option.toList_none, List.cons_append, List.nil_append, zk_of hP2.1, zn_of hP2.1, zix, ziN, ne_eq, reduceCtorEq, not_false_eq_true, true_and, and_true, Option.getD_some, Nat.reduceLeDiff, Nat.reduceLT, c_ofNat, zkd4, zp_4_0 hP2, zp_4_1 hP2, zp_4_2 hP2, zp_4_3 hP2, zp_4_4 hP2, zp_4_5 hP2, zp_4_6 hP2, zkd12, zp_12_2 hP2, zp_12_3 hP2, zp_12_4 hP2, zkd13, znd13, zfx13, zkd14, znd14, zfx14, zkd15, znd15, zfx15]
  exact l1 3 0 _ (by omega) (zF_sI (zF_rf _ _) ⟨by omega, by omega⟩) (by rw [zI_sI, if_pos rfl, if_pos rfl]) (fun j hj => by omega)
/-- reckon -/
theorem s27 (hP : zPk M) (hp : zPo p) (hFP : zFP p M) (hL : zLO M)
    (h0 : 22 < pr p * pn p → Q (some (.int 0)) M)
    (h1 : pr p * pn p ≤ 22 → (zrk p).1 = true → ∀ M1, zG (fun c => 12 ≤ c ∧ c ≤ 25) M M1 → zLO M1 → zAM M1 (zrk p).2.1 → zf_J M1 12 0 = lN (6 ^ (pr p * pn p)) → zf_I M1 12 1 = nI (zrk p).2.2 → Q (some (.int 1)) M1)
    (h2 : pr p * pn p ≤ 22 → (zrk p).1 = false → ∀ M1, zG (fun c => 12 ≤ c ∧ c ≤ 25) M M1 → zLO M1 → Q (some (.int 0)) M1) : zC X 27 [.ref 12, .ref 4] M Q := by
  rw [c27]
  obtain ⟨p1, p2, p3, p4, p5, p6⟩ := hp
  have hp : zPo p := ⟨p1, p2, p3, p4, p5, p6⟩
  have em : nI (pr p) * nI (pn p) = nI (pr p * pn p) := pk_mul _ _
  have hsl : pr p * pn p ≤ 36 := Nat.mul_le_mul p6 p1
  have c22 : (22 : Int32) = nI 22 := rfl
  simp only [w27_0, w27_1, w27_4, w27_5, w27_8, w27_9, w27_10, w27_11, w27_13, w27_16, w27_17, w27_18, w27_19, w27_22, w27_23, w27_24, w27_27, w27_30, w27_31, w27_32, w27_35, w27_38, w27_39, w27_42, w27_43, w27_44, w27_47, w27_49, w27_51, w27_52, w27_55, w27_56, w27_57, w27_60, w27_61, w27_62, w27_63, w27_64, w27_67, w27_69, w27_70, w27_73, w27_74, w27_75, w27_76, w27_79, w27_80, w27_81, w27_84, w27_85, w27_86, w27_90, w27_91, w27_94, w27_97, w27_98, w27_102, w27_103, w27_106, w27_109, w27_110, w27_111, w27_114, w27_115, w27_118, w27_121, w27_124, w27_127, w27_128, w27_129, w27_132, w27_135, w27_136, w27_139, w27_141, w27_142, w27_145, w27_148, w27_150, w27_151, w27_154, w27_155, w27_156, w27_159, w27_160, w27_163, w27_164, w27_166, w27_167, w27_168, w27_169, w27_172, w27_174, w27_175, w27_177, w27_179, w27_182, w27_185, w27_186, w27_187, w27_190, w27_193, w27_196, w27_199, w27_200, zk_sI, zk_sJ, zk_sP, zn_sI, zn_sJ, zn_sP, zI_sI, zI_sJ, zI_sP, zJ_sI, zJ_sJ, zJ_sP, zP_sI, zP_sJ, zP_sP, Option.toList_some, Option.toList_none, List.cons_append, List.nil_append, zk_of hP.1, zn_of hP.1, zix, ziN, ne_eq, reduceCtorEq, not_false_eq_true, true_and, and_true, Option.getD_some, Nat.reduceLeDiff, Nat.reduceLT, c_ofNat, zkd4, zp_4_0 hP, zp_4_1 hP, zp_4_2 hP, zp_4_3 hP, zp_4_4 hP, zp_4_5 hP, zp_4_6 hP, zkd12, zp_12_2 hP, zp_12_3 hP, zp_12_4 hP, zkd13, znd13, zfx13, zkd14, znd14, zfx14, zkd15, znd15, zfx15, hFP.1, hFP.2.2.2.1, em, c22]
  rw [n_le (by omega) (by decide)]
  refine ⟨fun hs => ?_, fun hs => ⟨rfl, h0 (by omega)⟩⟩
  obtain ⟨a, b, n, m, hab, h5, h6, ha, hb⟩ := hL
  refine s30 hP hab h5 h6 ha hb (fun M1 hF k1 k2 k3 k4 => ?_)
  have hP1 := zPk_F hP hF
  have hF1 := zFP_F hFP hF (fun c x y => by omega)
  simp only [w27_0, w27_1, w27_4, w27_5, w27_8, w27_9, w27_10, w27_11, w27_13, w27_16, w27_17, w27_18, w27_19, w27_22, w27_23, w27_24, w27_27, w27_30, w27_31, w27_32, w27_35, w27_38, w27_39, w27_42, w27_43, w27_44, w27_47, w27_49, w27_51, w27_52, w27_55, w27_56, w27_57, w27_60, w27_61, w27_62, w27_63, w27_64, w27_67, w27_69, w27_70, w27_73, w27_74, w27_75, w27_76, w27_79, w27_80, w27_81, w27_84, w27_85, w27_86, w27_90, w27_91, w27_94, w27_97, w27_98, w27_102, w27_103, w27_106, w27_109, w27_110, w27_111, w27_114, w27_115, w27_118, w27_121, w27_124, w27_127, w27_128, w27_129, w27_132, w27_135, w27_136, w27_139, w27_141, w27_142, w27_145, w27_148, w27_150, w27_151, w27_154, w27_155, w27_156, w27_159, w27_160, w27_163, w27_164, w27_166, w27_167, w27_168, w27_169, w27_172, w27_174, w27_175, w27_177, w27_179, w27_182, w27_185, w27_186, w27_187, w27_190, w27_193, w27_196, w27_199, w27_200, zk_sI, zk_sJ, zk_sP, zn_sI, zn_sJ, zn_sP, zI_sI, zI_sJ, zI_sP, zJ_sI, zJ_sJ, zJ_sP, zP_sI, zP_sJ, zP_sP, Option.toList_some, Option.toList_none, List.cons_append, List.nil_append, zk_of hP1.1, zn_of hP1.1, zix, ziN, ne_eq, reduceCtorEq, not_false_eq_true, true_and, and_true, Option.getD_some, Nat.reduceLeDiff, Nat.reduceLT, c_ofNat, zkd4, zp_4_0 hP1, zp_4_1 hP1, zp_4_2 hP1, zp_4_3 hP1, zp_4_4 hP1, zp_4_5 hP1, zp_4_6 hP1, zkd12, zp_12_2 hP1, zp_12_3 hP1, zp_12_4 hP1, zkd13, znd13, zfx13, zkd14, znd14, zfx14, zkd15, znd15, zfx15]
  refine s31 (by omega) ?_
  simp only [w27_0, w27_1, w27_4, w27_5, w27_8, w27_9, w27_10, w27_11, w27_13, w27_16, w27_17, w27_18, w27_19, w27_22, w27_23, w27_24, w27_27, w27_30, w27_31, w27_32, w27_35, w27_38, w27_39, w27_42, w27_43, w27_44, w27_47, w27_49, w27_51, w27_52, w27_55, w27_56, w27_57, w27_60, w27_61, w27_62, w27_63, w27_64, w27_67, w27_69, w27_70, w27_73, w27_74, w27_75, w27_76, w27_79, w27_80, w27_81, w27_84, w27_85, w27_86, w27_90, w27_91, w27_94, w27_97, w27_98, w27_102, w27_103, w27_106, w27_109, w27_110, w27_111, w27_114, w27_115, w27_118, w27_121, w27_124, w27_127, w27_128, w27_129, w27_132, w27_135, w27_136, w27_139, w27_141, w27_142, w27_145, w27_148, w27_150, w27_151, w27_154, w27_155, w27_156, w27_159, w27_160, w27_163, w27_164, w27_166, w27_167, w27_168, w27_169, w27_172, w27_174, w27_175, w27_177, w27_179, w27_182, w27_185, w27_186, w27_187, w27_190, w27_193, w27_196, w27_199, w27_200, zk_sI, zk_sJ, zk_sP, zn_sI, zn_sJ, zn_sP, zI_sI, zI_sJ, zI_sP, zJ_sI, zJ_sJ, zJ_sP, zP_sI, zP_sJ, zP_sP, Option.toList_some, Option.toList_none, List.cons_append, List.nil_append, zk_of hP1.1, zn_of hP1.1, zix, ziN, ne_eq, reduceCtorEq, not_false_eq_true, true_and, and_true, Option.getD_some, Nat.reduceLeDiff, Nat.reduceLT, c_ofNat, zkd4, zp_4_0 hP1, zp_4_1 hP1, zp_4_2 hP1, zp_4_3 hP1, zp_4_4 hP1, zp_4_5 hP1, zp_4_6 hP1, zkd12, zp_12_2 hP1, zp_12_3 hP1, zp_12_4 hP1, zkd13, znd13, zfx13, zkd14, znd14, zfx14, zkd15, znd15, zfx15, if_true]
  have hF2 : zF (fun c => 12 ≤ c ∧ c ≤ 25) M (zf_sJ (zf_sJ M1 12 0 (lN (6 ^ (pr p * pn p)))) 12 7 (lN (6 ^ (pr p * pn p)))) := zF_sJ (zF_sJ hF ⟨by omega, by omega⟩) ⟨by omega, by omega⟩
  have hS2 : zF (fun c => c = 12) M1 (zf_sJ (zf_sJ M1 12 0 (lN (6 ^ (pr p * pn p)))) 12 7 (lN (6 ^ (pr p * pn p)))) := zF_sJ (zF_sJ (zF_rf _ _) rfl) rfl
  have hP2 := zPk_F hP hF2
  have hA2 := zAM_F k3 hS2 (fun c x y => by omega)
  have ka2 := zLI_F k1 hS2 (fun c x y => by omega)
  have kb2 := zLI_F k2 hS2 (fun c x y => by omega)
  have hFP2 := zFP_F hFP hF2 (fun c x y => by omega)
  have hT2 : zf_J (zf_sJ (zf_sJ M1 12 0 (lN (6 ^ (pr p * pn p)))) 12 7 (lN (6 ^ (pr p * pn p)))) 12 0 = lN (6 ^ (pr p * pn p)) := by
    rw [zJ_sJ, if_pos rfl, if_neg (by decide), zJ_sJ, if_pos rfl, if_pos rfl]
  have hB2 : zf_J (zf_sJ (zf_sJ M1 12 0 (lN (6 ^ (pr p * pn p)))) 12 7 (lN (6 ^ (pr p * pn p)))) 12 7 = lN (6 ^ (pr p * pn p)) := by
    rw [zJ_sJ, if_pos rfl, if_pos rfl]
  have hW2 : zf_I (zf_sJ (zf_sJ M1 12 0 (lN (6 ^ (pr p * pn p)))) 12 7 (lN (6 ^ (pr p * pn p)))) 12 1 = 0 := k4
  clear hS2 hF hF1 hP1 k1 k2 k3 k4
  generalize zf_sJ (zf_sJ M1 12 0 (lN (6 ^ (pr p * pn p)))) 12 7 (lN (6 ^ (pr p * pn p))) = M2 at *
  clear M1
  have e52 : zf_P M2 12 5 = some a := by rw [hF2.2.2]; exact h5
  have e62 : zf_P M2 12 6 = some b := by rw [hF2.2.2]; exact h6
  have hbg := zbg_ok (lf := pl p) (od := po p) (n := pn p) (fun i hi => p2 i hi) (fun i hi => by have := (p4 i hi).2.2.1; omega) p3
  have hz6 : zst p < 64 ^ 6 := hbg.1
  have hzV : zV p (zst p) := by
    refine ⟨hz6, fun j hj hne => ?_⟩
    have e := hbg.2 j hj
    change dg (zst p) j = _ at e
    rw [e] at hne ⊢
    by_cases hx : ∃ i, i < pn p ∧ po p i = j
    · rw [if_pos hx]
      obtain ⟨i, i1, i2⟩ := hx
      have := (p4 i i1).2.2.1
      rw [i2] at this
      exact ⟨⟨i, i1, i2⟩, by omega⟩
    · rw [if_neg hx] at hne
      exact absurd rfl hne
  refine s9 (lf := pl p) (od := po p) (n := pn p) hP2 ⟨hFP2.1, p1⟩ (fun i hi => ⟨hFP2.2.1 i hi, p2 i hi⟩) (fun i hi => ⟨(hFP2.2.2.1 i hi).2.1, by have := (p4 i hi).2.2.1; omega⟩) p3 ?_
  change zW _ _ _ _ ((some (Value.long (lN (zst p)))).toList ++ []) _ _
  simp only [w27_0, w27_1, w27_4, w27_5, w27_8, w27_9, w27_10, w27_11, w27_13, w27_16, w27_17, w27_18, w27_19, w27_22, w27_23, w27_24, w27_27, w27_30, w27_31, w27_32, w27_35, w27_38, w27_39, w27_42, w27_43, w27_44, w27_47, w27_49, w27_51, w27_52, w27_55, w27_56, w27_57, w27_60, w27_61, w27_62, w27_63, w27_64, w27_67, w27_69, w27_70, w27_73, w27_74, w27_75, w27_76, w27_79, w27_80, w27_81, w27_84, w27_85, w27_86, w27_90, w27_91, w27_94, w27_97, w27_98, w27_102, w27_103, w27_106, w27_109, w27_110, w27_111, w27_114, w27_115, w27_118, w27_121, w27_124, w27_127, w27_128, w27_129, w27_132, w27_135, w27_136, w27_139, w27_141, w27_142, w27_145, w27_148, w27_150, w27_151, w27_154, w27_155, w27_156, w27_159, w27_160, w27_163, w27_164, w27_166, w27_167, w27_168, w27_169, w27_172, w27_174, w27_175, w27_177, w27_179, w27_182, w27_185, w27_186, w27_187, w27_190, w27_193, w27_196, w27_199, w27_200, zk_sI, zk_sJ, zk_sP, zn_sI, zn_sJ, zn_sP, zI_sI, zI_sJ, zI_sP, zJ_sI, zJ_sJ, zJ_sP, zP_sI, zP_sJ, zP_sP, Option.toList_some, Option.toList_none, List.cons_append, List.nil_append, zk_of hP2.1, zn_of hP2.1, zix, ziN, ne_eq, reduceCtorEq, not_false_eq_true, true_and, and_true, Option.getD_some, Nat.reduceLeDiff, Nat.reduceLT, c_ofNat, zkd4, zp_4_0 hP2, zp_4_1 hP2, zp_4_2 hP2, zp_4_3 hP2, zp_4_4 hP2, zp_4_5 hP2, zp_4_6 hP2, zkd12, zp_12_2 hP2, zp_12_3 hP2, zp_12_4 hP2, zkd13, znd13, zfx13, zkd14, znd14, zfx14, zkd15, znd15, zfx15]
  refine s10 hz6 ?_
  simp only [w27_0, w27_1, w27_4, w27_5, w27_8, w27_9, w27_10, w27_11, w27_13, w27_16, w27_17, w27_18, w27_19, w27_22, w27_23, w27_24, w27_27, w27_30, w27_31, w27_32, w27_35, w27_38, w27_39, w27_42, w27_43, w27_44, w27_47, w27_49, w27_51, w27_52, w27_55, w27_56, w27_57, w27_60, w27_61, w27_62, w27_63, w27_64, w27_67, w27_69, w27_70, w27_73, w27_74, w27_75, w27_76, w27_79, w27_80, w27_81, w27_84, w27_85, w27_86, w27_90, w27_91, w27_94, w27_97, w27_98, w27_102, w27_103, w27_106, w27_109, w27_110, w27_111, w27_114, w27_115, w27_118, w27_121, w27_124, w27_127, w27_128, w27_129, w27_132, w27_135, w27_136, w27_139, w27_141, w27_142, w27_145, w27_148, w27_150, w27_151, w27_154, w27_155, w27_156, w27_159, w27_160, w27_163, w27_164, w27_166, w27_167, w27_168, w27_169, w27_172, w27_174, w27_175, w27_177, w27_179, w27_182, w27_185, w27_186, w27_187, w27_190, w27_193, w27_196, w27_199, w27_200, zk_sI, zk_sJ, zk_sP, zn_sI, zn_sJ, zn_sP, zI_sI, zI_sJ, zI_sP, zJ_sI, zJ_sJ, zJ_sP, zP_sI, zP_sJ, zP_sP, Option.toList_some, Option.toList_none, List.cons_append, List.nil_append, zk_of hP2.1, zn_of hP2.1, zix, ziN, ne_eq, reduceCtorEq, not_false_eq_true, true_and, and_true, Option.getD_some, Nat.reduceLeDiff, Nat.reduceLT, c_ofNat, zkd4, zp_4_0 hP2, zp_4_1 hP2, zp_4_2 hP2, zp_4_3 hP2, zp_4_4 hP2, zp_4_5 hP2, zp_4_6 hP2, zkd12, zp_12_2 hP2, zp_12_3 hP2, zp_12_4 hP2, zkd13, znd13, zfx13, zkd14, znd14, zfx14, zkd15, znd15, zfx15]
  have hka : zkd a = 3 := by rcases hab with ⟨rfl, -⟩ | ⟨rfl, -⟩ <;> rfl
  have hkb : zkd b = 3 := by rcases hab with ⟨-, rfl⟩ | ⟨-, rfl⟩ <;> rfl
  have hG2 : zG (fun c => 12 ≤ c ∧ c ≤ 25) M M2 := zG_F hF2
  refine ⟨fun hw => ?_, fun hw => ?_⟩
  · have hrk : zrk p = ((zgo p (pr p * pn p) 0 ([(zst p, 1)], zA0) 0).1, (zgo p (pr p * pn p) 0 ([(zst p, 1)], zA0) 0).2.1.2, (zgo p (pr p * pn p) 0 ([(zst p, 1)], zA0) 0).2.2) := by
      rw [zrk, if_neg (fun z => z hw)]
    rw [hrk] at h1 h2
    have fin : ∀ (M3 : zf_M) (S : List (Nat × Nat) × zA) (wd : Nat), zG (fun c => 12 ≤ c ∧ c ≤ 25) M M3 → zLO M3 → zAM M3 S.2 → zf_J M3 12 0 = lN (6 ^ (pr p * pn p)) → zf_I M3 12 1 = nI wd → zgo p (pr p * pn p) 0 ([(zst p, 1)], zA0) 0 = (true, S, wd) → Q (some (.int 1)) M3 := by
      intro M3 S wd x1 x2 x3 x4 x5 x6
      rw [x6] at h1
      exact h1 (by omega) rfl M3 x1 x2 x3 x4 x5
    have step : ∀ (m t r i : Nat) (S : List (Nat × Nat) × zA) (wd : Nat) (M1 : zf_M) (a b : Nat) (l8 : Slot), pr p * pn p = t + (m + 1) → t = r * pn p + i → i < pn p → r < pr p → (a = 16 ∧ b = 21 ∨ a = 21 ∧ b = 16) → zG (fun c => 12 ≤ c ∧ c ≤ 25) M M1 → zf_P M1 12 5 = some a → zf_P M1 12 6 = some b → zLR M1 a S.1 → (∃ n, zLI M1 b n) → zAM M1 S.2 → zf_J M1 12 0 = lN (6 ^ (pr p * pn p)) → zf_J M1 12 7 = lN (6 ^ (m + 1)) → zf_I M1 12 1 = nI wd → wd ≤ 400 → zLV p S.1 → zws S.1 ≤ 6 ^ t → zgo p (m + 1) t S wd = zgo p (pr p * pn p) 0 ([(zst p, 1)], zA0) 0 →
        (∀ (M3 : zf_M) (l8 : Slot), zG (fun c => 12 ≤ c ∧ c ≤ 25) M M3 → zf_P M3 12 5 = some b → zf_P M3 12 6 = some a → zLR M3 b (zslot p (6 ^ m) (r + 1) (po p i) (decide (m = 0)) ([], S.2) S.1).1 → (∃ n, zLI M3 a n) → zAM M3 (zslot p (6 ^ m) (r + 1) (po p i) (decide (m = 0)) ([], S.2) S.1).2 → zf_J M3 12 0 = lN (6 ^ (pr p * pn p)) → zf_J M3 12 7 = lN (6 ^ m) → zf_I M3 12 1 = nI (max wd S.1.length) → max wd S.1.length ≤ 400 → zLV p (zslot p (6 ^ m) (r + 1) (po p i) (decide (m = 0)) ([], S.2) S.1).1 → zws (zslot p (6 ^ m) (r + 1) (po p i) (decide (m = 0)) ([], S.2) S.1).1 ≤ 6 ^ (t + 1) → zgo p m (t + 1) (zslot p (6 ^ m) (r + 1) (po p i) (decide (m = 0)) ([], S.2) S.1) (max wd S.1.length) = zgo p (pr p * pn p) 0 ([(zst p, 1)], zA0) 0 → zW X 27 100 [.val (.ref 12), .val (.ref 4), .val (.int (nI (pr p * pn p))), .val (.long (lN (zst p))), .second, .val (.int (-1)), .val (.int (nI (r + 1))), .val (.int (nI (i + 1))), l8] [] M3 Q) →
        zW X 27 100 [.val (.ref 12), .val (.ref 4), .val (.int (nI (pr p * pn p))), .val (.long (lN (zst p))), .second, .val (.int (-1)), .val (.int (nI (r + 1))), .val (.int (nI i)), l8] [] M1 Q := by
      intro m t r i S wd M1 a b l8 ht hti hi hr hab hG e5 e6 hK hI hA hT hB hW hwd hV hws hz hk
      have hP1 := zPk_G hP hG
      have hF1 := zFP_G hFP hG (fun c x y => by omega)
      have hka : zkd a = 3 := by rcases hab with ⟨rfl, -⟩ | ⟨rfl, -⟩ <;> rfl
      have hkb : zkd b = 3 := by rcases hab with ⟨-, rfl⟩ | ⟨-, rfl⟩ <;> rfl
      have ei : nI (pn p) - 1 = nI (pn p - 1) := pk_sub (b := 1) (by omega)
      have hdiv : t / pn p + 1 = r + 1 := by
        rw [hti, Nat.mul_comm, Nat.mul_add_div (by omega), Nat.div_eq_of_lt hi]
      have hmod : t % pn p = i := by
        rw [hti, Nat.mul_comm, Nat.mul_add_mod, Nat.mod_eq_of_lt hi]
      rw [zgo, hdiv, hmod] at hz
      have hlen := hK.1.2.1
      have emax : (if nI wd < nI S.1.length then nI S.1.length else nI wd) = nI (max wd S.1.length) := by
        have e := n_lt (a := wd) (b := S.1.length) (by omega) (by omega)
        by_cases g : wd < S.1.length
        · rw [if_pos (e.mpr g), Nat.max_eq_right (by omega)]
        · rw [if_neg (fun z => g (e.mp z)), Nat.max_eq_left (by omega)]
      have p22 : 6 ^ (m + 1) ≤ 6 ^ 22 := Nat.pow_le_pow_right (by decide) (by omega)
      have p22' : 6 ^ t ≤ 6 ^ 21 := Nat.pow_le_pow_right (by decide) (by omega)
      have esix : lN (6 ^ (m + 1)) / 6 = lN (6 ^ m) := by
        have e : (6 : Int64) = lN 6 := rfl
        rw [e, pk_lDiv (Nat.lt_of_le_of_lt p22 (by decide)) (by decide) (by decide), Nat.pow_succ, Nat.mul_div_cancel _ (by decide)]
      have hrn : (r + 1) * pn p = r * pn p + pn p := Nat.succ_mul _ _
      have hle : (r + 1) * pn p ≤ pr p * pn p := Nat.mul_le_mul_right _ hr
      have core : ∀ (li : Int32) (l8 : Slot), (li ≠ 0 ↔ decide (m = 0) = true) → zC X 32 [.ref 12, .ref 4, .int (nI (po p i)), .int (nI (r + 1)), .int li] (zf_sJ (zf_sI M1 12 1 (nI (max wd S.1.length))) 12 7 (lN (6 ^ m))) (fun v M2 => zW X 27 182 [.val (.ref 12), .val (.ref 4), .val (.int (nI (pr p * pn p))), .val (.long (lN (zst p))), .second, .val (.int (-1)), .val (.int (nI (r + 1))), .val (.int (nI i)), l8] (v.toList ++ []) M2 Q) := by
        intro li l8 hli
        have hS : zF (fun c => c = 12) M1 (zf_sJ (zf_sI M1 12 1 (nI (max wd S.1.length))) 12 7 (lN (6 ^ m))) := zF_sJ (zF_sI (zF_rf _ _) rfl) rfl
        have hP3 := zPk_F hP1 hS
        have hF3 := zFP_F hF1 hS (fun c x y => by omega)
        obtain ⟨nn, hI⟩ := hI
        have hGS : zG (fun c => 12 ≤ c ∧ c ≤ 25) M (zf_sJ (zf_sI M1 12 1 (nI (max wd S.1.length))) 12 7 (lN (6 ^ m))) := zG_tr hG (zG_F (zF_mo hS (fun c hc => by omega)))
        have b7 : zf_J (zf_sJ (zf_sI M1 12 1 (nI (max wd S.1.length))) 12 7 (lN (6 ^ m))) 12 7 = lN (6 ^ m) := by
          rw [zJ_sJ, if_pos rfl, if_pos rfl]
        have b0 : zf_J (zf_sJ (zf_sI M1 12 1 (nI (max wd S.1.length))) 12 7 (lN (6 ^ m))) 12 0 = lN (6 ^ (pr p * pn p)) := by
          rw [zJ_sJ, if_pos rfl, if_neg (by decide), zJ_sI, hT]
        have b1 : zf_I (zf_sJ (zf_sI M1 12 1 (nI (max wd S.1.length))) 12 7 (lN (6 ^ m))) 12 1 = nI (max wd S.1.length) := by
          rw [zI_sJ, zI_sI, if_pos rfl, if_pos rfl]
        have hK3 := zLR_F hK hS (fun c x y => by omega)
        have hI3 := zLI_F hI hS (fun c x y => by omega)
        have hA3 := zAM_F hA hS (fun c x y => by omega)
        refine s32 (a := a) (b := b) (K := S.1) (A := S.2) (la := decide (m = 0)) (bh := 6 ^ m) hP3 hp hF3 hA3 ⟨i, hi, rfl⟩ (by omega) b7 hab (by rw [hS.2.2]; exact e5) (by rw [hS.2.2]; exact e6) hK3 hV ⟨nn, hI3⟩ (Nat.lt_of_le_of_lt (Nat.mul_le_mul_left 6 (Nat.le_trans hws p22')) (by decide)) hli (fun g M3 g1 g2 g3 => ?_) (fun g M3 g1 g2 => ?_)
        · have hP4 := zPk_12 (q := some a) (zPk_12 (q := some b) (zPk_F hP3 g1) (Or.inl rfl)) (Or.inr rfl)
          have hG3 : zG (fun c => 12 ≤ c ∧ c ≤ 25) M (zf_sP (zf_sP M3 12 5 (some b)) 12 6 (some a)) := zG_tr hGS (zG_tr (zG_F (zF_mo g1 (fun c hc => by omega))) (zG_tr (zG_12 (Or.inl rfl)) (zG_12 (Or.inr rfl))))
          simp only [w27_0, w27_1, w27_4, w27_5, w27_8, w27_9, w27_10, w27_11, w27_13, w27_16, w27_17, w27_18, w27_19, w27_22, w27_23, w27_24, w27_27, w27_30, w27_31, w27_32, w27_35, w27_38, w27_39, w27_42, w27_43, w27_44, w27_47, w27_49, w27_51, w27_52, w27_55, w27_56, w27_57, w27_60, w27_61, w27_62, w27_63, w27_64, w27_67, w27_69, w27_70, w27_73, w27_74, w27_75, w27_76, w27_79, w27_80, w27_81, w27_84, w27_85, w27_86, w27_90, w27_91, w27_94, w27_97, w27_98, w27_102, w27_103, w27_106, w27_109, w27_110, w27_111, w27_114, w27_115, w27_118, w27_121, w27_124, w27_127, w27_128, w27_129, w27_132, w27_135, w27_136, w27_139, w27_141, w27_142, w27_145, w27_148, w27_150, w27_151, w27_154, w27_155, w27_156, w27_159, w27_160, w27_163, w27_164, w27_166, w27_167, w27_168, w27_169, w27_172, w27_174, w27_175, w27_177, w27_179, w27_182, w27_185, w27_186, w27_187, w27_190, w27_193, w27_196, w27_199, w27_200, zk_sI, zk_sJ, zk_sP, zn_sI, zn_sJ, zn_sP, zI_sI, zI_sJ, zI_sP, zJ_sI, zJ_sJ, zJ_sP, zP_sI, zP_sJ, zP_sP, Option.toList_some, Option.toList_none, List.cons_append, List.nil_append, n_a1]
          refine ⟨fun _ => ?_, fun z => absurd (by decide) z⟩
          rw [if_neg (by omega)] at hz
          have hp5 : zf_P (zf_sP (zf_sP M3 12 5 (some b)) 12 6 (some a)) 12 5 = some b := by
            rw [zP_sP, if_pos rfl, if_neg (by decide), zP_sP, if_pos rfl, if_pos rfl]
          have hp6 : zf_P (zf_sP (zf_sP M3 12 5 (some b)) 12 6 (some a)) 12 6 = some a := by
            rw [zP_sP, if_pos rfl, if_pos rfl]
          have hw4 := zslot_ws p (6 ^ m) (r + 1) (po p i) (decide (m = 0)) (p4 i hi).2.2.2.1 S.1 ([], S.2)
          have hnil : zws (([] : List (Nat × Nat)), S.2).1 = 0 := rfl
          have hIa := zLI_F hK3.1 g1 (fun c x y => by omega)
          refine hk _ _ hG3 hp5 hp6 g2 ⟨_, hIa⟩ g3 ?_ ?_ ?_ (by omega) (zslot_V (6 ^ m) (r + 1) (po p i) (decide (m = 0)) hp (p2 i hi) S.1 _ (fun q hq => by simp at hq) hV) (by rw [Nat.pow_succ]; omega) hz
          · show zf_J M3 12 0 = _
            rw [(g1.2.1 12 (by omega) 0).2, b0]
          · show zf_J M3 12 7 = _
            rw [(g1.2.1 12 (by omega) 7).2, b7]
          · show zf_I M3 12 1 = _
            rw [(g1.2.1 12 (by omega) 1).1, b1]
        · obtain ⟨n2, g2⟩ := g2
          have hG3 : zG (fun c => 12 ≤ c ∧ c ≤ 25) M (zf_sP (zf_sP M3 12 5 (some b)) 12 6 (some a)) := zG_tr hGS (zG_tr (zG_F (zF_mo g1 (fun c hc => by omega))) (zG_tr (zG_12 (Or.inl rfl)) (zG_12 (Or.inr rfl))))
          simp only [w27_0, w27_1, w27_4, w27_5, w27_8, w27_9, w27_10, w27_11, w27_13, w27_16, w27_17, w27_18, w27_19, w27_22, w27_23, w27_24, w27_27, w27_30, w27_31, w27_32, w27_35, w27_38, w27_39, w27_42, w27_43, w27_44, w27_47, w27_49, w27_51, w27_52, w27_55, w27_56, w27_57, w27_60, w27_61, w27_62, w27_63, w27_64, w27_67, w27_69, w27_70, w27_73, w27_74, w27_75, w27_76, w27_79, w27_80, w27_81, w27_84, w27_85, w27_86, w27_90, w27_91, w27_94, w27_97, w27_98, w27_102, w27_103, w27_106, w27_109, w27_110, w27_111, w27_114, w27_115, w27_118, w27_121, w27_124, w27_127, w27_128, w27_129, w27_132, w27_135, w27_136, w27_139, w27_141, w27_142, w27_145, w27_148, w27_150, w27_151, w27_154, w27_155, w27_156, w27_159, w27_160, w27_163, w27_164, w27_166, w27_167, w27_168, w27_169, w27_172, w27_174, w27_175, w27_177, w27_179, w27_182, w27_185, w27_186, w27_187, w27_190, w27_193, w27_196, w27_199, w27_200, zk_sI, zk_sJ, zk_sP, zn_sI, zn_sJ, zn_sP, zI_sI, zI_sJ, zI_sP, zJ_sI, zJ_sJ, zJ_sP, zP_sI, zP_sJ, zP_sP, Option.toList_some, Option.toList_none, List.cons_append, List.nil_append]
          refine ⟨fun z => absurd trivial z, fun _ => ⟨rfl, ?_⟩⟩
          rw [if_pos g] at hz
          have hIa := zLI_F hK3.1 g1 (fun c x y => by omega)
          refine h2 (by omega) (by rw [← hz]) _ hG3 ⟨b, a, n2, _, by omega, ?_, ?_, g2, hIa⟩
          · rw [zP_sP, if_pos rfl, if_neg (by decide), zP_sP, if_pos rfl, if_pos rfl]
          · rw [zP_sP, if_pos rfl, if_pos rfl]
      rw [w27_100]
      simp only [w27_0, w27_1, w27_4, w27_5, w27_8, w27_9, w27_10, w27_11, w27_13, w27_16, w27_17, w27_18, w27_19, w27_22, w27_23, w27_24, w27_27, w27_30, w27_31, w27_32, w27_35, w27_38, w27_39, w27_42, w27_43, w27_44, w27_47, w27_49, w27_51, w27_52, w27_55, w27_56, w27_57, w27_60, w27_61, w27_62, w27_63, w27_64, w27_67, w27_69, w27_70, w27_73, w27_74, w27_75, w27_76, w27_79, w27_80, w27_81, w27_84, w27_85, w27_86, w27_90, w27_91, w27_94, w27_97, w27_98, w27_102, w27_103, w27_106, w27_109, w27_110, w27_111, w27_114, w27_115, w27_118, w27_121, w27_124, w27_127, w27_128, w27_129, w27_132, w27_135, w27_136, w27_139, w27_141, w27_142, w27_145, w27_148, w27_150, w27_151, w27_154, w27_155, w27_156, w27_159, w27_160, w27_163, w27_164, w27_166, w27_167, w27_168, w27_169, w27_172, w27_174, w27_175, w27_177, w27_179, w27_182, w27_185, w27_186, w27_187, w27_190, w27_193, w27_196, w27_199, w27_200, zk_sI, zk_sJ, zk_sP, zn_sI, zn_sJ, zn_sP, zI_sI, zI_sJ, zI_sP, zJ_sI, zJ_sJ, zJ_sP, zP_sI, zP_sJ, zP_sP, Option.toList_some, Option.toList_none, List.cons_append, List.nil_append, zk_of hP1.1, zn_of hP1.1, zix, ziN, ne_eq, reduceCtorEq, not_false_eq_true, true_and, and_true, Option.getD_some, Nat.reduceLeDiff, Nat.reduceLT, c_ofNat, zkd4, zp_4_0 hP1, zp_4_1 hP1, zp_4_2 hP1, zp_4_3 hP1, zp_4_4 hP1, zp_4_5 hP1, zp_4_6 hP1, zkd5, znd5, zfx5, zkd6, znd6, zfx6, zkd7, znd7, zfx7, zkd8, znd8, zfx8, zkd9, znd9, zfx9, zkd10, znd10, zfx10, zkd11, znd11, zfx11, zkd12, zp_12_2 hP1, zp_12_3 hP1, zp_12_4 hP1, zkd13, znd13, zfx13, zkd14, znd14, zfx14, zkd15, znd15, zfx15, e5, e6, hka, hkb, hF1.1, hF1.2.2.2.1, hF1.2.1 i hi, hW, hB, hK.1.1, ei, emax, esix, Nat.reduceEqDiff, if_false, n_cl (show i < 2 ^ 31 by omega), n_in (show i < 6 by omega) (show 6 < 2 ^ 31 by decide)]
      rw [n_le (by omega) (by omega), n_eq (by omega) (by omega), n_eq (by omega) (by omega)]
      have far : ¬ r + 1 = pr p → m ≠ 0 := by
        intro g g2
        have h3 : (r + 2) * pn p ≤ pr p * pn p := Nat.mul_le_mul_right _ (by omega)
        have h4 : (r + 2) * pn p = (r + 1) * pn p + pn p := Nat.succ_mul _ _
        omega
      refine ⟨fun z => by omega, fun _ => ⟨by decide, fun g => core 0 _ ?_, fun g => ⟨fun g2 => core 0 _ ?_, fun g2 => core 1 _ ?_⟩⟩⟩
      · exact ⟨fun z => absurd rfl z, fun z => absurd (of_decide_eq_true z) (far g)⟩
      · refine ⟨fun z => absurd rfl z, fun z => ?_⟩
        have z := of_decide_eq_true z
        have g := Decidable.not_not.mp g
        rw [g] at hrn
        omega
      · have g := Decidable.not_not.mp g
        have g2 := Decidable.not_not.mp g2
        rw [g] at hrn
        exact ⟨fun _ => decide_eq_true (by omega), fun _ => by decide⟩
    have loop : ∀ (m t r i : Nat) (S : List (Nat × Nat) × zA) (wd : Nat) (M1 : zf_M) (a b : Nat) (l8 : Slot), pr p * pn p = t + (m + 1) → t = r * pn p + i → i < pn p → r < pr p → (a = 16 ∧ b = 21 ∨ a = 21 ∧ b = 16) → zG (fun c => 12 ≤ c ∧ c ≤ 25) M M1 → zf_P M1 12 5 = some a → zf_P M1 12 6 = some b → zLR M1 a S.1 → (∃ n, zLI M1 b n) → zAM M1 S.2 → zf_J M1 12 0 = lN (6 ^ (pr p * pn p)) → zf_J M1 12 7 = lN (6 ^ (m + 1)) → zf_I M1 12 1 = nI wd → wd ≤ 400 → zLV p S.1 → zws S.1 ≤ 6 ^ t → zgo p (m + 1) t S wd = zgo p (pr p * pn p) 0 ([(zst p, 1)], zA0) 0 → zW X 27 100 [.val (.ref 12), .val (.ref 4), .val (.int (nI (pr p * pn p))), .val (.long (lN (zst p))), .second, .val (.int (-1)), .val (.int (nI (r + 1))), .val (.int (nI i)), l8] [] M1 Q := by
      intro m
      induction m with
      | zero =>
        intro t r i S wd M1 a b l8 ht hti hi hr hab hG e5 e6 hK hI hA hT hB hW hwd hV hws hz
        refine step 0 t r i S wd M1 a b l8 ht hti hi hr hab hG e5 e6 hK hI hA hT hB hW hwd hV hws hz (fun M3 l8 x1 x2 x3 x4 x5 x6 x7 x8 x9 x10 x11 x12 x13 => ?_)
        have hP3 := zPk_G hP x1
        have hF3 := zFP_G hFP x1 (fun c x y => by omega)
        obtain ⟨n5, x5⟩ := x5
        have hrn : (r + 1) * pn p = r * pn p + pn p := Nat.succ_mul _ _
        have hle : (r + 1) * pn p ≤ pr p * pn p := Nat.mul_le_mul_right _ hr
        have hin : i + 1 = pn p := by omega
        have hrr : r + 1 = pr p := by
          refine Classical.byContradiction (fun g => ?_)
          have h3 : (r + 2) * pn p ≤ pr p * pn p := Nat.mul_le_mul_right _ (by omega)
          have h4 : (r + 2) * pn p = (r + 1) * pn p + pn p := Nat.succ_mul _ _
          omega
        have hQ := fin M3 _ _ x1 ⟨b, a, _, n5, by omega, x2, x3, x4.1, x5⟩ x6 x7 x9 (by rw [← x13, zgo])
        rw [w27_100]
        simp only [w27_0, w27_1, w27_4, w27_5, w27_8, w27_9, w27_10, w27_11, w27_13, w27_16, w27_17, w27_18, w27_19, w27_22, w27_23, w27_24, w27_27, w27_30, w27_31, w27_32, w27_35, w27_38, w27_39, w27_42, w27_43, w27_44, w27_47, w27_49, w27_51, w27_52, w27_55, w27_56, w27_57, w27_60, w27_61, w27_62, w27_63, w27_64, w27_67, w27_69, w27_70, w27_73, w27_74, w27_75, w27_76, w27_79, w27_80, w27_81, w27_84, w27_85, w27_86, w27_90, w27_91, w27_94, w27_97, w27_98, w27_102, w27_103, w27_106, w27_109, w27_110, w27_111, w27_114, w27_115, w27_118, w27_121, w27_124, w27_127, w27_128, w27_129, w27_132, w27_135, w27_136, w27_139, w27_141, w27_142, w27_145, w27_148, w27_150, w27_151, w27_154, w27_155, w27_156, w27_159, w27_160, w27_163, w27_164, w27_166, w27_167, w27_168, w27_169, w27_172, w27_174, w27_175, w27_177, w27_179, w27_182, w27_185, w27_186, w27_187, w27_190, w27_193, w27_196, w27_199, w27_200, zk_sI, zk_sJ, zk_sP, zn_sI, zn_sJ, zn_sP, zI_sI, zI_sJ, zI_sP, zJ_sI, zJ_sJ, zJ_sP, zP_sI, zP_sJ, zP_sP, Option.toList_some, Option.toList_none, List.cons_append, List.nil_append, zk_of hP3.1, zn_of hP3.1, zix, ziN, ne_eq, reduceCtorEq, not_false_eq_true, true_and, and_true, Option.getD_some, Nat.reduceLeDiff, Nat.reduceLT, c_ofNat, zkd4, zp_4_0 hP3, zp_4_1 hP3, zp_4_2 hP3, zp_4_3 hP3, zp_4_4 hP3, zp_4_5 hP3, zp_4_6 hP3, zkd5, znd5, zfx5, zkd6, znd6, zfx6, zkd7, znd7, zfx7, zkd8, znd8, zfx8, zkd9, znd9, zfx9, zkd10, znd10, zfx10, zkd11, znd11, zfx11, zkd12, zp_12_2 hP3, zp_12_3 hP3, zp_12_4 hP3, zkd13, znd13, zfx13, zkd14, znd14, zfx14, zkd15, znd15, zfx15, hF3.1, hF3.2.2.2.1, hin, hrr, n_a1, Int32.le_refl]
        refine ⟨fun _ => ?_, fun z => absurd trivial z⟩
        rw [w27_88]
        simp only [w27_0, w27_1, w27_4, w27_5, w27_8, w27_9, w27_10, w27_11, w27_13, w27_16, w27_17, w27_18, w27_19, w27_22, w27_23, w27_24, w27_27, w27_30, w27_31, w27_32, w27_35, w27_38, w27_39, w27_42, w27_43, w27_44, w27_47, w27_49, w27_51, w27_52, w27_55, w27_56, w27_57, w27_60, w27_61, w27_62, w27_63, w27_64, w27_67, w27_69, w27_70, w27_73, w27_74, w27_75, w27_76, w27_79, w27_80, w27_81, w27_84, w27_85, w27_86, w27_90, w27_91, w27_94, w27_97, w27_98, w27_102, w27_103, w27_106, w27_109, w27_110, w27_111, w27_114, w27_115, w27_118, w27_121, w27_124, w27_127, w27_128, w27_129, w27_132, w27_135, w27_136, w27_139, w27_141, w27_142, w27_145, w27_148, w27_150, w27_151, w27_154, w27_155, w27_156, w27_159, w27_160, w27_163, w27_164, w27_166, w27_167, w27_168, w27_169, w27_172, w27_174, w27_175, w27_177, w27_179, w27_182, w27_185, w27_186, w27_187, w27_190, w27_193, w27_196, w27_199, w27_200, zk_sI, zk_sJ, zk_sP, zn_sI, zn_sJ, zn_sP, zI_sI, zI_sJ, zI_sP, zJ_sI, zJ_sJ, zJ_sP, zP_sI, zP_sJ, zP_sP, Option.toList_some, Option.toList_none, List.cons_append, List.nil_append, zk_of hP3.1, zn_of hP3.1, zix, ziN, ne_eq, reduceCtorEq, not_false_eq_true, true_and, and_true, Option.getD_some, Nat.reduceLeDiff, Nat.reduceLT, c_ofNat, zkd4, zp_4_0 hP3, zp_4_1 hP3, zp_4_2 hP3, zp_4_3 hP3, zp_4_4 hP3, zp_4_5 hP3, zp_4_6 hP3, zkd5, znd5, zfx5, zkd6, znd6, zfx6, zkd7, znd7, zfx7, zkd8, znd8, zfx8, zkd9, znd9, zfx9, zkd10, znd10, zfx10, zkd11, znd11, zfx11, zkd12, zp_12_2 hP3, zp_12_3 hP3, zp_12_4 hP3, zkd13, znd13, zfx13, zkd14, znd14, zfx14, zkd15, znd15, zfx15, hF3.1, hF3.2.2.2.1, hin, hrr, n_a1, Int32.le_refl]
        rw [n_lt (by omega) (by omega)]
        exact ⟨fun _ => ⟨rfl, hQ⟩, fun z => by omega⟩
      | succ m ih =>
        intro t r i S wd M1 a b l8 ht hti hi hr hab hG e5 e6 hK hI hA hT hB hW hwd hV hws hz
        refine step (m + 1) t r i S wd M1 a b l8 ht hti hi hr hab hG e5 e6 hK hI hA hT hB hW hwd hV hws hz (fun M3 l8 x1 x2 x3 x4 x5 x6 x7 x8 x9 x10 x11 x12 x13 => ?_)
        have hP3 := zPk_G hP x1
        have hF3 := zFP_G hFP x1 (fun c x y => by omega)
        have hrn : (r + 1) * pn p = r * pn p + pn p := Nat.succ_mul _ _
        have hle : (r + 1) * pn p ≤ pr p * pn p := Nat.mul_le_mul_right _ hr
        by_cases hin : i + 1 < pn p
        · exact ih (t + 1) r (i + 1) _ _ M3 b a _ (by omega) (by omega) hin hr (by omega) x1 x2 x3 x4 x5 x6 x7 x8 x9 x10 x11 x12 x13
        · have hin : i + 1 = pn p := by omega
          have hrr : r + 1 < pr p := by
            refine Classical.byContradiction (fun g => ?_)
            have : r + 1 = pr p := by omega
            rw [this] at hrn
            omega
          rw [w27_100]
          simp only [w27_0, w27_1, w27_4, w27_5, w27_8, w27_9, w27_10, w27_11, w27_13, w27_16, w27_17, w27_18, w27_19, w27_22, w27_23, w27_24, w27_27, w27_30, w27_31, w27_32, w27_35, w27_38, w27_39, w27_42, w27_43, w27_44, w27_47, w27_49, w27_51, w27_52, w27_55, w27_56, w27_57, w27_60, w27_61, w27_62, w27_63, w27_64, w27_67, w27_69, w27_70, w27_73, w27_74, w27_75, w27_76, w27_79, w27_80, w27_81, w27_84, w27_85, w27_86, w27_90, w27_91, w27_94, w27_97, w27_98, w27_102, w27_103, w27_106, w27_109, w27_110, w27_111, w27_114, w27_115, w27_118, w27_121, w27_124, w27_127, w27_128, w27_129, w27_132, w27_135, w27_136, w27_139, w27_141, w27_142, w27_145, w27_148, w27_150, w27_151, w27_154, w27_155, w27_156, w27_159, w27_160, w27_163, w27_164, w27_166, w27_167, w27_168, w27_169, w27_172, w27_174, w27_175, w27_177, w27_179, w27_182, w27_185, w27_186, w27_187, w27_190, w27_193, w27_196, w27_199, w27_200, zk_sI, zk_sJ, zk_sP, zn_sI, zn_sJ, zn_sP, zI_sI, zI_sJ, zI_sP, zJ_sI, zJ_sJ, zJ_sP, zP_sI, zP_sJ, zP_sP, Option.toList_some, Option.toList_none, List.cons_append, List.nil_append, zk_of hP3.1, zn_of hP3.1, zix, ziN, ne_eq, reduceCtorEq, not_false_eq_true, true_and, and_true, Option.getD_some, Nat.reduceLeDiff, Nat.reduceLT, c_ofNat, zkd4, zp_4_0 hP3, zp_4_1 hP3, zp_4_2 hP3, zp_4_3 hP3, zp_4_4 hP3, zp_4_5 hP3, zp_4_6 hP3, zkd5, znd5, zfx5, zkd6, znd6, zfx6, zkd7, znd7, zfx7, zkd8, znd8, zfx8, zkd9, znd9, zfx9, zkd10, znd10, zfx10, zkd11, znd11, zfx11, zkd12, zp_12_2 hP3, zp_12_3 hP3, zp_12_4 hP3, zkd13, znd13, zfx13, zkd14, znd14, zfx14, zkd15, znd15, zfx15, hF3.1, hF3.2.2.2.1, hin, n_a1, Int32.le_refl]
          refine ⟨fun _ => ?_, fun z => absurd trivial z⟩
          rw [w27_88]
          simp only [w27_0, w27_1, w27_4, w27_5, w27_8, w27_9, w27_10, w27_11, w27_13, w27_16, w27_17, w27_18, w27_19, w27_22, w27_23, w27_24, w27_27, w27_30, w27_31, w27_32, w27_35, w27_38, w27_39, w27_42, w27_43, w27_44, w27_47, w27_49, w27_51, w27_52, w27_55, w27_56, w27_57, w27_60, w27_61, w27_62, w27_63, w27_64, w27_67, w27_69, w27_70, w27_73, w27_74, w27_75, w27_76, w27_79, w27_80, w27_81, w27_84, w27_85, w27_86, w27_90, w27_91, w27_94, w27_97, w27_98, w27_102, w27_103, w27_106, w27_109, w27_110, w27_111, w27_114, w27_115, w27_118, w27_121, w27_124, w27_127, w27_128, w27_129, w27_132, w27_135, w27_136, w27_139, w27_141, w27_142, w27_145, w27_148, w27_150, w27_151, w27_154, w27_155, w27_156, w27_159, w27_160, w27_163, w27_164, w27_166, w27_167, w27_168, w27_169, w27_172, w27_174, w27_175, w27_177, w27_179, w27_182, w27_185, w27_186, w27_187, w27_190, w27_193, w27_196, w27_199, w27_200, zk_sI, zk_sJ, zk_sP, zn_sI, zn_sJ, zn_sP, zI_sI, zI_sJ, zI_sP, zJ_sI, zJ_sJ, zJ_sP, zP_sI, zP_sJ, zP_sP, Option.toList_some, Option.toList_none, List.cons_append, List.nil_append, zk_of hP3.1, zn_of hP3.1, zix, ziN, ne_eq, reduceCtorEq, not_false_eq_true, true_and, and_true, Option.getD_some, Nat.reduceLeDiff, Nat.reduceLT, c_ofNat, zkd4, zp_4_0 hP3, zp_4_1 hP3, zp_4_2 hP3, zp_4_3 hP3, zp_4_4 hP3, zp_4_5 hP3, zp_4_6 hP3, zkd5, znd5, zfx5, zkd6, znd6, zfx6, zkd7, znd7, zfx7, zkd8, znd8, zfx8, zkd9, znd9, zfx9, zkd10, znd10, zfx10, zkd11, znd11, zfx11, zkd12, zp_12_2 hP3, zp_12_3 hP3, zp_12_4 hP3, zkd13, znd13, zfx13, zkd14, znd14, zfx14, zkd15, znd15, zfx15, hF3.1, hF3.2.2.2.1, n_a1]
          rw [n_lt (by omega) (by omega)]
          refine ⟨fun z => by omega, fun _ => ?_⟩
          exact ih (t + 1) (r + 1) 0 _ _ M3 b a _ (by omega) (by omega) (by omega) hrr (by omega) x1 x2 x3 x4 x5 x6 x7 x8 x9 x10 x11 x12 x13
    have hLR := zLy_of hP2 (show a = 16 ∨ a = 21 by omega)
    simp only [e52, hka, Option.getD_some, reduceCtorEq, not_false_eq_true, true_and]
    refine s24L (K := []) (N := zst p) (w := 1) hLR ⟨ka2, fun i q hq => by simp at hq⟩ hz6 (fun _ M3 g1 g2 => ?_) (fun g => absurd g (by show ¬ 400 < 1; decide))
    simp only [w27_0, w27_1, w27_4, w27_5, w27_8, w27_9, w27_10, w27_11, w27_13, w27_16, w27_17, w27_18, w27_19, w27_22, w27_23, w27_24, w27_27, w27_30, w27_31, w27_32, w27_35, w27_38, w27_39, w27_42, w27_43, w27_44, w27_47, w27_49, w27_51, w27_52, w27_55, w27_56, w27_57, w27_60, w27_61, w27_62, w27_63, w27_64, w27_67, w27_69, w27_70, w27_73, w27_74, w27_75, w27_76, w27_79, w27_80, w27_81, w27_84, w27_85, w27_86, w27_90, w27_91, w27_94, w27_97, w27_98, w27_102, w27_103, w27_106, w27_109, w27_110, w27_111, w27_114, w27_115, w27_118, w27_121, w27_124, w27_127, w27_128, w27_129, w27_132, w27_135, w27_136, w27_139, w27_141, w27_142, w27_145, w27_148, w27_150, w27_151, w27_154, w27_155, w27_156, w27_159, w27_160, w27_163, w27_164, w27_166, w27_167, w27_168, w27_169, w27_172, w27_174, w27_175, w27_177, w27_179, w27_182, w27_185, w27_186, w27_187, w27_190, w27_193, w27_196, w27_199, w27_200, zk_sI, zk_sJ, zk_sP, zn_sI, zn_sJ, zn_sP, zI_sI, zI_sJ, zI_sP, zJ_sI, zJ_sJ, zJ_sP, zP_sI, zP_sJ, zP_sP, Option.toList_some, Option.toList_none, List.cons_append, List.nil_append]
    have hP3 := zPk_F hP2 g1
    have hF3 := zFP_F hFP2 g1 (fun c x y => by omega)
    have hup : 1 ≤ pn p := by
      refine Classical.byContradiction (fun g => ?_)
      have e0 : pn p = 0 := by omega
      have : zst p = 0 := by unfold zst; rw [e0]; rfl
      rw [this] at hw
      exact absurd hw (by decide)
    have hpos : 1 ≤ pr p * pn p := Nat.mul_le_mul p5 hup
    rw [w27_88]
    simp only [w27_0, w27_1, w27_4, w27_5, w27_8, w27_9, w27_10, w27_11, w27_13, w27_16, w27_17, w27_18, w27_19, w27_22, w27_23, w27_24, w27_27, w27_30, w27_31, w27_32, w27_35, w27_38, w27_39, w27_42, w27_43, w27_44, w27_47, w27_49, w27_51, w27_52, w27_55, w27_56, w27_57, w27_60, w27_61, w27_62, w27_63, w27_64, w27_67, w27_69, w27_70, w27_73, w27_74, w27_75, w27_76, w27_79, w27_80, w27_81, w27_84, w27_85, w27_86, w27_90, w27_91, w27_94, w27_97, w27_98, w27_102, w27_103, w27_106, w27_109, w27_110, w27_111, w27_114, w27_115, w27_118, w27_121, w27_124, w27_127, w27_128, w27_129, w27_132, w27_135, w27_136, w27_139, w27_141, w27_142, w27_145, w27_148, w27_150, w27_151, w27_154, w27_155, w27_156, w27_159, w27_160, w27_163, w27_164, w27_166, w27_167, w27_168, w27_169, w27_172, w27_174, w27_175, w27_177, w27_179, w27_182, w27_185, w27_186, w27_187, w27_190, w27_193, w27_196, w27_199, w27_200, zk_sI, zk_sJ, zk_sP, zn_sI, zn_sJ, zn_sP, zI_sI, zI_sJ, zI_sP, zJ_sI, zJ_sJ, zJ_sP, zP_sI, zP_sJ, zP_sP, Option.toList_some, Option.toList_none, List.cons_append, List.nil_append, zk_of hP3.1, zn_of hP3.1, zix, ziN, ne_eq, reduceCtorEq, not_false_eq_true, true_and, and_true, Option.getD_some, Nat.reduceLeDiff, Nat.reduceLT, c_ofNat, zkd4, zp_4_0 hP3, zp_4_1 hP3, zp_4_2 hP3, zp_4_3 hP3, zp_4_4 hP3, zp_4_5 hP3, zp_4_6 hP3, zkd5, znd5, zfx5, zkd6, znd6, zfx6, zkd7, znd7, zfx7, zkd8, znd8, zfx8, zkd9, znd9, zfx9, zkd10, znd10, zfx10, zkd11, znd11, zfx11, zkd12, zp_12_2 hP3, zp_12_3 hP3, zp_12_4 hP3, zkd13, znd13, zfx13, zkd14, znd14, zfx14, zkd15, znd15, zfx15, hF3.1, hF3.2.2.2.1, n_a1, hw]
    obtain ⟨m, hm⟩ : ∃ m, pr p * pn p = m + 1 := ⟨pr p * pn p - 1, by omega⟩
    refine ⟨fun z => ?_, fun _ => ?_⟩
    · rw [c_1, n_lt (by omega) (by decide)] at z
      omega
    · have e7 : zf_J M3 12 7 = lN (6 ^ (m + 1)) := by rw [(g1.2.1 12 (by omega) 7).2, hB2, hm]
      refine loop m 0 0 0 ([(zst p, 1)], zA0) 0 M3 a b _ (by omega) (by omega) (by omega) (by omega) hab (zG_tr hG2 (zG_F (zF_mo g1 (fun c hc => by omega)))) (by rw [g1.2.2]; exact e52) (by rw [g1.2.2]; exact e62) g2 ⟨_, zLI_F kb2 g1 (fun c x y => by omega)⟩ (zAM_F hA2 g1 (fun c x y => by omega)) (by rw [(g1.2.1 12 (by omega) 0).2, hT2]) e7 (by rw [(g1.2.1 12 (by omega) 1).1, hW2]; rfl) (by omega) (fun q hq => ?_) (by show 1 ≤ 1; decide) (by rw [hm])
      simp only [List.mem_singleton] at hq
      rw [hq]
      exact hzV
  · have hrk : zrk p = (true, ztl (po p) (pn p) zA0 (zst p) (6 ^ (pr p * pn p)) (zwe (zst p)) 0, 0) := by
      rw [zrk, if_pos hw]
    rw [hrk] at h1 h2
    rw [zwin_e hw]
    have hS3 : zF (fun c => c = 12) M2 (zf_sJ M2 12 7 1) := zF_sJ (zF_rf _ _) rfl
    have hP3 := zPk_F hP2 hS3
    have hB3 : zf_J (zf_sJ M2 12 7 1) 12 7 = lN 1 := by
      rw [zJ_sJ, if_pos rfl, if_pos rfl]
      rfl
    rw [if_pos trivial, if_neg (fun z => z), hT2]
    refine s34 (r := 0) (bh := 1) (w := 6 ^ (pr p * pn p)) (od := po p) (n := pn p) (e := zwe (zst p)) hP3 (zAM_F hA2 hS3 (fun c x y => by omega)) hz6 ⟨(zFP_F hFP2 hS3 (fun c x y => by omega)).1, p1⟩ (fun i hi => ⟨(zFP_F hFP2 hS3 (fun c x y => by omega)).2.1 i hi, p2 i hi⟩) p3 (by unfold zwe; split <;> decide) (by decide) hB3 (fun M3 g1 g2 => ?_)
    rw [Nat.mul_one] at g2
    simp only [w27_0, w27_1, w27_4, w27_5, w27_8, w27_9, w27_10, w27_11, w27_13, w27_16, w27_17, w27_18, w27_19, w27_22, w27_23, w27_24, w27_27, w27_30, w27_31, w27_32, w27_35, w27_38, w27_39, w27_42, w27_43, w27_44, w27_47, w27_49, w27_51, w27_52, w27_55, w27_56, w27_57, w27_60, w27_61, w27_62, w27_63, w27_64, w27_67, w27_69, w27_70, w27_73, w27_74, w27_75, w27_76, w27_79, w27_80, w27_81, w27_84, w27_85, w27_86, w27_90, w27_91, w27_94, w27_97, w27_98, w27_102, w27_103, w27_106, w27_109, w27_110, w27_111, w27_114, w27_115, w27_118, w27_121, w27_124, w27_127, w27_128, w27_129, w27_132, w27_135, w27_136, w27_139, w27_141, w27_142, w27_145, w27_148, w27_150, w27_151, w27_154, w27_155, w27_156, w27_159, w27_160, w27_163, w27_164, w27_166, w27_167, w27_168, w27_169, w27_172, w27_174, w27_175, w27_177, w27_179, w27_182, w27_185, w27_186, w27_187, w27_190, w27_193, w27_196, w27_199, w27_200, zk_sI, zk_sJ, zk_sP, zn_sI, zn_sJ, zn_sP, zI_sI, zI_sJ, zI_sP, zJ_sI, zJ_sJ, zJ_sP, zP_sI, zP_sJ, zP_sP, Option.toList_some, Option.toList_none, List.cons_append, List.nil_append]
    have hF3 : zF (fun c => 12 ≤ c ∧ c ≤ 15) M2 M3 := zF_tr (zF_mo hS3 (fun c hc => by omega)) (zF_mo g1 (fun c hc => by omega))
    refine ⟨rfl, h1 (by omega) rfl M3 (zG_F (zF_tr hF2 (zF_mo hF3 (fun c hc => by omega)))) ⟨a, b, 0, 0, hab, by rw [hF3.2.2]; exact e52, by rw [hF3.2.2]; exact e62, zLI_F ka2 hF3 (fun c x y => by omega), zLI_F kb2 hF3 (fun c x y => by omega)⟩ g2 ?_ ?_⟩
    · rw [(g1.2.1 12 (by omega) 0).2, zJ_sJ, if_pos rfl, if_neg (by decide), hT2]
    · rw [(g1.2.1 12 (by omega) 1).1]
      exact hW2
end ZRk

