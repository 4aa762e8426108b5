/-! ===== the model: who fights ===== -/
def zvo (o : Option Nat) : Int32 := match o with
  | none => -1
  | some f => nI f
/-- a cast in the model's memory -/
def zMC (c : zCs) (n : Nat) (M : zf_M) : Prop := (zNv n c.1 ∧ ∀ i, i < 6 * n → zf_I M 59 i = nI (c.1 i)) ∧ (∀ k, k < 6 → zf_I M 61 k = zvo (c.2.1 k)) ∧ ∀ k f, c.2.1 k = some f → f < n
theorem zMC_F {S : Nat → Prop} {M M1 : zf_M} {c : zCs} {n : Nat} (h : zMC c n M) (hF : zF S M M1) (h1 : ¬ S 59) (h2 : ¬ S 61) : zMC c n M1 := ⟨⟨h.1.1, fun i hi => by rw [(hF.2.1 59 h1 i).1]; exact h.1.2 i hi⟩, fun k hk => by rw [(hF.2.1 61 h2 k).1]; exact h.2.1 k hk, h.2.2⟩
section ZMb
variable {X : zf_X} {M : zf_M} {Q : Option Value → zf_M → Prop} {n : Nat} {c : zCs}
/-- begins -/
theorem s116 (hP : zPk M) (hC : zMC c n M)
    (h : ∀ M1, zF (fun b => b = 58 ∨ b = 63 ∨ b = 64 ∨ b = 65) M M1 → (∀ j, j ≠ 9 → zf_I M1 58 j = zf_I M 58 j) → zf_I M1 58 9 = nI (zol c 6).length → zOr M1 63 (zol c 6) → (∀ k, k < 6 → zf_I M1 64 k = nI (znu c k 1) ∧ zf_I M1 65 k = zB (c.2.1 k ≠ none)) → Q none M1) : zC X 116 [.ref 58] M Q := by
  rw [c116]
  have hnv := hC.1.1
  have hspd : ∀ k f, c.2.1 k = some f → znu c k 5 ≤ 9 ∧ znu c k 1 ≤ 20 := by
    intro k f hk
    obtain ⟨x1, x2, x3, x4, x5, x6, x7, x8⟩ := hnv.2 f (hC.2.2 k f hk)
    simp only [znu, hk]
    exact ⟨x8, x3⟩
  have l2 : ∀ (m k : Nat) (M1 : zf_M) (l : Slot), k + m = 6 → zF (fun b => b = 58 ∨ b = 63 ∨ b = 64 ∨ b = 65) M M1 → (∀ j, j ≠ 9 → zf_I M1 58 j = zf_I M 58 j) → zf_I M1 58 9 = nI (zol c 6).length → zOr M1 63 (zol c 6) → (∀ i, i < k → zf_I M1 64 i = nI (znu c i 1) ∧ zf_I M1 65 i = zB (c.2.1 i ≠ none)) → zW X 116 119 [.val (.ref 58), .val (.int (nI k)), l] [] M1 Q := by
    intro m
    induction m with
    | zero =>
      intro k M1 l hk hF x1 x2 x3 x4
      obtain rfl : k = 6 := by omega
      rw [w116_119]
      simp only [w116_0, w116_1, w116_2, w116_5, w116_6, w116_8, w116_10, w116_13, w116_14, w116_17, w116_18, w116_19, w116_20, w116_23, w116_24, w116_27, w116_29, w116_32, w116_33, w116_36, w116_38, w116_39, w116_42, w116_43, w116_46, w116_47, w116_48, w116_49, w116_50, w116_51, w116_52, w116_53, w116_54, w116_55, w116_56, w116_59, w116_61, w116_62, w116_65, w116_66, w116_67, w116_68, w116_69, w116_70, w116_71, w116_74, w116_75, w116_78, w116_79, w116_80, w116_83, w116_84, w116_85, w116_86, w116_87, w116_88, w116_91, w116_94, w116_95, w116_98, w116_99, w116_100, w116_101, w116_102, w116_103, w116_106, w116_107, w116_108, w116_111, w116_114, w116_117, w116_118, w116_120, w116_122, w116_125, w116_126, w116_129, w116_130, w116_131, w116_134, w116_135, w116_136, w116_137, w116_140, w116_141, w116_144, w116_145, w116_148, w116_150, w116_151, w116_154, w116_155, w116_156, w116_157, w116_158, w116_159, w116_160, w116_161, w116_162, w116_165, w116_166, w116_167, w116_170, w116_171, w116_172, w116_173, w116_176, w116_177, w116_180, w116_181, w116_182, w116_185, w116_188, zk_sI, zk_sJ, zk_sP, zn_sI, zn_sJ, zn_sP, zI_sI, zI_sJ, zI_sP, zJ_sI, zJ_sJ, zJ_sP, zP_sI, zP_sJ, zP_sP, Option.toList_some, Option.toList_none, List.cons_append, List.nil_append]
      exact ⟨fun _ => h M1 hF x1 x2 x3 x4, fun z => absurd (by decide) z⟩
    | succ m ih =>
      intro k M1 l hk hF x1 x2 x3 x4
      have hP1 := zPk_F hP hF
      have hC1 := zMC_F hC hF (by omega) (by omega)
      have ew := hC1.2.1 k (by omega)
      rw [w116_119]
      cases hk2 : c.2.1 k with
      | none =>
        rw [hk2] at ew
        change _ = (-1 : Int32) at ew
        simp only [w116_0, w116_1, w116_2, w116_5, w116_6, w116_8, w116_10, w116_13, w116_14, w116_17, w116_18, w116_19, w116_20, w116_23, w116_24, w116_27, w116_29, w116_32, w116_33, w116_36, w116_38, w116_39, w116_42, w116_43, w116_46, w116_47, w116_48, w116_49, w116_50, w116_51, w116_52, w116_53, w116_54, w116_55, w116_56, w116_59, w116_61, w116_62, w116_65, w116_66, w116_67, w116_68, w116_69, w116_70, w116_71, w116_74, w116_75, w116_78, w116_79, w116_80, w116_83, w116_84, w116_85, w116_86, w116_87, w116_88, w116_91, w116_94, w116_95, w116_98, w116_99, w116_100, w116_101, w116_102, w116_103, w116_106, w116_107, w116_108, w116_111, w116_114, w116_117, w116_118, w116_120, w116_122, w116_125, w116_126, w116_129, w116_130, w116_131, w116_134, w116_135, w116_136, w116_137, w116_140, w116_141, w116_144, w116_145, w116_148, w116_150, w116_151, w116_154, w116_155, w116_156, w116_157, w116_158, w116_159, w116_160, w116_161, w116_162, w116_165, w116_166, w116_167, w116_170, w116_171, w116_172, w116_173, w116_176, w116_177, w116_180, w116_181, w116_182, w116_185, w116_188, zk_sI, zk_sJ, zk_sP, zn_sI, zn_sJ, zn_sP, zI_sI, zI_sJ, zI_sP, zJ_sI, zJ_sJ, zJ_sP, zP_sI, zP_sJ, zP_sP, Option.toList_some, Option.toList_none, List.cons_append, List.nil_append, zk_of hP1.1, zn_of hP1.1, zix, ziN, ne_eq, reduceCtorEq, not_false_eq_true, true_and, and_true, Option.getD_some, Nat.reduceLeDiff, Nat.reduceLT, c_ofNat, zkd58, zp_58_1 hP1, zp_58_2 hP1, zp_58_6 hP1, zp_58_7 hP1, zp_58_10 hP1, zp_58_11 hP1, zp_58_12 hP1, zp_58_14 hP1, zp_58_15 hP1, zp_58_17 hP1, zp_58_18 hP1, zp_58_19 hP1, zp_58_20 hP1, zp_58_21 hP1, zp_58_22 hP1, zp_58_24 hP1, zp_58_26 hP1, zp_58_29 hP1, zp_58_32 hP1, zp_58_33 hP1, zp_58_34 hP1, zp_58_35 hP1, zp_58_36 hP1, zp_58_37 hP1, zp_58_38 hP1, zp_58_39 hP1, zkd59, znd59, zfx59, zkd60, znd60, zfx60, zkd61, znd61, zfx61, zkd62, znd62, zfx62, zkd63, znd63, zfx63, zkd64, znd64, zfx64, zkd65, znd65, zfx65, ew, n_cl (show k < 2 ^ 31 by omega), n_in (show k < 6 by omega) (show 6 < 2 ^ 31 by decide), Nat.reduceEqDiff, if_false, not_true_eq_false, false_implies, true_implies, true_and, and_true]
        rw [c_6, n_le (by decide) (by omega), n_a1]
        refine ⟨fun z => by omega, fun _ => ⟨rfl, ih (k + 1) _ _ (by omega) (zF_sI (zF_sI hF (by omega)) (by omega)) x1 x2 x3 (fun i hi => ?_)⟩⟩
        rw [zI_sI, if_neg (by decide), zI_sI, if_pos rfl, zI_sI, if_pos rfl]
        by_cases hik : i = k
        · subst hik
          rw [if_pos rfl, if_pos rfl, hk2, zB_f (fun z => z rfl)]
          refine ⟨?_, rfl⟩
          simp only [znu, hk2]
          rfl
        · rw [if_neg hik, if_neg hik]
          exact x4 i (by omega)
      | some f =>
        rw [hk2] at ew
        change _ = nI f at ew
        have hf := hC.2.2 k f hk2
        have hn16 := hnv.1
        have e6 : (6 : Int32) * nI f + 1 = nI (6 * f + 1) := by rw [n_m6, n_a1]
        have e7 := hC1.1.2 (6 * f + 1) (by omega)
        simp only [w116_0, w116_1, w116_2, w116_5, w116_6, w116_8, w116_10, w116_13, w116_14, w116_17, w116_18, w116_19, w116_20, w116_23, w116_24, w116_27, w116_29, w116_32, w116_33, w116_36, w116_38, w116_39, w116_42, w116_43, w116_46, w116_47, w116_48, w116_49, w116_50, w116_51, w116_52, w116_53, w116_54, w116_55, w116_56, w116_59, w116_61, w116_62, w116_65, w116_66, w116_67, w116_68, w116_69, w116_70, w116_71, w116_74, w116_75, w116_78, w116_79, w116_80, w116_83, w116_84, w116_85, w116_86, w116_87, w116_88, w116_91, w116_94, w116_95, w116_98, w116_99, w116_100, w116_101, w116_102, w116_103, w116_106, w116_107, w116_108, w116_111, w116_114, w116_117, w116_118, w116_120, w116_122, w116_125, w116_126, w116_129, w116_130, w116_131, w116_134, w116_135, w116_136, w116_137, w116_140, w116_141, w116_144, w116_145, w116_148, w116_150, w116_151, w116_154, w116_155, w116_156, w116_157, w116_158, w116_159, w116_160, w116_161, w116_162, w116_165, w116_166, w116_167, w116_170, w116_171, w116_172, w116_173, w116_176, w116_177, w116_180, w116_181, w116_182, w116_185, w116_188, zk_sI, zk_sJ, zk_sP, zn_sI, zn_sJ, zn_sP, zI_sI, zI_sJ, zI_sP, zJ_sI, zJ_sJ, zJ_sP, zP_sI, zP_sJ, zP_sP, Option.toList_some, Option.toList_none, List.cons_append, List.nil_append, zk_of hP1.1, zn_of hP1.1, zix, ziN, ne_eq, reduceCtorEq, not_false_eq_true, true_and, and_true, Option.getD_some, Nat.reduceLeDiff, Nat.reduceLT, c_ofNat, zkd58, zp_58_1 hP1, zp_58_2 hP1, zp_58_6 hP1, zp_58_7 hP1, zp_58_10 hP1, zp_58_11 hP1, zp_58_12 hP1, zp_58_14 hP1, zp_58_15 hP1, zp_58_17 hP1, zp_58_18 hP1, zp_58_19 hP1, zp_58_20 hP1, zp_58_21 hP1, zp_58_22 hP1, zp_58_24 hP1, zp_58_26 hP1, zp_58_29 hP1, zp_58_32 hP1, zp_58_33 hP1, zp_58_34 hP1, zp_58_35 hP1, zp_58_36 hP1, zp_58_37 hP1, zp_58_38 hP1, zp_58_39 hP1, zkd59, znd59, zfx59, zkd60, znd60, zfx60, zkd61, znd61, zfx61, zkd62, znd62, zfx62, zkd63, znd63, zfx63, zkd64, znd64, zfx64, zkd65, znd65, zfx65, ew, e6, e7, n_cl (show k < 2 ^ 31 by omega), n_in (show k < 6 by omega) (show 6 < 2 ^ 31 by decide), Nat.reduceEqDiff, if_false, n_cl (show 6 * f + 1 < 2 ^ 31 by omega), n_in (show 6 * f + 1 < 96 by omega) (show 96 < 2 ^ 31 by decide), n_ne (show f < 2 ^ 31 by omega), not_false_eq_true, not_true_eq_false, false_implies, true_implies, true_and, and_true]
        rw [c_6, n_le (by decide) (by omega), n_a1]
        refine ⟨fun z => by omega, fun _ => ⟨rfl, ih (k + 1) _ _ (by omega) (zF_sI (zF_sI hF (by omega)) (by omega)) x1 x2 x3 (fun i hi => ?_)⟩⟩
        rw [zI_sI, if_neg (by decide), zI_sI, if_pos rfl, zI_sI, if_pos rfl]
        by_cases hik : i = k
        · subst hik
          rw [if_pos rfl, if_pos rfl, hk2, zB_t (fun z => by cases z)]
          refine ⟨?_, rfl⟩
          simp only [znu, hk2]
        · rw [if_neg hik, if_neg hik]
          exact x4 i (by omega)
  have l1 : ∀ (m k : Nat) (M1 : zf_M) (l : Slot), k + m = 6 → zF (fun b => b = 58 ∨ b = 63 ∨ b = 64 ∨ b = 65) M M1 → (∀ j, j ≠ 9 → zf_I M1 58 j = zf_I M 58 j) → zf_I M1 58 9 = nI (zol c k).length → zOr M1 63 (zol c k) → zW X 116 7 [.val (.ref 58), .val (.int (nI k)), l] [] M1 Q := by
    intro m
    induction m with
    | zero =>
      intro k M1 l hk hF x1 x2 x3
      obtain rfl : k = 6 := by omega
      rw [w116_7]
      simp only [w116_0, w116_1, w116_2, w116_5, w116_6, w116_8, w116_10, w116_13, w116_14, w116_17, w116_18, w116_19, w116_20, w116_23, w116_24, w116_27, w116_29, w116_32, w116_33, w116_36, w116_38, w116_39, w116_42, w116_43, w116_46, w116_47, w116_48, w116_49, w116_50, w116_51, w116_52, w116_53, w116_54, w116_55, w116_56, w116_59, w116_61, w116_62, w116_65, w116_66, w116_67, w116_68, w116_69, w116_70, w116_71, w116_74, w116_75, w116_78, w116_79, w116_80, w116_83, w116_84, w116_85, w116_86, w116_87, w116_88, w116_91, w116_94, w116_95, w116_98, w116_99, w116_100, w116_101, w116_102, w116_103, w116_106, w116_107, w116_108, w116_111, w116_114, w116_117, w116_118, w116_120, w116_122, w116_125, w116_126, w116_129, w116_130, w116_131, w116_134, w116_135, w116_136, w116_137, w116_140, w116_141, w116_144, w116_145, w116_148, w116_150, w116_151, w116_154, w116_155, w116_156, w116_157, w116_158, w116_159, w116_160, w116_161, w116_162, w116_165, w116_166, w116_167, w116_170, w116_171, w116_172, w116_173, w116_176, w116_177, w116_180, w116_181, w116_182, w116_185, w116_188, zk_sI, zk_sJ, zk_sP, zn_sI, zn_sJ, zn_sP, zI_sI, zI_sJ, zI_sP, zJ_sI, zJ_sJ, zJ_sP, zP_sI, zP_sJ, zP_sP, Option.toList_some, Option.toList_none, List.cons_append, List.nil_append]
      exact ⟨fun _ => l2 6 0 M1 _ (by omega) hF x1 x2 x3 (fun i hi => by omega), fun z => absurd (by decide) z⟩
    | succ m ih =>
      intro k M1 l hk hF x1 x2 x3
      have hP1 := zPk_F hP hF
      have hC1 := zMC_F hC hF (by omega) (by omega)
      have ew := hC1.2.1 k (by omega)
      rw [w116_7]
      cases hk2 : c.2.1 k with
      | none =>
        rw [hk2] at ew
        change _ = (-1 : Int32) at ew
        simp only [w116_0, w116_1, w116_2, w116_5, w116_6, w116_8, w116_10, w116_13, w116_14, w116_17, w116_18, w116_19, w116_20, w116_23, w116_24, w116_27, w116_29, w116_32, w116_33, w116_36, w116_38, w116_39, w116_42, w116_43, w116_46, w116_47, w116_48, w116_49, w116_50, w116_51, w116_52, w116_53, w116_54, w116_55, w116_56, w116_59, w116_61, w116_62, w116_65, w116_66, w116_67, w116_68, w116_69, w116_70, w116_71, w116_74, w116_75, w116_78, w116_79, w116_80, w116_83, w116_84, w116_85, w116_86, w116_87, w116_88, w116_91, w116_94, w116_95, w116_98, w116_99, w116_100, w116_101, w116_102, w116_103, w116_106, w116_107, w116_108, w116_111, w116_114, w116_117, w116_118, w116_120, w116_122, w116_125, w116_126, w116_129, w116_130, w116_131, w116_134, w116_135, w116_136, w116_137, w116_140, w116_141, w116_144, w116_145, w116_148, w116_150, w116_151, w116_154, w116_155, w116_156, w116_157, w116_158, w116_159, w116_160, w116_161, w116_162, w116_165, w116_166, w116_167, w116_170, w116_171, w116_172, w116_173, w116_176, w116_177, w116_180, w116_181, w116_182, w116_185, w116_188, zk_sI, zk_sJ, zk_sP, zn_sI, zn_sJ, zn_sP, zI_sI, zI_sJ, zI_sP, zJ_sI, zJ_sJ, zJ_sP, zP_sI, zP_sJ, zP_sP, Option.toList_some, Option.toList_none, List.cons_append, List.nil_append, zk_of hP1.1, zn_of hP1.1, zix, ziN, ne_eq, reduceCtorEq, not_false_eq_true, true_and, and_true, Option.getD_some, Nat.reduceLeDiff, Nat.reduceLT, c_ofNat, zkd58, zp_58_1 hP1, zp_58_2 hP1, zp_58_6 hP1, zp_58_7 hP1, zp_58_10 hP1, zp_58_11 hP1, zp_58_12 hP1, zp_58_14 hP1, zp_58_15 hP1, zp_58_17 hP1, zp_58_18 hP1, zp_58_19 hP1, zp_58_20 hP1, zp_58_21 hP1, zp_58_22 hP1, zp_58_24 hP1, zp_58_26 hP1, zp_58_29 hP1, zp_58_32 hP1, zp_58_33 hP1, zp_58_34 hP1, zp_58_35 hP1, zp_58_36 hP1, zp_58_37 hP1, zp_58_38 hP1, zp_58_39 hP1, zkd59, znd59, zfx59, zkd60, znd60, zfx60, zkd61, znd61, zfx61, zkd62, znd62, zfx62, zkd63, znd63, zfx63, zkd64, znd64, zfx64, zkd65, znd65, zfx65, ew, n_cl (show k < 2 ^ 31 by omega), n_in (show k < 6 by omega) (show 6 < 2 ^ 31 by decide), Nat.reduceEqDiff, if_false, not_true_eq_false, false_implies, true_implies, true_and, and_true]
        rw [c_6, n_le (by decide) (by omega), n_a1]
        have e : zol c (k + 1) = zol c k := by rw [zol, if_pos hk2]
        exact ⟨fun z => by omega, fun _ => ih (k + 1) M1 _ (by omega) hF x1 (by rw [e]; exact x2) (by rw [e]; exact x3)⟩
      | some f =>
        rw [hk2] at ew
        change _ = nI f at ew
        have hf := hC.2.2 k f hk2
        have hn16 := hnv.1
        have hsk := hspd k f hk2
        have hln := zol_len c k
        have ev : znu c k 5 = c.1 (6 * f + 5) := by simp only [znu, hk2]
        have e6 : (6 : Int32) * nI f + 5 = nI (6 * f + 5) := by rw [n_m6]; exact nI_add _ 5
        have e7 : zf_I M1 59 (6 * f + 5) = nI (znu c k 5) := by rw [hC1.1.2 (6 * f + 5) (by omega), ev]
        have e : zol c (k + 1) = zis (fun k => znu c k 5) (zol c k) k := by rw [zol, if_neg (by rw [hk2]; exact fun z => by cases z)]
        have ins : ∀ (B A : List Nat) (M2 : zf_M), zol c k = A ++ B → zF (fun b => b = 63) M1 M2 → zis (fun k => znu c k 5) (zol c k) k = A ++ zis (fun k => znu c k 5) B k → (∀ i x, A[i]? = some x → zf_I M2 63 ((zol c k).length - i) = nI x) → (∀ i x, B[i]? = some x → zf_I M2 63 (B.length - 1 - i) = nI x) → zW X 116 28 [.val (.ref 58), .val (.int (nI k)), .val (.int (nI B.length))] [] M2 Q := by
          intro B
          have fin : ∀ (A B : List Nat) (M2 : zf_M), zol c k = A ++ B → zF (fun b => b = 63) M1 M2 → zis (fun k => znu c k 5) (zol c k) k = A ++ k :: B → (∀ i x, A[i]? = some x → zf_I M2 63 ((zol c k).length - i) = nI x) → (∀ i x, B[i]? = some x → zf_I M2 63 (B.length - 1 - i) = nI x) → ∀ l, zW X 116 7 [.val (.ref 58), .val (.int (nI (k + 1))), l] [] (zf_sI (zf_sI M2 63 B.length (nI k)) 58 9 (nI (zol c k).length + 1)) Q := by
            intro A B M2 hAB hF2 hz x9 x10 l
            have hlen : (zol c k).length = A.length + B.length := by rw [hAB, List.length_append]
            refine ih (k + 1) _ l (by omega) (zF_sI (zF_sI (zF_tr hF (zF_mo hF2 (fun b hb => Or.inr (Or.inl hb)))) (by omega)) (by omega)) (fun j hj => ?_) ?_ ?_
            · rw [zI_sI, if_pos rfl, if_neg hj, zI_sI, if_neg (by decide), (hF2.2.1 58 (by omega) j).1]
              exact x1 j hj
            · rw [zI_sI, if_pos rfl, if_pos rfl, e, zis_len, n_a1]
            · rw [e, hz]
              intro i x hx
              rw [zI_sI, if_neg (by decide), zI_sI, if_pos rfl]
              have hl2 : (A ++ k :: B).length - 1 - i = (zol c k).length - i := by
                rw [List.length_append, List.length_cons, hlen]
                omega
              rw [hl2]
              have hil := (List.getElem?_eq_some_iff.mp hx).1
              rw [List.length_append, List.length_cons] at hil
              by_cases hi : i < A.length
              · rw [List.getElem?_append_left hi] at hx
                rw [if_neg (by omega)]
                exact x9 i x hx
              · rw [List.getElem?_append_right (by omega)] at hx
                by_cases hi2 : i = A.length
                · subst hi2
                  rw [Nat.sub_self, List.getElem?_cons_zero] at hx
                  cases hx
                  rw [if_pos (by omega)]
                · obtain ⟨d, hd⟩ : ∃ d, i - A.length = d + 1 := ⟨i - A.length - 1, by omega⟩
                  rw [hd, List.getElem?_cons_succ] at hx
                  rw [if_neg (by omega)]
                  have := x10 d x hx
                  rw [show (zol c k).length - i = B.length - 1 - d by omega]
                  exact this
          induction B with
          | nil =>
            intro A M2 hAB hF2 hz x9 x10
            have hP2 := zPk_F hP1 hF2
            have e9 : zf_I M2 58 9 = nI (zol c k).length := by rw [(hF2.2.1 58 (by omega) 9).1]; exact x2
            rw [w116_28]
            simp only [w116_0, w116_1, w116_2, w116_5, w116_6, w116_8, w116_10, w116_13, w116_14, w116_17, w116_18, w116_19, w116_20, w116_23, w116_24, w116_27, w116_29, w116_32, w116_33, w116_36, w116_38, w116_39, w116_42, w116_43, w116_46, w116_47, w116_48, w116_49, w116_50, w116_51, w116_52, w116_53, w116_54, w116_55, w116_56, w116_59, w116_61, w116_62, w116_65, w116_66, w116_67, w116_68, w116_69, w116_70, w116_71, w116_74, w116_75, w116_78, w116_79, w116_80, w116_83, w116_84, w116_85, w116_86, w116_87, w116_88, w116_91, w116_94, w116_95, w116_98, w116_99, w116_100, w116_101, w116_102, w116_103, w116_106, w116_107, w116_108, w116_111, w116_114, w116_117, w116_118, w116_120, w116_122, w116_125, w116_126, w116_129, w116_130, w116_131, w116_134, w116_135, w116_136, w116_137, w116_140, w116_141, w116_144, w116_145, w116_148, w116_150, w116_151, w116_154, w116_155, w116_156, w116_157, w116_158, w116_159, w116_160, w116_161, w116_162, w116_165, w116_166, w116_167, w116_170, w116_171, w116_172, w116_173, w116_176, w116_177, w116_180, w116_181, w116_182, w116_185, w116_188, zk_sI, zk_sJ, zk_sP, zn_sI, zn_sJ, zn_sP, zI_sI, zI_sJ, zI_sP, zJ_sI, zJ_sJ, zJ_sP, zP_sI, zP_sJ, zP_sP, Option.toList_some, Option.toList_none, List.cons_append, List.nil_append, zk_of hP2.1, zn_of hP2.1, zix, ziN, ne_eq, reduceCtorEq, not_false_eq_true, true_and, and_true, Option.getD_some, Nat.reduceLeDiff, Nat.reduceLT, c_ofNat, zkd58, zp_58_1 hP2, zp_58_2 hP2, zp_58_6 hP2, zp_58_7 hP2, zp_58_10 hP2, zp_58_11 hP2, zp_58_12 hP2, zp_58_14 hP2, zp_58_15 hP2, zp_58_17 hP2, zp_58_18 hP2, zp_58_19 hP2, zp_58_20 hP2, zp_58_21 hP2, zp_58_22 hP2, zp_58_24 hP2, zp_58_26 hP2, zp_58_29 hP2, zp_58_32 hP2, zp_58_33 hP2, zp_58_34 hP2, zp_58_35 hP2, zp_58_36 hP2, zp_58_37 hP2, zp_58_38 hP2, zp_58_39 hP2, zkd59, znd59, zfx59, zkd60, znd60, zfx60, zkd61, znd61, zfx61, zkd62, znd62, zfx62, zkd63, znd63, zfx63, zkd64, znd64, zfx64, zkd65, znd65, zfx65, e9, List.length_nil, n_a1 k]
            exact ⟨fun _ => ⟨vp_in_nI (by decide) (by decide), fin A [] M2 hAB hF2 hz x9 x10 _⟩, fun z => absurd (Int32.le_refl _) z⟩
          | cons x t ih2 =>
            intro A M2 hAB hF2 hz x9 x10
            have hP2 := zPk_F hP1 hF2
            have hC2 := zMC_F hC1 hF2 (by omega) (by omega)
            have hlen : (zol c k).length = A.length + (t.length + 1) := by rw [hAB, List.length_append, List.length_cons]
            have hxm : x ∈ zol c k := by rw [hAB]; simp
            obtain ⟨r1, r2⟩ := zol_in hxm
            have ex : zf_I M2 63 t.length = nI x := by
              have := x10 0 x rfl
              rw [List.length_cons] at this
              exact this
            have e1 : nI (t.length + 1) - 1 = nI t.length := pk_sub (b := 1) (by omega)
            have e9 : zf_I M2 58 9 = nI (zol c k).length := by rw [(hF2.2.1 58 (by omega) 9).1]; exact x2
            have ewk : zf_I M2 61 k = nI f := by rw [hC2.2.1 k (by omega), hk2]; rfl
            have e7' : zf_I M2 59 (6 * f + 5) = nI (znu c k 5) := by rw [(hF2.2.1 59 (by omega) _).1]; exact e7
            cases hx2 : c.2.1 x with
            | none => exact absurd hx2 r2
            | some fx =>
              have hfx := hC.2.2 x fx hx2
              have hsx := hspd x fx hx2
              have ewx : zf_I M2 61 x = nI fx := by rw [hC2.2.1 x (by omega), hx2]; rfl
              have e6x : (6 : Int32) * nI fx + 5 = nI (6 * fx + 5) := by rw [n_m6]; exact nI_add _ 5
              have e8 : zf_I M2 59 (6 * fx + 5) = nI (znu c x 5) := by
                rw [hC2.1.2 (6 * fx + 5) (by omega)]
                simp only [znu, hx2]
              rw [w116_28]
              simp only [w116_0, w116_1, w116_2, w116_5, w116_6, w116_8, w116_10, w116_13, w116_14, w116_17, w116_18, w116_19, w116_20, w116_23, w116_24, w116_27, w116_29, w116_32, w116_33, w116_36, w116_38, w116_39, w116_42, w116_43, w116_46, w116_47, w116_48, w116_49, w116_50, w116_51, w116_52, w116_53, w116_54, w116_55, w116_56, w116_59, w116_61, w116_62, w116_65, w116_66, w116_67, w116_68, w116_69, w116_70, w116_71, w116_74, w116_75, w116_78, w116_79, w116_80, w116_83, w116_84, w116_85, w116_86, w116_87, w116_88, w116_91, w116_94, w116_95, w116_98, w116_99, w116_100, w116_101, w116_102, w116_103, w116_106, w116_107, w116_108, w116_111, w116_114, w116_117, w116_118, w116_120, w116_122, w116_125, w116_126, w116_129, w116_130, w116_131, w116_134, w116_135, w116_136, w116_137, w116_140, w116_141, w116_144, w116_145, w116_148, w116_150, w116_151, w116_154, w116_155, w116_156, w116_157, w116_158, w116_159, w116_160, w116_161, w116_162, w116_165, w116_166, w116_167, w116_170, w116_171, w116_172, w116_173, w116_176, w116_177, w116_180, w116_181, w116_182, w116_185, w116_188, zk_sI, zk_sJ, zk_sP, zn_sI, zn_sJ, zn_sP, zI_sI, zI_sJ, zI_sP, zJ_sI, zJ_sJ, zJ_sP, zP_sI, zP_sJ, zP_sP, Option.toList_some, Option.toList_none, List.cons_append, List.nil_append, zk_of hP2.1, zn_of hP2.1, zix, ziN, ne_eq, reduceCtorEq, not_false_eq_true, true_and, and_true, Option.getD_some, Nat.reduceLeDiff, Nat.reduceLT, c_ofNat, zkd58, zp_58_1 hP2, zp_58_2 hP2, zp_58_6 hP2, zp_58_7 hP2, zp_58_10 hP2, zp_58_11 hP2, zp_58_12 hP2, zp_58_14 hP2, zp_58_15 hP2, zp_58_17 hP2, zp_58_18 hP2, zp_58_19 hP2, zp_58_20 hP2, zp_58_21 hP2, zp_58_22 hP2, zp_58_24 hP2, zp_58_26 hP2, zp_58_29 hP2, zp_58_32 hP2, zp_58_33 hP2, zp_58_34 hP2, zp_58_35 hP2, zp_58_36 hP2, zp_58_37 hP2, zp_58_38 hP2, zp_58_39 hP2, zkd59, znd59, zfx59, zkd60, znd60, zfx60, zkd61, znd61, zfx61, zkd62, znd62, zfx62, zkd63, znd63, zfx63, zkd64, znd64, zfx64, zkd65, znd65, zfx65, List.length_cons, e9, e1, n_cl (show t.length < 2 ^ 31 by omega), n_cl (show t.length + 1 < 2 ^ 31 by omega), ex, n_cl (show x < 2 ^ 31 by omega), n_cl (show k < 2 ^ 31 by omega), n_in (show t.length < 6 by omega) (show 6 < 2 ^ 31 by decide), n_in (show t.length + 1 < 6 by omega) (show 6 < 2 ^ 31 by decide), n_in (show x < 6 by omega) (show 6 < 2 ^ 31 by decide), n_in (show k < 6 by omega) (show 6 < 2 ^ 31 by decide), ewk, ewx, e6, e6x, n_cl (show 6 * f + 5 < 2 ^ 31 by omega), n_in (show 6 * f + 5 < 96 by omega) (show 96 < 2 ^ 31 by decide), n_cl (show 6 * fx + 5 < 2 ^ 31 by omega), n_in (show 6 * fx + 5 < 96 by omega) (show 96 < 2 ^ 31 by decide), e7', e8, n_a1 k]
              refine ⟨fun z => ?_, fun _ => ⟨fun hle => ?_, fun hgt => ?_⟩⟩
              · rw [c_0, n_le (by omega) (by decide)] at z
                omega
              · rw [n_le (by omega) (by omega)] at hle
                rw [zis, if_neg (by omega)] at hz
                exact fin A (x :: t) M2 hAB hF2 hz x9 x10 _
              · rw [n_le (by omega) (by omega)] at hgt
                rw [zis, if_pos (by omega)] at hz
                rw [← Int32.sub_eq_add_neg, e1]
                refine ih2 (A ++ [x]) _ (by rw [hAB]; simp) (zF_sI hF2 rfl) (by rw [hz]; simp) (fun i y hy => ?_) (fun i y hy => ?_)
                · rw [zI_sI, if_pos rfl]
                  have hil := (List.getElem?_eq_some_iff.mp hy).1
                  rw [List.length_append, List.length_singleton] at hil
                  by_cases hi : i < A.length
                  · rw [List.getElem?_append_left hi] at hy
                    rw [if_neg (by omega)]
                    exact x9 i y hy
                  · obtain rfl : i = A.length := by omega
                    rw [List.getElem?_append_right (Nat.le_refl _), Nat.sub_self, List.getElem?_cons_zero] at hy
                    cases hy
                    rw [if_pos (by omega)]
                · have hil := (List.getElem?_eq_some_iff.mp hy).1
                  rw [zI_sI, if_pos rfl, if_neg (by omega)]
                  have := x10 (i + 1) y (by rw [List.getElem?_cons_succ]; exact hy)
                  rw [List.length_cons] at this
                  rw [show t.length - 1 - i = t.length + 1 - 1 - (i + 1) by omega]
                  exact this
        simp only [w116_0, w116_1, w116_2, w116_5, w116_6, w116_8, w116_10, w116_13, w116_14, w116_17, w116_18, w116_19, w116_20, w116_23, w116_24, w116_27, w116_29, w116_32, w116_33, w116_36, w116_38, w116_39, w116_42, w116_43, w116_46, w116_47, w116_48, w116_49, w116_50, w116_51, w116_52, w116_53, w116_54, w116_55, w116_56, w116_59, w116_61, w116_62, w116_65, w116_66, w116_67, w116_68, w116_69, w116_70, w116_71, w116_74, w116_75, w116_78, w116_79, w116_80, w116_83, w116_84, w116_85, w116_86, w116_87, w116_88, w116_91, w116_94, w116_95, w116_98, w116_99, w116_100, w116_101, w116_102, w116_103, w116_106, w116_107, w116_108, w116_111, w116_114, w116_117, w116_118, w116_120, w116_122, w116_125, w116_126, w116_129, w116_130, w116_131, w116_134, w116_135, w116_136, w116_137, w116_140, w116_141, w116_144, w116_145, w116_148, w116_150, w116_151, w116_154, w116_155, w116_156, w116_157, w116_158, w116_159, w116_160, w116_161, w116_162, w116_165, w116_166, w116_167, w116_170, w116_171, w116_172, w116_173, w116_176, w116_177, w116_180, w116_181, w116_182, w116_185, w116_188, zk_sI, zk_sJ, zk_sP, zn_sI, zn_sJ, zn_sP, zI_sI, zI_sJ, zI_sP, zJ_sI, zJ_sJ, zJ_sP, zP_sI, zP_sJ, zP_sP, Option.toList_some, Option.toList_none, List.cons_append, List.nil_append, zk_of hP1.1, zn_of hP1.1, zix, ziN, ne_eq, reduceCtorEq, not_false_eq_true, true_and, and_true, Option.getD_some, Nat.reduceLeDiff, Nat.reduceLT, c_ofNat, zkd58, zp_58_1 hP1, zp_58_2 hP1, zp_58_6 hP1, zp_58_7 hP1, zp_58_10 hP1, zp_58_11 hP1, zp_58_12 hP1, zp_58_14 hP1, zp_58_15 hP1, zp_58_17 hP1, zp_58_18 hP1, zp_58_19 hP1, zp_58_20 hP1, zp_58_21 hP1, zp_58_22 hP1, zp_58_24 hP1, zp_58_26 hP1, zp_58_29 hP1, zp_58_32 hP1, zp_58_33 hP1, zp_58_34 hP1, zp_58_35 hP1, zp_58_36 hP1, zp_58_37 hP1, zp_58_38 hP1, zp_58_39 hP1, zkd59, znd59, zfx59, zkd60, znd60, zfx60, zkd61, znd61, zfx61, zkd62, znd62, zfx62, zkd63, znd63, zfx63, zkd64, znd64, zfx64, zkd65, znd65, zfx65, ew, n_cl (show k < 2 ^ 31 by omega), n_in (show k < 6 by omega) (show 6 < 2 ^ 31 by decide), n_ne (show f < 2 ^ 31 by omega), not_false_eq_true, not_true_eq_false, false_implies, true_implies, true_and, and_true, x2]
        rw [c_6, n_le (by decide) (by omega)]
        exact ⟨fun z => by omega, fun _ => ins (zol c k) [] M1 rfl (zF_rf _ _) rfl (fun i x hx => by simp at hx) x3⟩
  simp only [w116_0, w116_1, w116_2, w116_5, w116_6, w116_8, w116_10, w116_13, w116_14, w116_17, w116_18, w116_19, w116_20, w116_23, w116_24, w116_27, w116_29, w116_32, w116_33, w116_36, w116_38, w116_39, w116_42, w116_43, w116_46, w116_47, w116_48, w116_49, w116_50, w116_51, w116_52, w116_53, w116_54, w116_55, w116_56, w116_59, w116_61, w116_62, w116_65, w116_66, w116_67, w116_68, w116_69, w116_70, w116_71, w116_74, w116_75, w116_78, w116_79, w116_80, w116_83, w116_84, w116_85, w116_86, w116_87, w116_88, w116_91, w116_94, w116_95, w116_98, w116_99, w116_100, w116_101, w116_102, w116_103, w116_106, w116_107, w116_108, w116_111, w116_114, w116_117, w116_118, w116_120, w116_122, w116_125, w116_126, w116_129, w116_130, w116_131, w116_134, w116_135, w116_136, w116_137, w116_140, w116_141, w116_144, w116_145, w116_148, w116_150, w116_151, w116_154, w116_155, w116_156, w116_157, w116_158, w116_159, w116_160, w116_161, w116_162, w116_165, w116_166, w116_167, w116_170, w116_171, w116_172, w116_173, w116_176, w116_177, w116_180, w116_181, w116_182, w116_185, w116_188, zk_sI, zk_sJ, zk_sP, zn_sI, zn_sJ, zn_sP, zI_sI, zI_sJ, zI_sP, zJ_sI, zJ_sJ, zJ_sP, zP_sI, zP_sJ, zP_sP, Option.toList_some, Option.toList_none, List.cons_append, List.nil_append, zk_of hP.1, zn_of hP.1, zix, ziN, ne_eq, reduceCtorEq, not_false_eq_true, true_and, and_true, Option.getD_some, Nat.reduceLeDiff, Nat.reduceLT, c_ofNat, zkd58, zp_58_1 hP, zp_58_2 hP, zp_58_6 hP, zp_58_7 hP, zp_58_10 hP, zp_58_11 hP, zp_58_12 hP, zp_58_14 hP, zp_58_15 hP, zp_58_17 hP, zp_58_18 hP, zp_58_19 hP, zp_58_20 hP, zp_58_21 hP, zp_58_22 hP, zp_58_24 hP, zp_58_26 hP, zp_58_29 hP, zp_58_32 hP, zp_58_33 hP, zp_58_34 hP, zp_58_35 hP, zp_58_36 hP, zp_58_37 hP, zp_58_38 hP, zp_58_39 hP, zkd59, znd59, zfx59, zkd60, znd60, zfx60, zkd61, znd61, zfx61, zkd62, znd62, zfx62, zkd63, znd63, zfx63, zkd64, znd64, zfx64, zkd65, znd65, zfx65]
  refine l1 6 0 _ _ (by omega) (zF_sI (zF_rf _ _) (by omega)) (fun j hj => ?_) ?_ (fun i x hx => by simp [zol] at hx)
  · rw [zI_sI, if_pos rfl, if_neg hj]
  · rw [zI_sI, if_pos rfl, if_pos rfl]
    rfl
end ZMb
