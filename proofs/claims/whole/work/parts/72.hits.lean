/-! ===== the model: a hit ===== -/
theorem zch_up {y : Bool} {N s : Nat} : ∀ n i, i < n → n < 100 → s < 100 → 32 ≤ dg N (s + i) → (zch y N s n).1 ≠ -1
  | n + 1, i, hi, hn, hs, hu => by
    rw [zch]
    split
    · show ¬ nI (s + n) = -1
      rw [n_ne (by omega)]
      exact fun z => z
    next h =>
      by_cases e : i = n
      · subst e
        intro z
        exact h ⟨hu, Or.inl z⟩
      · exact zch_up n i (by omega) (by omega) hs hu
theorem zall_dg {N s f j : Nat} (hj : j < 6) : ∀ n, s + n ≤ j → dg (zall N s f n) j = dg N j
  | 0, _ => rfl
  | n + 1, h => by
    rw [zall]
    split
    · rw [dg_sd_ne (by omega) hj (zstr_lt _ _ (dg_lt _ _)) (by omega)]
      exact zall_dg hj n (by omega)
    · exact zall_dg hj n (by omega)
theorem zwin_no {N : Nat} (h : zwin N = -1) : ∀ d, d < 2 → ∃ i, i < 3 ∧ 32 ≤ dg N (3 * d + i) := by
  intro d hd
  unfold zwin at h
  split at h
  next h1 =>
    split at h
    next h2 =>
      have : d = 0 ∨ d = 1 := by omega
      rcases this with rfl | rfl
      · rcases h1 with g | g | g
        · exact ⟨0, by omega, g⟩
        · exact ⟨1, by omega, g⟩
        · exact ⟨2, by omega, g⟩
      · rcases h2 with g | g | g
        · exact ⟨0, by omega, g⟩
        · exact ⟨1, by omega, g⟩
        · exact ⟨2, by omega, g⟩
    next => exact absurd h (by decide)
  next => exact absurd h (by decide)
section ZMh
variable {X : zf_X} {M : zf_M} {Q : Option Value → zf_M → Prop} {N k n f : Nat} {c : zCs}
/-- flees -/
theorem s121 (hP : zPk M) (hC : zMC c n M) (hS : zSM M N) (hk : k < 6) (hw : c.2.1 k = some f) (h : Q (some (.int (zB (dg N k % 32 ≤ znu c k 4)))) M) : zC X 121 [.ref 58, .int (nI k)] M Q := by
  rw [c121]
  have hf := hC.2.2 k f hw
  have hn16 := hC.1.1.1
  have h4 := (hC.1.1.2 f hf).2.2.2.2.2.2.1
  have ew : zf_I M 61 k = nI f := by rw [hC.2.1 k hk, hw]; rfl
  have e6 : (6 : Int32) * nI f + 4 = nI (6 * f + 4) := by rw [n_m6]; exact nI_add _ 4
  have ev : znu c k 4 = c.1 (6 * f + 4) := by simp only [znu, hw]
  have e7 := hC.1.2 (6 * f + 4) (by omega)
  simp only [w121_0, w121_1, w121_4, w121_5, w121_6, w121_7, w121_10, w121_12, w121_13, w121_16, w121_17, w121_18, w121_19, w121_20, w121_21, w121_22, w121_25, w121_26, w121_29, w121_30, zk_sI, zk_sJ, zk_sP, zn_sI, zn_sJ, zn_sP, zI_sI, zI_sJ, zI_sP, zJ_sI, zJ_sJ, zJ_sP, zP_sI, zP_sJ, zP_sP, Option.toList_some, Option.toList_none, List.cons_append, List.nil_append, zk_of hP.1, zn_of hP.1, zix, ziN, ne_eq, reduceCtorEq, not_false_eq_true, true_and, and_true, Option.getD_some, Nat.reduceLeDiff, Nat.reduceLT, c_ofNat, zkd58, zp_58_1 hP, zp_58_2 hP, zp_58_6 hP, zp_58_7 hP, zp_58_10 hP, zp_58_11 hP, zp_58_12 hP, zp_58_14 hP, zp_58_15 hP, zp_58_17 hP, zp_58_18 hP, zp_58_19 hP, zp_58_20 hP, zp_58_21 hP, zp_58_22 hP, zp_58_24 hP, zp_58_26 hP, zp_58_29 hP, zp_58_32 hP, zp_58_33 hP, zp_58_34 hP, zp_58_35 hP, zp_58_36 hP, zp_58_37 hP, zp_58_38 hP, zp_58_39 hP, zkd59, znd59, zfx59, zkd60, znd60, zfx60, zkd61, znd61, zfx61, zkd62, znd62, zfx62, zkd63, znd63, zfx63, zkd64, znd64, zfx64, zkd65, znd65, zfx65, ew, e6, e7, (hS k hk).1, n_cl (show k < 2 ^ 31 by omega), n_in hk (show 6 < 2 ^ 31 by decide), n_cl (show 6 * f + 4 < 2 ^ 31 by omega), n_in (show 6 * f + 4 < 96 by omega) (show 96 < 2 ^ 31 by decide)]
  rw [ev] at h
  rw [n_lt (by omega) (by omega)]
  exact ⟨fun z => zB_2 (fun g => by omega) h, fun z => zB_1 (by omega) h⟩
/-- hits -/
theorem s122 {am : Int32} (hP : zPk M) (hC : zMC c n M) (hfo : zf_I M 62 k = nI (c.2.2 k) ∧ c.2.2 k ≤ 9) (ham : zf_I M 58 4 = am) (hS : zSM M N) (hk : k < 6) (hw : c.2.1 k = some f) (hz : zwin N = -1) (hu : 32 ≤ dg N k) (hl : ∀ j, j < 6 → 32 ≤ dg N j → c.2.1 j ≠ none ∧ dg N j % 32 ≤ znu c j 1)
    (h : ∀ M1, zF (fun b => b = 64 ∨ b = 65) M M1 → zSM M1 (zhit (nI (znu c k 0)) am (znu c k 3 + c.2.2 k) (fun j => znu c j 1) N k) → Q none M1) : zC X 122 [.ref 58, .int (nI k)] M Q := by
  rw [c122]
  have hf := hC.2.2 k f hw
  have hn16 := hC.1.1.1
  obtain ⟨x1, x2, x3, x4, x5, x6, x7, x8⟩ := hC.1.1.2 f hf
  have ew : zf_I M 61 k = nI f := by rw [hC.2.1 k hk, hw]; rfl
  have e6 : (6 : Int32) * nI f = nI (6 * f) := n_m6 f
  have e63 : nI (6 * f) + 3 = nI (6 * f + 3) := nI_add _ 3
  have ev : ∀ w, znu c k w = c.1 (6 * f + w) := fun w => by simp only [znu, hw]
  have e7 : zf_I M 59 (6 * f) = nI (znu c k 0) := by rw [ev]; exact hC.1.2 (6 * f) (by omega)
  have e8 : zf_I M 59 (6 * f + 3) = nI (znu c k 3) := by rw [ev]; exact hC.1.2 (6 * f + 3) (by omega)
  have ey : ∀ a b, nI a + nI b = nI (a + b) := fun a b => nI_add a b
  have v0 := ev 0
  have v3 := ev 3
  have hdk := zwin_no hz
  have hk0 : znu c k 0 ≤ 2 := by rw [v0]; exact x1
  have hby : znu c k 3 + c.2.2 k < 64 := by have := hfo.2; omega
  have K0 : ∀ (o : Nat) (b : Int32), o = 3 * (1 - k / 3) → (b ≠ 0 ↔ decide (am = 1) = true) → znu c k 0 = 0 → zC X 119 [.ref 58, .int (nI o), .int b] M (fun v M2 => zW X 122 76 [.val (.ref 58), .val (.int (nI k)), .val (.int (nI (znu c k 0))), .val (.int (nI (znu c k 3 + c.2.2 k))), .val (.int (nI o)), .unset, .unset] (.int (nI (znu c k 3 + c.2.2 k)) :: (v.toList ++ [.ref 58])) M2 Q) := by
    intro o b ho hb hkd
    subst ho
    refine s119 hP hS (by omega) hb ?_
    rcases zch_seat (y := decide (am = 1)) (N := N) (show 1 - k / 3 < 2 by omega) with q | ⟨j, q1, q2, q3⟩
    · obtain ⟨i, i1, i2⟩ := hdk (1 - k / 3) (by omega)
      exact absurd q (zch_up 3 i i1 (by decide) (by omega) i2)
    · rw [q2]
      simp only [w122_0, w122_1, w122_4, w122_6, w122_7, w122_10, w122_11, w122_12, w122_13, w122_14, w122_15, w122_16, w122_19, w122_21, w122_22, w122_25, w122_26, w122_27, w122_28, w122_29, w122_30, w122_31, w122_32, w122_35, w122_36, w122_37, w122_38, w122_39, w122_40, w122_41, w122_44, w122_45, w122_48, w122_49, w122_51, w122_52, w122_55, w122_56, w122_57, w122_59, w122_60, w122_63, w122_64, w122_67, w122_68, w122_71, w122_72, w122_75, w122_76, w122_79, w122_82, w122_83, w122_84, w122_87, w122_89, w122_93, w122_95, w122_96, w122_97, w122_100, w122_101, w122_104, w122_106, w122_107, w122_110, w122_111, w122_113, w122_114, w122_117, w122_120, w122_123, w122_126, w122_127, w122_128, w122_130, w122_131, w122_132, w122_135, w122_137, w122_138, w122_141, w122_143, w122_144, w122_147, w122_149, w122_150, w122_151, w122_152, w122_153, w122_154, w122_156, w122_157, w122_160, w122_162, w122_163, w122_166, w122_168, w122_169, w122_170, w122_171, w122_173, w122_176, w122_178, w122_181, w122_182, w122_185, w122_187, w122_188, w122_189, w122_190, w122_191, zk_sI, zk_sJ, zk_sP, zn_sI, zn_sJ, zn_sP, zI_sI, zI_sJ, zI_sP, zJ_sI, zJ_sJ, zJ_sP, zP_sI, zP_sJ, zP_sP, Option.toList_some, Option.toList_none, List.cons_append, List.nil_append, zk_of hP.1, zn_of hP.1, zix, ziN, ne_eq, reduceCtorEq, not_false_eq_true, true_and, and_true, Option.getD_some, Nat.reduceLeDiff, Nat.reduceLT, c_ofNat, zkd58, zp_58_1 hP, zp_58_2 hP, zp_58_6 hP, zp_58_7 hP, zp_58_10 hP, zp_58_11 hP, zp_58_12 hP, zp_58_14 hP, zp_58_15 hP, zp_58_17 hP, zp_58_18 hP, zp_58_19 hP, zp_58_20 hP, zp_58_21 hP, zp_58_22 hP, zp_58_24 hP, zp_58_26 hP, zp_58_29 hP, zp_58_32 hP, zp_58_33 hP, zp_58_34 hP, zp_58_35 hP, zp_58_36 hP, zp_58_37 hP, zp_58_38 hP, zp_58_39 hP, zkd59, znd59, zfx59, zkd60, znd60, zfx60, zkd61, znd61, zfx61, zkd62, znd62, zfx62, zkd63, znd63, zfx63, zkd64, znd64, zfx64, zkd65, znd65, zfx65]
      refine s118 hP hS q1 hby q3 (fun M1 g1 g2 => ?_)
      simp only [w122_0, w122_1, w122_4, w122_6, w122_7, w122_10, w122_11, w122_12, w122_13, w122_14, w122_15, w122_16, w122_19, w122_21, w122_22, w122_25, w122_26, w122_27, w122_28, w122_29, w122_30, w122_31, w122_32, w122_35, w122_36, w122_37, w122_38, w122_39, w122_40, w122_41, w122_44, w122_45, w122_48, w122_49, w122_51, w122_52, w122_55, w122_56, w122_57, w122_59, w122_60, w122_63, w122_64, w122_67, w122_68, w122_71, w122_72, w122_75, w122_76, w122_79, w122_82, w122_83, w122_84, w122_87, w122_89, w122_93, w122_95, w122_96, w122_97, w122_100, w122_101, w122_104, w122_106, w122_107, w122_110, w122_111, w122_113, w122_114, w122_117, w122_120, w122_123, w122_126, w122_127, w122_128, w122_130, w122_131, w122_132, w122_135, w122_137, w122_138, w122_141, w122_143, w122_144, w122_147, w122_149, w122_150, w122_151, w122_152, w122_153, w122_154, w122_156, w122_157, w122_160, w122_162, w122_163, w122_166, w122_168, w122_169, w122_170, w122_171, w122_173, w122_176, w122_178, w122_181, w122_182, w122_185, w122_187, w122_188, w122_189, w122_190, w122_191, zk_sI, zk_sJ, zk_sP, zn_sI, zn_sJ, zn_sP, zI_sI, zI_sJ, zI_sP, zJ_sI, zJ_sJ, zJ_sP, zP_sI, zP_sJ, zP_sP, Option.toList_some, Option.toList_none, List.cons_append, List.nil_append]
      refine h M1 g1 ?_
      rw [hkd, zhit, if_pos (show nI 0 = 0 from rfl)]
      simp only [q2, n_ne (show j < 2 ^ 31 by omega), if_false, n_cl (show j < 2 ^ 31 by omega)]
      exact g2
  have K1 : ∀ (o : Nat), o = 3 * (1 - k / 3) → znu c k 0 = 1 → zW X 122 91 [.val (.ref 58), .val (.int (nI k)), .val (.int (nI (znu c k 0))), .val (.int (nI (znu c k 3 + c.2.2 k))), .val (.int (nI o)), .val (.int (nI o)), .unset] [] M Q := by
    intro o ho hkd
    subst ho
    have loop : ∀ (m i : Nat) (M1 : zf_M), i + m = 3 → zF (fun b => b = 64 ∨ b = 65) M M1 → zSM M1 (zall N (3 * (1 - k / 3)) (znu c k 3 + c.2.2 k) i) → zW X 122 91 [.val (.ref 58), .val (.int (nI k)), .val (.int (nI (znu c k 0))), .val (.int (nI (znu c k 3 + c.2.2 k))), .val (.int (nI (3 * (1 - k / 3)))), .val (.int (nI (3 * (1 - k / 3) + i))), .unset] [] M1 Q := by
      intro m
      induction m with
      | zero =>
        intro i M1 hi hF h1
        obtain rfl : i = 3 := by omega
        rw [w122_91]
        simp only [w122_0, w122_1, w122_4, w122_6, w122_7, w122_10, w122_11, w122_12, w122_13, w122_14, w122_15, w122_16, w122_19, w122_21, w122_22, w122_25, w122_26, w122_27, w122_28, w122_29, w122_30, w122_31, w122_32, w122_35, w122_36, w122_37, w122_38, w122_39, w122_40, w122_41, w122_44, w122_45, w122_48, w122_49, w122_51, w122_52, w122_55, w122_56, w122_57, w122_59, w122_60, w122_63, w122_64, w122_67, w122_68, w122_71, w122_72, w122_75, w122_76, w122_79, w122_82, w122_83, w122_84, w122_87, w122_89, w122_93, w122_95, w122_96, w122_97, w122_100, w122_101, w122_104, w122_106, w122_107, w122_110, w122_111, w122_113, w122_114, w122_117, w122_120, w122_123, w122_126, w122_127, w122_128, w122_130, w122_131, w122_132, w122_135, w122_137, w122_138, w122_141, w122_143, w122_144, w122_147, w122_149, w122_150, w122_151, w122_152, w122_153, w122_154, w122_156, w122_157, w122_160, w122_162, w122_163, w122_166, w122_168, w122_169, w122_170, w122_171, w122_173, w122_176, w122_178, w122_181, w122_182, w122_185, w122_187, w122_188, w122_189, w122_190, w122_191, zk_sI, zk_sJ, zk_sP, zn_sI, zn_sJ, zn_sP, zI_sI, zI_sJ, zI_sP, zJ_sI, zJ_sJ, zJ_sP, zP_sI, zP_sJ, zP_sP, Option.toList_some, Option.toList_none, List.cons_append, List.nil_append, n_a3]
        refine ⟨fun _ => h M1 hF ?_, fun z => absurd (Int32.le_refl _) z⟩
        rw [hkd, zhit, if_neg (by decide), if_pos (show nI 1 = 1 from rfl)]
        exact h1
      | succ m ih =>
        intro i M1 hi hF h1
        have hP1 := zPk_F hP hF
        have hj : 3 * (1 - k / 3) + i < 6 := by omega
        have ej := (h1 _ hj).2
        have ed : dg (zall N (3 * (1 - k / 3)) (znu c k 3 + c.2.2 k) i) (3 * (1 - k / 3) + i) = dg N (3 * (1 - k / 3) + i) := zall_dg hj i (Nat.le_refl _)
        rw [w122_91]
        simp only [w122_0, w122_1, w122_4, w122_6, w122_7, w122_10, w122_11, w122_12, w122_13, w122_14, w122_15, w122_16, w122_19, w122_21, w122_22, w122_25, w122_26, w122_27, w122_28, w122_29, w122_30, w122_31, w122_32, w122_35, w122_36, w122_37, w122_38, w122_39, w122_40, w122_41, w122_44, w122_45, w122_48, w122_49, w122_51, w122_52, w122_55, w122_56, w122_57, w122_59, w122_60, w122_63, w122_64, w122_67, w122_68, w122_71, w122_72, w122_75, w122_76, w122_79, w122_82, w122_83, w122_84, w122_87, w122_89, w122_93, w122_95, w122_96, w122_97, w122_100, w122_101, w122_104, w122_106, w122_107, w122_110, w122_111, w122_113, w122_114, w122_117, w122_120, w122_123, w122_126, w122_127, w122_128, w122_130, w122_131, w122_132, w122_135, w122_137, w122_138, w122_141, w122_143, w122_144, w122_147, w122_149, w122_150, w122_151, w122_152, w122_153, w122_154, w122_156, w122_157, w122_160, w122_162, w122_163, w122_166, w122_168, w122_169, w122_170, w122_171, w122_173, w122_176, w122_178, w122_181, w122_182, w122_185, w122_187, w122_188, w122_189, w122_190, w122_191, zk_sI, zk_sJ, zk_sP, zn_sI, zn_sJ, zn_sP, zI_sI, zI_sJ, zI_sP, zJ_sI, zJ_sJ, zJ_sP, zP_sI, zP_sJ, zP_sP, Option.toList_some, Option.toList_none, List.cons_append, List.nil_append, zk_of hP1.1, zn_of hP1.1, zix, ziN, ne_eq, reduceCtorEq, not_false_eq_true, true_and, and_true, Option.getD_some, Nat.reduceLeDiff, Nat.reduceLT, c_ofNat, zkd58, zp_58_1 hP1, zp_58_2 hP1, zp_58_6 hP1, zp_58_7 hP1, zp_58_10 hP1, zp_58_11 hP1, zp_58_12 hP1, zp_58_14 hP1, zp_58_15 hP1, zp_58_17 hP1, zp_58_18 hP1, zp_58_19 hP1, zp_58_20 hP1, zp_58_21 hP1, zp_58_22 hP1, zp_58_24 hP1, zp_58_26 hP1, zp_58_29 hP1, zp_58_32 hP1, zp_58_33 hP1, zp_58_34 hP1, zp_58_35 hP1, zp_58_36 hP1, zp_58_37 hP1, zp_58_38 hP1, zp_58_39 hP1, zkd59, znd59, zfx59, zkd60, znd60, zfx60, zkd61, znd61, zfx61, zkd62, znd62, zfx62, zkd63, znd63, zfx63, zkd64, znd64, zfx64, zkd65, znd65, zfx65, n_a3, ej, zB_0, n_cl (show 3 * (1 - k / 3) + i < 2 ^ 31 by omega), n_in hj (show 6 < 2 ^ 31 by decide)]
        rw [n_le (by omega) (by omega), n_a1]
        refine ⟨fun z => by omega, fun _ => ⟨fun z => ?_, fun z => ?_⟩⟩
        · refine ih (i + 1) M1 (by omega) hF ?_
          rw [zall, if_neg (by rw [← ed]; exact z)]
          exact h1
        · have z := Decidable.not_not.mp z
          refine s118 hP1 h1 hj hby z (fun M2 g1 g2 => ?_)
          simp only [w122_0, w122_1, w122_4, w122_6, w122_7, w122_10, w122_11, w122_12, w122_13, w122_14, w122_15, w122_16, w122_19, w122_21, w122_22, w122_25, w122_26, w122_27, w122_28, w122_29, w122_30, w122_31, w122_32, w122_35, w122_36, w122_37, w122_38, w122_39, w122_40, w122_41, w122_44, w122_45, w122_48, w122_49, w122_51, w122_52, w122_55, w122_56, w122_57, w122_59, w122_60, w122_63, w122_64, w122_67, w122_68, w122_71, w122_72, w122_75, w122_76, w122_79, w122_82, w122_83, w122_84, w122_87, w122_89, w122_93, w122_95, w122_96, w122_97, w122_100, w122_101, w122_104, w122_106, w122_107, w122_110, w122_111, w122_113, w122_114, w122_117, w122_120, w122_123, w122_126, w122_127, w122_128, w122_130, w122_131, w122_132, w122_135, w122_137, w122_138, w122_141, w122_143, w122_144, w122_147, w122_149, w122_150, w122_151, w122_152, w122_153, w122_154, w122_156, w122_157, w122_160, w122_162, w122_163, w122_166, w122_168, w122_169, w122_170, w122_171, w122_173, w122_176, w122_178, w122_181, w122_182, w122_185, w122_187, w122_188, w122_189, w122_190, w122_191, zk_sI, zk_sJ, zk_sP, zn_sI, zn_sJ, zn_sP, zI_sI, zI_sJ, zI_sP, zJ_sI, zJ_sJ, zJ_sP, zP_sI, zP_sJ, zP_sP, Option.toList_some, Option.toList_none, List.cons_append, List.nil_append, n_a1]
          refine ih (i + 1) M2 (by omega) (zF_tr hF g1) ?_
          rw [zall, if_pos (by rw [← ed]; exact z)]
          exact g2
    exact loop 3 0 M rfl (zF_rf _ _) hS
  have K2 : ∀ (o : Nat), o = 3 * (1 - k / 3) → znu c k 0 = 2 → zC X 119 [.ref 58, .int (3 - nI o), .int 1] M (fun v M2 => zW X 122 135 [.val (.ref 58), .val (.int (nI k)), .val (.int (nI (znu c k 0))), .val (.int (nI (znu c k 3 + c.2.2 k))), .val (.int (nI o)), .unset, .unset] (v.toList ++ []) M2 Q) := by
    intro o ho hkd
    have e3 : (3 : Int32) - nI o = nI (3 * (k / 3)) := by
      have : (3 : Int32) - nI o = nI (3 - o) := pk_sub (a := 3) (by omega)
      rw [this]
      congr 1
      omega
    rw [e3]
    refine s119 (y := true) hP hS (by omega) ⟨fun _ => rfl, fun _ => by decide⟩ ?_
    rcases zch_seat (y := true) (N := N) (show k / 3 < 2 by omega) with q | ⟨j, q1, q2, q3⟩
    · obtain ⟨i, i1, i2⟩ := hdk (k / 3) (by omega)
      exact absurd q (zch_up 3 i i1 (by decide) (by omega) i2)
    · rw [q2]
      obtain ⟨t1, t2⟩ := hl j q1 q3
      cases hwj : c.2.1 j with
      | none => exact absurd hwj t1
      | some g =>
        have hg := hC.2.2 j g hwj
        have hl20 := (hC.1.1.2 g hg).2.2.1
        have ewj : zf_I M 61 j = nI g := by rw [hC.2.1 j q1, hwj]; rfl
        have evj : znu c j 1 = c.1 (6 * g + 1) := by simp only [znu, hwj]
        have e61 : (6 : Int32) * nI g + 1 = nI (6 * g + 1) := by rw [n_m6, n_a1]
        have e71 : zf_I M 59 (6 * g + 1) = nI (znu c j 1) := by rw [evj]; exact hC.1.2 (6 * g + 1) (by omega)
        simp only [w122_0, w122_1, w122_4, w122_6, w122_7, w122_10, w122_11, w122_12, w122_13, w122_14, w122_15, w122_16, w122_19, w122_21, w122_22, w122_25, w122_26, w122_27, w122_28, w122_29, w122_30, w122_31, w122_32, w122_35, w122_36, w122_37, w122_38, w122_39, w122_40, w122_41, w122_44, w122_45, w122_48, w122_49, w122_51, w122_52, w122_55, w122_56, w122_57, w122_59, w122_60, w122_63, w122_64, w122_67, w122_68, w122_71, w122_72, w122_75, w122_76, w122_79, w122_82, w122_83, w122_84, w122_87, w122_89, w122_93, w122_95, w122_96, w122_97, w122_100, w122_101, w122_104, w122_106, w122_107, w122_110, w122_111, w122_113, w122_114, w122_117, w122_120, w122_123, w122_126, w122_127, w122_128, w122_130, w122_131, w122_132, w122_135, w122_137, w122_138, w122_141, w122_143, w122_144, w122_147, w122_149, w122_150, w122_151, w122_152, w122_153, w122_154, w122_156, w122_157, w122_160, w122_162, w122_163, w122_166, w122_168, w122_169, w122_170, w122_171, w122_173, w122_176, w122_178, w122_181, w122_182, w122_185, w122_187, w122_188, w122_189, w122_190, w122_191, zk_sI, zk_sJ, zk_sP, zn_sI, zn_sJ, zn_sP, zI_sI, zI_sJ, zI_sP, zJ_sI, zJ_sJ, zJ_sP, zP_sI, zP_sJ, zP_sP, Option.toList_some, Option.toList_none, List.cons_append, List.nil_append, zk_of hP.1, zn_of hP.1, zix, ziN, ne_eq, reduceCtorEq, not_false_eq_true, true_and, and_true, Option.getD_some, Nat.reduceLeDiff, Nat.reduceLT, c_ofNat, zkd58, zp_58_1 hP, zp_58_2 hP, zp_58_6 hP, zp_58_7 hP, zp_58_10 hP, zp_58_11 hP, zp_58_12 hP, zp_58_14 hP, zp_58_15 hP, zp_58_17 hP, zp_58_18 hP, zp_58_19 hP, zp_58_20 hP, zp_58_21 hP, zp_58_22 hP, zp_58_24 hP, zp_58_26 hP, zp_58_29 hP, zp_58_32 hP, zp_58_33 hP, zp_58_34 hP, zp_58_35 hP, zp_58_36 hP, zp_58_37 hP, zp_58_38 hP, zp_58_39 hP, zkd59, znd59, zfx59, zkd60, znd60, zfx60, zkd61, znd61, zfx61, zkd62, znd62, zfx62, zkd63, znd63, zfx63, zkd64, znd64, zfx64, zkd65, znd65, zfx65, ewj, e61, e71, (hS j q1).1, ey, n_cl (show j < 2 ^ 31 by omega), n_in q1 (show 6 < 2 ^ 31 by decide), n_cl (show 6 * g + 1 < 2 ^ 31 by omega), n_in (show 6 * g + 1 < 96 by omega) (show 96 < 2 ^ 31 by decide)]
        have hdj := dg_lt N j
        have fin : ∀ v, v = nI (dg N j % 32 + min (znu c k 3 + c.2.2 k) (znu c j 1 - dg N j % 32)) → Q none (zf_sI M 64 j v) := by
          intro v hv
          refine h _ (zF_sI (zF_rf _ _) (Or.inl rfl)) ?_
          rw [hkd, zhit, if_neg (by decide), if_neg (by decide)]
          simp only [q2, n_ne (show j < 2 ^ 31 by omega), if_false, n_cl (show j < 2 ^ 31 by omega)]
          intro i hi
          simp only [zI_sI, Nat.reduceEqDiff, if_false, if_true]
          by_cases e : i = j
          · have em : (dg N j + min (znu c k 3 + c.2.2 k) (znu c j 1 - dg N j % 32)) % 32 = dg N j % 32 + min (znu c k 3 + c.2.2 k) (znu c j 1 - dg N j % 32) := by omega
            rw [if_pos e, e, dg_sd q1 (by omega), hv, (hS j q1).2, em, zB_t q3, zB_t (by omega)]
            exact ⟨rfl, rfl⟩
          · rw [if_neg e, dg_sd_ne q1 hi (by omega) e]
            exact hS i hi
        rw [n_le (by omega) (by omega)]
        refine ⟨fun z => fin _ ?_, fun z => fin _ ?_⟩
        · congr 1
          omega
        · congr 1
          omega
  simp only [w122_0, w122_1, w122_4, w122_6, w122_7, w122_10, w122_11, w122_12, w122_13, w122_14, w122_15, w122_16, w122_19, w122_21, w122_22, w122_25, w122_26, w122_27, w122_28, w122_29, w122_30, w122_31, w122_32, w122_35, w122_36, w122_37, w122_38, w122_39, w122_40, w122_41, w122_44, w122_45, w122_48, w122_49, w122_51, w122_52, w122_55, w122_56, w122_57, w122_59, w122_60, w122_63, w122_64, w122_67, w122_68, w122_71, w122_72, w122_75, w122_76, w122_79, w122_82, w122_83, w122_84, w122_87, w122_89, w122_93, w122_95, w122_96, w122_97, w122_100, w122_101, w122_104, w122_106, w122_107, w122_110, w122_111, w122_113, w122_114, w122_117, w122_120, w122_123, w122_126, w122_127, w122_128, w122_130, w122_131, w122_132, w122_135, w122_137, w122_138, w122_141, w122_143, w122_144, w122_147, w122_149, w122_150, w122_151, w122_152, w122_153, w122_154, w122_156, w122_157, w122_160, w122_162, w122_163, w122_166, w122_168, w122_169, w122_170, w122_171, w122_173, w122_176, w122_178, w122_181, w122_182, w122_185, w122_187, w122_188, w122_189, w122_190, w122_191, zk_sI, zk_sJ, zk_sP, zn_sI, zn_sJ, zn_sP, zI_sI, zI_sJ, zI_sP, zJ_sI, zJ_sJ, zJ_sP, zP_sI, zP_sJ, zP_sP, Option.toList_some, Option.toList_none, List.cons_append, List.nil_append, zk_of hP.1, zn_of hP.1, zix, ziN, ne_eq, reduceCtorEq, not_false_eq_true, true_and, and_true, Option.getD_some, Nat.reduceLeDiff, Nat.reduceLT, c_ofNat, zkd58, zp_58_1 hP, zp_58_2 hP, zp_58_6 hP, zp_58_7 hP, zp_58_10 hP, zp_58_11 hP, zp_58_12 hP, zp_58_14 hP, zp_58_15 hP, zp_58_17 hP, zp_58_18 hP, zp_58_19 hP, zp_58_20 hP, zp_58_21 hP, zp_58_22 hP, zp_58_24 hP, zp_58_26 hP, zp_58_29 hP, zp_58_32 hP, zp_58_33 hP, zp_58_34 hP, zp_58_35 hP, zp_58_36 hP, zp_58_37 hP, zp_58_38 hP, zp_58_39 hP, zkd59, znd59, zfx59, zkd60, znd60, zfx60, zkd61, znd61, zfx61, zkd62, znd62, zfx62, zkd63, znd63, zfx63, zkd64, znd64, zfx64, zkd65, znd65, zfx65, ew, e6, e63, e7, e8, hfo.1, ey, ham, n_cl (show k < 2 ^ 31 by omega), n_in hk (show 6 < 2 ^ 31 by decide), n_cl (show 6 * f < 2 ^ 31 by omega), n_in (show 6 * f < 96 by omega) (show 96 < 2 ^ 31 by decide), n_cl (show 6 * f + 3 < 2 ^ 31 by omega), n_in (show 6 * f + 3 < 96 by omega) (show 96 < 2 ^ 31 by decide)]
  have b1 : ∀ (p : ¬ am = 1), (0 : Int32) ≠ 0 ↔ decide (am = 1) = true := fun p => ⟨fun z => absurd rfl z, fun z => absurd (of_decide_eq_true z) p⟩
  have b2 : ∀ (p : am = 1), (1 : Int32) ≠ 0 ↔ decide (am = 1) = true := fun p => ⟨fun _ => decide_eq_true p, fun _ => by decide⟩
  have z0 : (nI (znu c k 0) = 0) ↔ znu c k 0 = 0 := by rw [c_0, n_eq (by omega) (by decide)]
  have z1 : (nI (znu c k 0) = 1) ↔ znu c k 0 = 1 := by rw [c_1, n_eq (by omega) (by decide)]
  rw [c_3, n_le (by decide) (by omega)]
  refine ⟨fun g => ?_, fun g => ?_⟩
  · have ho : 0 = 3 * (1 - k / 3) := by omega
    exact ⟨fun g0 => ⟨fun g1 => K2 0 ho (by rw [z0] at g0; rw [z1] at g1; omega), fun g1 => K1 0 ho (z1.mp (Decidable.not_not.mp g1))⟩, fun g0 => ⟨fun g1 => K0 0 0 ho (b1 g1) (z0.mp (Decidable.not_not.mp g0)), fun g1 => K0 0 1 ho (b2 (Decidable.not_not.mp g1)) (z0.mp (Decidable.not_not.mp g0))⟩⟩
  · have ho : 3 = 3 * (1 - k / 3) := by omega
    exact ⟨fun g0 => ⟨fun g1 => K2 3 ho (by rw [z0] at g0; rw [z1] at g1; omega), fun g1 => K1 3 ho (z1.mp (Decidable.not_not.mp g1))⟩, fun g0 => ⟨fun g1 => K0 3 0 ho (b1 g1) (z0.mp (Decidable.not_not.mp g0)), fun g1 => K0 3 1 ho (b2 (Decidable.not_not.mp g1)) (z0.mp (Decidable.not_not.mp g0))⟩⟩
end ZMh
