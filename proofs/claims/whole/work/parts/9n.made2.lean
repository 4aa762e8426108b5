/-! ===== the model made ===== -/
def K12 : zf_M := zf_sP (zf_new (zf_sP (zf_new (zf_sP (zf_new (zf_sP (zf_new (zf_sP (zf_new (zf_sP (zf_new (zf_sP (zf_new (zf_sP (zf_new (zf_sP (zf_new (zf_sI (zf_sI (zf_sP (zf_new (zf_sP (zf_new (zf_sP (zf_new (zf_sP (zf_new (zf_sP (zf_new (zf_sP (zf_new (zf_sP (zf_new (zf_sP (zf_new (zf_sP (zf_new (zf_sP (zf_new (zf_sP (zf_new (zf_sP (zf_new (zf_sP (zf_new (zf_sP (zf_new (zf_sP (zf_new (zf_sI (zf_sI (zf_sP (zf_new (zf_sP (zf_new (zf_new K11 (9, 0)) (10, 96)) 58 1 (some 59)) (10, 6)) 58 2 (some 60)) 58 3 3) 58 5 (-1)) (10, 6)) 58 6 (some 61)) (10, 6)) 58 7 (some 62)) (10, 6)) 58 10 (some 63)) (10, 6)) 58 11 (some 64)) (12, 6)) 58 12 (some 65)) (11, 400)) 58 14 (some 66)) (11, 400)) 58 15 (some 67)) (11, 800)) 58 17 (some 68)) (11, 800)) 58 18 (some 69)) (10, 2048)) 58 19 (some 70)) (11, 3)) 58 20 (some 71)) (11, 7)) 58 21 (some 72)) (11, 252)) 58 22 (some 73)) (11, 24)) 58 24 (some 74)) (10, 18)) 58 26 (some 75)) 58 27 1) 58 28 1) (10, 12)) 58 29 (some 76)) (10, 27)) 58 32 (some 77)) (10, 3)) 58 33 (some 78)) (10, 6)) 58 34 (some 79)) (10, 6)) 58 35 (some 80)) (10, 4)) 58 36 (some 81)) (10, 4)) 58 37 (some 82)) (10, 240)) 58 38 (some 83)) (10, 60)) 58 39 (some 84)
def kSi (M : zf_M) (j : Nat) : zf_M := zf_sI (zf_sI M 60 j (-1)) 79 j (-1)
def K13 : zf_M := kSi (kSi (kSi (kSi (kSi (kSi K12 0) 1) 2) 3) 4) 5
def K14 : zf_M := zf_sI (zf_sI (zf_sI (zf_sI K13 81 0 (-1)) 81 1 (-1)) 81 2 (-1)) 81 3 (-1)
section ZMe
variable {X : zf_X} {Q : Option Value → zf_M → Prop} {M : zf_M} {a i : Nat}
theorem mkl1 (h1 : zf_P M 58 2 = some 60) (h2 : zf_P M 58 34 = some 79) (h3 : zf_n M 10 60 = 6) (h4 : zf_n M 10 79 = 6) (h5 : zf_k M 58 = 9) (hi : i < 6) (h : zW X 102 237 [.val (.ref 58), .val (.int (nI (i + 1)))] [] (kSi M i) Q) : zW X 102 237 [.val (.ref 58), .val (.int (nI i))] [] M Q := by
  rw [w102_237]
  simp only [w102_238, w102_240, w102_243, w102_244, w102_247, w102_248, w102_249, w102_250, w102_251, w102_254, w102_255, w102_256, w102_257, w102_260, w102_263, w102_264, zk_sI, zk_sJ, zk_sP, zn_sI, zn_sJ, zn_sP, zI_sI, zI_sJ, zI_sP, zJ_sI, zJ_sJ, zJ_sP, zP_sI, zP_sJ, zP_sP, Option.toList_some, Option.toList_none, List.cons_append, List.nil_append, h1, h2, h3, h4, h5, zix, zfx60, zfx79, Option.getD_some, n_cl (show i < 2 ^ 31 by omega), n_in hi (show 6 < 2 ^ 31 by decide), n_a1, ne_eq, reduceCtorEq, not_false_eq_true, true_and]
  rw [c_6, n_le (by decide) (by omega)]
  exact ⟨fun z => by omega, fun _ => h⟩
theorem mkl2 (h1 : zf_P M 58 36 = some 81) (h3 : zf_n M 10 81 = 4) (h5 : zf_k M 58 = 9) (hi : i < 4) (h : zW X 102 265 [.val (.ref 58), .val (.int (nI (i + 1)))] [] (zf_sI M 81 i (-1)) Q) : zW X 102 265 [.val (.ref 58), .val (.int (nI i))] [] M Q := by
  rw [w102_265]
  simp only [w102_266, w102_267, w102_270, w102_271, w102_274, w102_275, w102_276, w102_277, w102_280, w102_283, zk_sI, zk_sJ, zk_sP, zn_sI, zn_sJ, zn_sP, zI_sI, zI_sJ, zI_sP, zJ_sI, zJ_sJ, zJ_sP, zP_sI, zP_sJ, zP_sP, Option.toList_some, Option.toList_none, List.cons_append, List.nil_append, h1, h3, h5, zix, zfx81, Option.getD_some, n_cl (show i < 2 ^ 31 by omega), n_in hi (show 4 < 2 ^ 31 by decide), n_a1, ne_eq, reduceCtorEq, not_false_eq_true, true_and]
  rw [show (4 : Int32) = nI 4 from rfl, n_le (by decide) (by omega)]
  exact ⟨fun z => by omega, fun _ => h⟩
theorem mk102 (h : Q none K14) : zC X 102 [.ref 58] (zf_new K11 (9, 0)) Q := by
  have l0 : (zf_new K11 (9, 0)).1.length = 59 := by decide +kernel
  rw [c102]
  simp only [w102_0, w102_1, w102_4, w102_5, w102_7, w102_9, w102_12, w102_13, w102_15, w102_17, w102_20, w102_21, w102_22, w102_25, w102_26, w102_27, w102_30, w102_31, w102_33, w102_35, w102_38, w102_39, w102_41, w102_43, w102_46, w102_47, w102_49, w102_51, w102_54, w102_55, w102_57, w102_59, w102_62, w102_63, w102_65, w102_67, w102_70, w102_71, w102_74, w102_76, w102_79, w102_80, w102_83, w102_85, w102_88, w102_89, w102_92, w102_94, w102_97, w102_98, w102_101, w102_103, w102_106, w102_107, w102_110, w102_112, w102_115, w102_116, w102_117, w102_119, w102_122, w102_123, w102_125, w102_127, w102_130, w102_131, w102_134, w102_136, w102_139, w102_140, w102_142, w102_144, w102_147, w102_148, w102_150, w102_152, w102_155, w102_156, w102_157, w102_160, w102_161, w102_162, w102_165, w102_166, w102_168, w102_170, w102_173, w102_174, w102_176, w102_178, w102_181, w102_182, w102_183, w102_185, w102_188, w102_189, w102_191, w102_193, w102_196, w102_197, w102_199, w102_201, w102_204, w102_205, w102_206, w102_208, w102_211, w102_212, w102_213, w102_215, w102_218, w102_219, w102_222, w102_224, w102_227, w102_228, w102_230, w102_232, w102_235, w102_236, zl_new, zl_sI, zl_sJ, zl_sP, l0, Nat.reduceAdd]
  repeat (refine ⟨by decide +kernel, ?_⟩)
  change zW X 102 237 _ _ K12 Q
  refine mkl1 (i := 0) (by decide +kernel) (by decide +kernel) (by decide +kernel) (by decide +kernel) (by decide +kernel) (by decide) ?_
  refine mkl1 (i := 1) (by decide +kernel) (by decide +kernel) (by decide +kernel) (by decide +kernel) (by decide +kernel) (by decide) ?_
  refine mkl1 (i := 2) (by decide +kernel) (by decide +kernel) (by decide +kernel) (by decide +kernel) (by decide +kernel) (by decide) ?_
  refine mkl1 (i := 3) (by decide +kernel) (by decide +kernel) (by decide +kernel) (by decide +kernel) (by decide +kernel) (by decide) ?_
  refine mkl1 (i := 4) (by decide +kernel) (by decide +kernel) (by decide +kernel) (by decide +kernel) (by decide +kernel) (by decide) ?_
  refine mkl1 (i := 5) (by decide +kernel) (by decide +kernel) (by decide +kernel) (by decide +kernel) (by decide +kernel) (by decide) ?_
  change zW X 102 237 _ _ K13 Q
  rw [w102_237]
  simp only [w102_238, w102_240, w102_263, w102_264, zk_sI, zk_sJ, zk_sP, zn_sI, zn_sJ, zn_sP, zI_sI, zI_sJ, zI_sP, zJ_sI, zJ_sJ, zJ_sP, zP_sI, zP_sJ, zP_sP, Option.toList_some, Option.toList_none, List.cons_append, List.nil_append]
  refine ⟨fun _ => ?_, fun z => absurd (by decide) z⟩
  refine mkl2 (i := 0) (by decide +kernel) (by decide +kernel) (by decide +kernel) (by decide) ?_
  refine mkl2 (i := 1) (by decide +kernel) (by decide +kernel) (by decide +kernel) (by decide) ?_
  refine mkl2 (i := 2) (by decide +kernel) (by decide +kernel) (by decide +kernel) (by decide) ?_
  refine mkl2 (i := 3) (by decide +kernel) (by decide +kernel) (by decide +kernel) (by decide) ?_
  change zW X 102 265 _ _ K14 Q
  rw [w102_265]
  simp only [w102_266, w102_267, w102_283, zk_sI, zk_sJ, zk_sP, zn_sI, zn_sJ, zn_sP, zI_sI, zI_sJ, zI_sP, zJ_sI, zJ_sJ, zJ_sP, zP_sI, zP_sJ, zP_sP, Option.toList_some, Option.toList_none, List.cons_append, List.nil_append]
  exact ⟨fun _ => h, fun z => absurd (by decide) z⟩
/-! where it begins -/
def q0 : tQ := ((0, fun _ => 0), ((0, fun _ => 0), (0, fun _ => 0)), (3, 0, -1), (0, fun _ => (0, fun _ => 0), 1, 1), (0, fun _ => 0), ((0, 0, 0), fun _ => -2), (fun _ => -1, fun _ => 0, fun _ _ => 0), 0)
theorem vQ_0 : vQ q0 := ⟨⟨by decide, fun f hf => absurd hf (Nat.not_lt_zero f)⟩, ⟨⟨by decide, fun j hj => absurd hj (Nat.not_lt_zero j)⟩, ⟨by decide, fun j hj => absurd hj (Nat.not_lt_zero j)⟩⟩, ⟨by decide, by decide⟩, ⟨by decide, by decide, by decide, fun f hf => absurd hf (Nat.not_lt_zero f)⟩, by decide, fun s _ => ⟨(show 0 ≤ 60 by decide), (show (-1 : Int32) ≤ 2 by decide)⟩⟩
theorem zPk_0 : zPk K14 := ⟨by decide +kernel, by decide +kernel⟩
theorem zLI_0 {M : zf_M} {a : Nat} (h1 : zf_I M a 2 = 0) (h2 : ∀ p, p < 1024 → zf_I M (a + 4) p = 0) : zLI M a 0 :=
  ⟨h1, by decide, fun i j hi => absurd hi (Nat.not_lt_zero i), fun i hi => absurd hi (Nat.not_lt_zero i), fun p hp => Or.inl (h2 p hp)⟩
theorem zLO_0 : zLO K14 := ⟨16, 21, 0, 0, Or.inl ⟨rfl, rfl⟩, by decide +kernel, by decide +kernel, zLI_0 (by decide +kernel) (by decide +kernel), zLI_0 (by decide +kernel) (by decide +kernel)⟩
theorem zKC_0 : zKC q0 K14 := by
  refine ⟨zLO_0, ⟨by decide +kernel, fun i hi => absurd hi (Nat.not_lt_zero i)⟩, ⟨by decide +kernel, by decide +kernel, by decide +kernel⟩, ⟨by decide +kernel, by decide +kernel, by decide +kernel⟩, ⟨by decide +kernel, by decide +kernel, by decide +kernel, fun f hf => absurd hf (Nat.not_lt_zero f)⟩, ⟨by decide +kernel, fun k hk => absurd hk (Nat.not_lt_zero k)⟩, ⟨by decide +kernel, by decide +kernel, by decide +kernel, by decide +kernel⟩, fun s hs => ?_, by show zf_I K14 0 12 = 0; decide +kernel⟩
  have key : ∀ s, s < 4 → zf_I K14 (50 + 2 * s) 2 = 0 ∧ zf_I K14 (50 + 2 * s) 3 = 1 := by decide +kernel
  obtain ⟨k1, k2⟩ := key s hs
  exact ⟨k1, k2, fun z => absurd (show (-1 : Int32) < 0 by decide) z, fun j hj => absurd hj (Nat.not_lt_zero j)⟩
theorem zKM_0 : zKM q0 K14 := by
  refine ⟨⟨by decide +kernel, fun i hi => absurd hi (Nat.not_lt_zero i)⟩, by unfold mB; decide +kernel, ⟨by decide +kernel, by decide +kernel, by decide +kernel⟩, ⟨by decide +kernel, by decide +kernel, by decide +kernel, fun f hf => absurd hf (Nat.not_lt_zero f)⟩, ⟨by decide +kernel, fun k hk => absurd hk (Nat.not_lt_zero k)⟩, ⟨by decide +kernel, by decide +kernel, by decide +kernel, by decide +kernel⟩, fun s hs => ?_, by show zf_I K14 58 40 = 0; decide +kernel⟩
  have key : ∀ s, s < 4 → zf_I K14 81 s = -1 ∧ zf_I K14 82 s = 0 := by decide +kernel
  obtain ⟨k1, k2⟩ := key s hs
  exact ⟨k1, k2, fun j hj => absurd hj (Nat.not_lt_zero j)⟩
end ZMe
