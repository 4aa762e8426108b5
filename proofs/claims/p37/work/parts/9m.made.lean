/-! ===== the class made ===== -/
section ZMd
variable {X : zf_X} {Q : Option Value → zf_M → Prop} {M : zf_M} {a i : Nat}
theorem mk26 (h : Q none K3c) : zC X 26 [.ref 12] (zf_new K3 (4, 0)) Q := by
  have l0 : (zf_new K3 (4, 0)).1.length = 13 := by decide +kernel
  rw [c26]
  simp only [w26_0, w26_1, w26_4, w26_5, w26_6, w26_9, w26_10, w26_11, w26_14, w26_15, w26_16, w26_18, w26_21, w26_22, w26_24, w26_26, w26_29, w26_30, w26_33, w26_35, w26_38, w26_39, w26_42, w26_43, w26_46, zl_new, zl_sI, zl_sJ, zl_sP, l0, Nat.reduceAdd]
  repeat (refine ⟨by decide +kernel, ?_⟩)
  change zC X 22 [.ref 16] (zf_new K3a (3, 0)) _
  refine mk22 (L := 17) (by decide +kernel) (by decide) (by decide +kernel) (by decide) ?_
  have l1 : K3b.1.length = 21 := by decide +kernel
  simp only [w26_46, zk_sI, zk_sJ, zk_sP, zn_sI, zn_sJ, zn_sP, zI_sI, zI_sJ, zI_sP, zJ_sI, zJ_sJ, zJ_sP, zP_sI, zP_sJ, zP_sP, Option.toList_some, Option.toList_none, List.cons_append, List.nil_append]
  refine ⟨by decide +kernel, ?_⟩
  change zW X 26 49 _ _ K3b Q
  simp only [w26_49, w26_50, w26_53, w26_54, l1]
  refine ⟨by decide, ?_⟩
  refine mk22 (L := 22) (by decide +kernel) (by decide) (by decide +kernel) (by decide) ?_
  simp only [w26_57, w26_60, w26_61, w26_62, w26_65, zk_sI, zk_sJ, zk_sP, zn_sI, zn_sJ, zn_sP, zI_sI, zI_sJ, zI_sP, zJ_sI, zJ_sJ, zJ_sP, zP_sI, zP_sJ, zP_sP, Option.toList_some, Option.toList_none, List.cons_append, List.nil_append]
  repeat (refine ⟨by decide +kernel, ?_⟩)
  exact h
theorem mkrow (hl : M.1.length = a) (ha : a < 900) (h27 : 27 < a) (hp : zf_P M 26 0 = some 27) (hk : zf_k M 27 = 13) (hn : zf_n M 13 27 = 6) (hk26 : zf_k M 26 = 1) (hi : i < 6) (h : zW X 3 46 [.val (.ref 26), .val (.int (nI (i + 1)))] [] (kRow M 27 a i) Q) : zW X 3 46 [.val (.ref 26), .val (.int (nI i))] [] M Q := by
  have hn2 : zf_n M 14 27 = 0 := by
    unfold zf_n at hn ⊢
    unfold zf_k at hk
    rw [hk]
    rfl
  rw [w3_46]
  simp only [w3_47, w3_48, w3_51, w3_52, w3_55, w3_56, w3_59, w3_60, hp, hk, hn, hk26, zfx27, Option.getD_some, n_cl (show i < 2 ^ 31 by omega)]
  rw [c_ofNat, n_le (by decide) (by omega), hl]
  have d27 : (27 = a) = False := eq_false (by omega)
  have d28 : (27 = a + 1) = False := eq_false (by omega)
  have daa : (a = a + 1) = False := eq_false (by omega)
  have hn' : zf_n (fRow (zf_new M (6, 0)) a (a + 1)) 13 27 = 6 := by
    unfold fRow
    simp only [zn_sI, zn_sP, zn_new, zl_new, hl, d27, d28, if_false, hn]
  have hk' : zf_k (fRow (zf_new M (6, 0)) a (a + 1)) a = 6 := by
    unfold fRow
    simp only [zk_sI, zk_sP, zk_new, zl_new, hl, daa, if_false, if_true]
  refine ⟨⟨trivial, fun z => by cases z⟩, ⟨by decide, by decide⟩, fun z => by omega, fun _ => ⟨⟨trivial, fun z => by cases z⟩, by omega, ?_⟩⟩
  simp only [w3_63, w3_64]
  refine mk40 (M := zf_new M (6, 0)) (L := a + 1) (by rw [zl_new, hl]) (by omega) (by rw [zk_new, if_pos hl.symm]) (by omega) ?_
  simp only [w3_67, w3_68, w3_71, zk_sI, zk_sJ, zk_sP, zn_sI, zn_sJ, zn_sP, zI_sI, zI_sJ, zI_sP, zJ_sI, zJ_sJ, zJ_sP, zP_sI, zP_sJ, zP_sP, Option.toList_some, Option.toList_none, List.cons_append, List.nil_append, n_a1, ziN, hn', hk']
  rw [n_cl (by omega)]
  exact ⟨Or.inl ⟨vp_in_nI hi (by decide), trivial⟩, h⟩
theorem mk3 (h : Q none K4b) : zC X 3 [.ref 26] (zf_new K4 (1, 0)) Q := by
  have l0 : (zf_new K4 (1, 0)).1.length = 27 := by decide +kernel
  rw [c3]
  simp only [w3_0, w3_1, w3_4, w3_5, w3_7, w3_10, w3_13, w3_14, w3_16, w3_18, w3_21, w3_22, w3_24, w3_26, w3_29, w3_30, w3_31, w3_34, w3_35, w3_36, w3_39, w3_40, w3_41, w3_44, w3_45, zl_new, zl_sI, zl_sJ, zl_sP, l0, Nat.reduceAdd]
  repeat (refine ⟨by decide +kernel, ?_⟩)
  change zW X 3 46 _ _ K4a Q
  refine mkrow (i := 0) (a := 30) (by decide +kernel) (by decide) (by decide) (by decide +kernel) (by decide +kernel) (by decide +kernel) (by decide +kernel) (by decide) ?_
  refine mkrow (i := 1) (a := 32) (by decide +kernel) (by decide) (by decide) (by decide +kernel) (by decide +kernel) (by decide +kernel) (by decide +kernel) (by decide) ?_
  refine mkrow (i := 2) (a := 34) (by decide +kernel) (by decide) (by decide) (by decide +kernel) (by decide +kernel) (by decide +kernel) (by decide +kernel) (by decide) ?_
  refine mkrow (i := 3) (a := 36) (by decide +kernel) (by decide) (by decide) (by decide +kernel) (by decide +kernel) (by decide +kernel) (by decide +kernel) (by decide) ?_
  refine mkrow (i := 4) (a := 38) (by decide +kernel) (by decide) (by decide) (by decide +kernel) (by decide +kernel) (by decide +kernel) (by decide +kernel) (by decide) ?_
  refine mkrow (i := 5) (a := 40) (by decide +kernel) (by decide) (by decide) (by decide +kernel) (by decide +kernel) (by decide +kernel) (by decide +kernel) (by decide) ?_
  change zW X 3 46 _ _ K4b Q
  have p : zf_P K4b 26 0 = some 27 := by decide +kernel
  have k : zf_k K4b 27 = 13 := by decide +kernel
  have n : zf_n K4b 13 27 = 6 := by decide +kernel
  have k26 : zf_k K4b 26 = 1 := by decide +kernel
  rw [w3_46]
  simp only [w3_47, w3_48, w3_51, w3_52, w3_74, p, k, n, k26, zfx27, Option.getD_some]
  exact ⟨⟨trivial, fun z => by cases z⟩, ⟨by decide, by decide⟩, fun _ => h, fun z => absurd (by decide) z⟩
/-- a row of a side, a sheet -/
theorem mkside {b : Nat} (hl : M.1.length = a) (ha : a < 900) (h27 : 3 < a) (hp : zf_P M 0 1 = some 3) (hk : zf_k M 3 = 13) (hn : zf_n M 13 3 = 2) (hk26 : zf_k M 0 = 8) (hi : i < 2) (h : zW X 49 110 [.val (.ref 0), .val (.int (nI (i + 1)))] [] (kRow M 3 a i) Q) : zW X 49 110 [.val (.ref 0), .val (.int (nI i))] [] M Q := by
  rw [w49_110]
  simp only [w49_111, w49_112, w49_115, w49_116, w49_119, w49_120, w49_123, w49_124, hp, hk, hn, hk26, zfx3, Option.getD_some, n_cl (show i < 2 ^ 31 by omega)]
  rw [c_ofNat, n_le (by decide) (by omega), hl]
  have d27 : (3 = a) = False := eq_false (by omega)
  have d28 : (3 = a + 1) = False := eq_false (by omega)
  have daa : (a = a + 1) = False := eq_false (by omega)
  have hn' : zf_n (fRow (zf_new M (6, 0)) a (a + 1)) 13 3 = 2 := by
    unfold fRow
    simp only [zn_sI, zn_sP, zn_new, zl_new, hl, d27, d28, if_false, hn]
  have hk' : zf_k (fRow (zf_new M (6, 0)) a (a + 1)) a = 6 := by
    unfold fRow
    simp only [zk_sI, zk_sP, zk_new, zl_new, hl, daa, if_false, if_true]
  refine ⟨⟨trivial, fun z => by cases z⟩, ⟨by decide, by decide⟩, fun z => by omega, fun _ => ⟨⟨trivial, fun z => by cases z⟩, by omega, ?_⟩⟩
  simp only [w49_127, w49_128]
  refine mk40 (M := zf_new M (6, 0)) (L := a + 1) (by rw [zl_new, hl]) (by omega) (by rw [zk_new, if_pos hl.symm]) (by omega) ?_
  simp only [w49_131, w49_132, w49_135, zk_sI, zk_sJ, zk_sP, zn_sI, zn_sJ, zn_sP, zI_sI, zI_sJ, zI_sP, zJ_sI, zJ_sJ, zJ_sP, zP_sI, zP_sJ, zP_sP, Option.toList_some, Option.toList_none, List.cons_append, List.nil_append, n_a1, ziN, hn', hk']
  rw [n_cl (by omega)]
  exact ⟨Or.inl ⟨vp_in_nI hi (by decide), trivial⟩, h⟩
theorem mksheet (hl : M.1.length = a) (ha : a < 900) (h27 : 45 < a) (hp : zf_P M 0 7 = some 45) (hk : zf_k M 45 = 14) (hn : zf_n M 14 45 = 4) (hk26 : zf_k M 0 = 8) (hi : i < 4) (h : zW X 49 140 [.val (.ref 0), .val (.int (nI (i + 1)))] [] (kShe M 45 a i) Q) : zW X 49 140 [.val (.ref 0), .val (.int (nI i))] [] M Q := by
  rw [w49_140]
  simp only [w49_141, w49_142, w49_145, w49_146, w49_149, w49_150, w49_153, w49_154, hp, hk, hn, hk26, zfx45, Option.getD_some, n_cl (show i < 2 ^ 31 by omega)]
  rw [c_ofNat, n_le (by decide) (by omega), hl]
  have d27 : (45 = a) = False := eq_false (by omega)
  have d28 : (45 = a + 1) = False := eq_false (by omega)
  have daa : (a = a + 1) = False := eq_false (by omega)
  have hn' : zf_n (fShe (zf_new M (7, 0)) a (a + 1)) 14 45 = 4 := by
    unfold fShe
    simp only [zn_sI, zn_sP, zn_new, zl_new, hl, d27, d28, if_false, hn]
  have hk' : zf_k (fShe (zf_new M (7, 0)) a (a + 1)) a = 7 := by
    unfold fShe
    simp only [zk_sI, zk_sP, zk_new, zl_new, hl, daa, if_false, if_true]
  refine ⟨⟨trivial, fun z => by cases z⟩, ⟨by decide, by decide⟩, fun z => by omega, fun _ => ⟨⟨trivial, fun z => by cases z⟩, by omega, ?_⟩⟩
  simp only [w49_157, w49_158]
  refine mk43 (M := zf_new M (7, 0)) (L := a + 1) (by rw [zl_new, hl]) (by omega) (by rw [zk_new, if_pos hl.symm]) (by omega) ?_
  simp only [w49_161, w49_162, w49_165, zk_sI, zk_sJ, zk_sP, zn_sI, zn_sJ, zn_sP, zI_sI, zI_sJ, zI_sP, zJ_sI, zJ_sJ, zJ_sP, zP_sI, zP_sJ, zP_sP, Option.toList_some, Option.toList_none, List.cons_append, List.nil_append, n_a1, ziN, hn', hk']
  rw [n_cl (by omega)]
  exact ⟨Or.inr ⟨vp_in_nI hi (by decide), trivial⟩, h⟩
theorem mk49 (h : Q none K11) : zC X 49 [.ref 0] K0 Q := by
  have l0 : K0.1.length = 1 := by decide +kernel
  have l1 : K1.1.length = 3 := by decide +kernel
  have l2 : K2.1.length = 4 := by decide +kernel
  have l3 : K3.1.length = 12 := by decide +kernel
  have l4 : K4.1.length = 26 := by decide +kernel
  have l5 : K5.1.length = 42 := by decide +kernel
  have l6 : K6.1.length = 43 := by decide +kernel
  have l7 : K7.1.length = 45 := by decide +kernel
  rw [c49]
  simp only [w49_0, w49_1, w49_4, w49_5, w49_8, w49_9, l0]
  refine ⟨by decide, mk35 (L := 2) (by decide +kernel) (by decide) (by decide +kernel) (by decide) ?_⟩
  simp only [w49_12, zk_sI, zk_sJ, zk_sP, zn_sI, zn_sJ, zn_sP, zI_sI, zI_sJ, zI_sP, zJ_sI, zJ_sJ, zJ_sP, zP_sI, zP_sJ, zP_sP, Option.toList_some, Option.toList_none, List.cons_append, List.nil_append]
  refine ⟨by decide +kernel, ?_⟩
  change zW X 49 15 _ _ K1 Q
  simp only [w49_15, w49_16, w49_17, w49_20, l1]
  repeat (refine ⟨by decide +kernel, ?_⟩)
  change zW X 49 23 _ _ K2 Q
  simp only [w49_23, w49_24, w49_27, w49_28, l2]
  refine ⟨by decide, mk6 (L := 5) (by decide +kernel) (by decide) (by decide +kernel) (by decide) ?_⟩
  simp only [w49_31, zk_sI, zk_sJ, zk_sP, zn_sI, zn_sJ, zn_sP, zI_sI, zI_sJ, zI_sP, zJ_sI, zJ_sJ, zJ_sP, zP_sI, zP_sJ, zP_sP, Option.toList_some, Option.toList_none, List.cons_append, List.nil_append]
  refine ⟨by decide +kernel, ?_⟩
  change zW X 49 34 _ _ K3 Q
  simp only [w49_34, w49_35, w49_38, w49_39, l3]
  refine ⟨by decide, mk26 ?_⟩
  simp only [w49_42, zk_sI, zk_sJ, zk_sP, zn_sI, zn_sJ, zn_sP, zI_sI, zI_sJ, zI_sP, zJ_sI, zJ_sJ, zJ_sP, zP_sI, zP_sJ, zP_sP, Option.toList_some, Option.toList_none, List.cons_append, List.nil_append]
  refine ⟨by decide +kernel, ?_⟩
  change zW X 49 45 _ _ K4 Q
  simp only [w49_45, w49_46, w49_49, w49_50, l4]
  refine ⟨by decide, mk3 ?_⟩
  simp only [w49_53, zk_sI, zk_sJ, zk_sP, zn_sI, zn_sJ, zn_sP, zI_sI, zI_sJ, zI_sP, zJ_sI, zJ_sJ, zJ_sP, zP_sI, zP_sJ, zP_sP, Option.toList_some, Option.toList_none, List.cons_append, List.nil_append]
  refine ⟨by decide +kernel, ?_⟩
  change zW X 49 56 _ _ K5 Q
  simp only [w49_56, w49_57, w49_59, w49_61, l5]
  repeat (refine ⟨by decide +kernel, ?_⟩)
  change zW X 49 64 _ _ K6 Q
  simp only [w49_64, w49_65, w49_68, w49_69, l6]
  refine ⟨by decide, mk0 (L := 44) (by decide +kernel) (by decide) (by decide +kernel) (by decide) ?_⟩
  simp only [w49_72, zk_sI, zk_sJ, zk_sP, zn_sI, zn_sJ, zn_sP, zI_sI, zI_sJ, zI_sP, zJ_sI, zJ_sJ, zJ_sP, zP_sI, zP_sJ, zP_sP, Option.toList_some, Option.toList_none, List.cons_append, List.nil_append]
  refine ⟨by decide +kernel, ?_⟩
  change zW X 49 75 _ _ K7 Q
  simp only [w49_75, w49_76, w49_77, w49_80, w49_83, w49_84, w49_85, w49_88, w49_89, w49_90, w49_93, w49_94, w49_95, w49_98, w49_99, w49_100, w49_103, w49_104, w49_105, w49_108, w49_109, l7]
  repeat (refine ⟨by decide +kernel, ?_⟩)
  change zW X 49 110 _ _ K9 Q
  refine mkside (i := 0) (a := 46) (b := 0) (by decide +kernel) (by decide) (by decide) (by decide +kernel) (by decide +kernel) (by decide +kernel) (by decide +kernel) (by decide) ?_
  refine mkside (i := 1) (a := 48) (b := 0) (by decide +kernel) (by decide) (by decide) (by decide +kernel) (by decide +kernel) (by decide +kernel) (by decide +kernel) (by decide) ?_
  change zW X 49 110 _ _ K10 Q
  have p : zf_P K10 0 1 = some 3 := by decide +kernel
  have k : zf_k K10 3 = 13 := by decide +kernel
  have n : zf_n K10 13 3 = 2 := by decide +kernel
  have k0 : zf_k K10 0 = 8 := by decide +kernel
  rw [w49_110]
  simp only [w49_111, w49_112, w49_115, w49_116, w49_138, w49_139, p, k, n, k0, zfx3, Option.getD_some]
  refine ⟨⟨trivial, fun z => by cases z⟩, ⟨by decide, by decide⟩, fun _ => ?_, fun z => absurd (by decide) z⟩
  refine mksheet (i := 0) (a := 50) (by decide +kernel) (by decide) (by decide) (by decide +kernel) (by decide +kernel) (by decide +kernel) (by decide +kernel) (by decide) ?_
  refine mksheet (i := 1) (a := 52) (by decide +kernel) (by decide) (by decide) (by decide +kernel) (by decide +kernel) (by decide +kernel) (by decide +kernel) (by decide) ?_
  refine mksheet (i := 2) (a := 54) (by decide +kernel) (by decide) (by decide) (by decide +kernel) (by decide +kernel) (by decide +kernel) (by decide +kernel) (by decide) ?_
  refine mksheet (i := 3) (a := 56) (by decide +kernel) (by decide) (by decide) (by decide +kernel) (by decide +kernel) (by decide +kernel) (by decide +kernel) (by decide) ?_
  change zW X 49 140 _ _ K11 Q
  have p2 : zf_P K11 0 7 = some 45 := by decide +kernel
  have k2 : zf_k K11 45 = 14 := by decide +kernel
  have n2 : zf_n K11 14 45 = 4 := by decide +kernel
  have k02 : zf_k K11 0 = 8 := by decide +kernel
  rw [w49_140]
  simp only [w49_141, w49_142, w49_145, w49_146, w49_168, p2, k2, n2, k02, zfx45, Option.getD_some]
  exact ⟨⟨trivial, fun z => by cases z⟩, ⟨by decide, by decide⟩, fun _ => h, fun z => absurd (by decide) z⟩
end ZMd

