/-! ===== the model: left ===== -/
section ZMm
variable {X : zf_X} {M : zf_M} {Q : Option Value → zf_M → Prop} {q : tQ}
theorem zon_of {q : tQ} {s k : Nat} (hs : s ≤ 1) (hk : k ≤ 2) (hne : zwh q s k ≠ none) : zon (zpq q 0) (3 * s + k) := by
  have hc : (zcq q 0).2.1 (3 * s + k) ≠ none := by
    unfold zwh at hne
    by_cases hs0 : s = 0
    · rw [if_pos hs0] at hne
      rw [hs0, show 3 * 0 + k = k by omega]
      exact fun z => hne ((zat_h (b := 0) (nu := (qA q).2) (B := (qB q).1) (F := (qB q).2) (by omega)).symm.trans z)
    · rw [if_neg hs0] at hne
      rw [show 3 * s + k = 3 + k by omega]
      exact fun z => hne ((zat_f (b := 0) (nu := (qA q).2) (B := (qB q).1) (F := (qB q).2)).symm.trans z)
  exact zod_sur hc (by omega)
theorem zwh_m {q : tQ} {M : zf_M} {s k : Nat} (hM : zKM q M) (hs : s ≤ 1) (hk : k ≤ 2) : zf_I M 60 (3 * s + k) = zvo (zwh q s k) := by
  unfold zwh
  by_cases hs0 : s = 0
  · rw [if_pos hs0, hs0, ← (hM.2.1 k (by omega)).1]
    congr 1
    omega
  · rw [if_neg hs0, show s = 1 by omega, ← (hM.2.1 k (by omega)).2]
theorem M136 {s k l u : Int32} (hv : vQ q) (hP : zPk M) (hM : zKM q M) (h : ∀ M1, zDn M M1 → zKM q M1 → Q (some (.long (aLeft q s k l u))) M1) : zC X 136 [.ref 58, .int s, .int k, .int l, .int u] M Q := by
  rw [c136]
  unfold aLeft at h
  have hbad : ¬ (zin s 0 1 ∧ zin k 0 2 ∧ zin l 0 20 ∧ zin u 0 1 ∧ zwh q s.toNatClampNeg k.toNatClampNeg ≠ none) → zW X 136 59 [.val (.ref 58), .val (.int s), .val (.int k), .val (.int l), .val (.int u)] [] M Q := by
    intro g
    have := h M (zF_rf _ _) hM
    rw [if_neg g] at this
    simp only [w136_59, w136_61, zk_sI, zk_sJ, zk_sP, zn_sI, zn_sJ, zn_sP, zI_sI, zI_sJ, zI_sP, zJ_sI, zJ_sJ, zJ_sP, zP_sI, zP_sJ, zP_sP, Option.toList_some, Option.toList_none, List.cons_append, List.nil_append]
    refine s104 ?_
    simp only [w136_64, zk_sI, zk_sJ, zk_sP, zn_sI, zn_sJ, zn_sP, zI_sI, zI_sJ, zI_sP, zJ_sI, zJ_sJ, zJ_sP, zP_sI, zP_sJ, zP_sP, Option.toList_some, Option.toList_none, List.cons_append, List.nil_append]
    exact this
  simp only [w136_0, w136_1, w136_2, w136_3, w136_4, zk_sI, zk_sJ, zk_sP, zn_sI, zn_sJ, zn_sP, zI_sI, zI_sJ, zI_sP, zJ_sI, zJ_sJ, zJ_sP, zP_sI, zP_sJ, zP_sP, Option.toList_some, Option.toList_none, List.cons_append, List.nil_append]
  refine s103i 0 1 rfl rfl ?_
  simp only [w136_7, w136_10, w136_11, w136_12, w136_13, w136_16, zk_sI, zk_sJ, zk_sP, zn_sI, zn_sJ, zn_sP, zI_sI, zI_sJ, zI_sP, zJ_sI, zJ_sJ, zJ_sP, zP_sI, zP_sJ, zP_sP, Option.toList_some, Option.toList_none, List.cons_append, List.nil_append, zB_0]
  refine ⟨fun g => hbad (fun z => g z.1), fun g1 => ?_⟩
  have g1 := Classical.not_not.mp g1
  refine s103i 0 2 rfl rfl ?_
  simp only [w136_19, w136_22, w136_23, w136_24, w136_25, w136_28, zk_sI, zk_sJ, zk_sP, zn_sI, zn_sJ, zn_sP, zI_sI, zI_sJ, zI_sP, zJ_sI, zJ_sJ, zJ_sP, zP_sI, zP_sJ, zP_sP, Option.toList_some, Option.toList_none, List.cons_append, List.nil_append, zB_0]
  refine ⟨fun g => hbad (fun z => g z.2.1), fun g2 => ?_⟩
  have g2 := Classical.not_not.mp g2
  refine s103i 0 20 rfl rfl ?_
  simp only [w136_31, w136_34, w136_36, w136_37, w136_38, w136_39, zk_sI, zk_sJ, zk_sP, zn_sI, zn_sJ, zn_sP, zI_sI, zI_sJ, zI_sP, zJ_sI, zJ_sJ, zJ_sP, zP_sI, zP_sJ, zP_sP, Option.toList_some, Option.toList_none, List.cons_append, List.nil_append, zB_0]
  refine ⟨fun g => hbad (fun z => g z.2.2.1), fun g3 => ?_⟩
  have g3 := Classical.not_not.mp g3
  refine s103i 0 1 rfl rfl ?_
  obtain ⟨s', s1, e1⟩ := zin_o (n := 1) rfl (by decide) g1
  obtain ⟨k', k1, e2⟩ := zin_o (n := 2) rfl (by decide) g2
  have e89 : (3 : Int32) * s + k = nI (3 * s' + k') := by rw [e1, e2, n_m3, nI_add]
  have ev := zwh_m hM s1 k1
  have hnn := zvo_n (o := zwh q s' k') (fun f e => by have := zwh_lt hv e; omega)
  have ecl : zwh q s.toNatClampNeg k.toNatClampNeg = zwh q s' k' := by rw [e1, e2, n_cl (by omega), n_cl (by omega)]
  simp only [w136_42, w136_45, w136_46, w136_49, w136_50, w136_51, w136_52, w136_53, w136_54, w136_55, w136_56, zk_sI, zk_sJ, zk_sP, zn_sI, zn_sJ, zn_sP, zI_sI, zI_sJ, zI_sP, zJ_sI, zJ_sJ, zJ_sP, zP_sI, zP_sJ, zP_sP, Option.toList_some, Option.toList_none, List.cons_append, List.nil_append, zk_of hP.1, zn_of hP.1, zix, ziN, ne_eq, reduceCtorEq, not_false_eq_true, true_and, and_true, Option.getD_some, Nat.reduceLeDiff, Nat.reduceLT, c_ofNat, zkd58, zp_58_1 hP, zp_58_2 hP, zp_58_6 hP, zp_58_7 hP, zp_58_10 hP, zp_58_11 hP, zp_58_12 hP, zp_58_14 hP, zp_58_15 hP, zp_58_17 hP, zp_58_18 hP, zp_58_19 hP, zp_58_20 hP, zp_58_21 hP, zp_58_22 hP, zp_58_24 hP, zp_58_26 hP, zp_58_29 hP, zp_58_32 hP, zp_58_33 hP, zp_58_34 hP, zp_58_35 hP, zp_58_36 hP, zp_58_37 hP, zp_58_38 hP, zp_58_39 hP, zkd60, znd60, zfx60, zB_0, e89, n_cl (show 3 * s' + k' < 2 ^ 31 by omega), n_in (show 3 * s' + k' < 6 by omega) (show 6 < 2 ^ 31 by decide), ev, hnn]
  refine ⟨fun g => hbad (fun z => g z.2.2.2.1), fun g4 => ⟨fun g5 => ?_, fun g5 => hbad (fun z => z.2.2.2.2 (by rw [ecl]; exact Classical.not_not.mp g5))⟩⟩
  have g4 := Classical.not_not.mp g4
  obtain ⟨l', l1, e3⟩ := zin_o (n := 20) rfl (by decide) g3
  obtain ⟨u', u1, e4⟩ := zin_o (n := 1) rfl (by decide) g4
  have hon := zon_of s1 k1 g5
  rw [if_pos ⟨g1, g2, g3, g4, by rw [ecl]; exact g5⟩, e1, e2, e3, e4, n_cl (by omega), n_cl (by omega), n_cl (by omega), n_cl (by omega)] at h
  simp only [w136_65, w136_66, zk_sI, zk_sJ, zk_sP, zn_sI, zn_sJ, zn_sP, zI_sI, zI_sJ, zI_sP, zJ_sI, zJ_sJ, zJ_sP, zP_sI, zP_sJ, zP_sP, Option.toList_some, Option.toList_none, List.cons_append, List.nil_append, zk_of hP.1, zn_of hP.1, zix, ziN, ne_eq, reduceCtorEq, not_false_eq_true, true_and, and_true, Option.getD_some, Nat.reduceLeDiff, Nat.reduceLT, c_ofNat, zkd58, zp_58_1 hP, zp_58_2 hP, zp_58_6 hP, zp_58_7 hP, zp_58_10 hP, zp_58_11 hP, zp_58_12 hP, zp_58_14 hP, zp_58_15 hP, zp_58_17 hP, zp_58_18 hP, zp_58_19 hP, zp_58_20 hP, zp_58_21 hP, zp_58_22 hP, zp_58_24 hP, zp_58_26 hP, zp_58_29 hP, zp_58_32 hP, zp_58_33 hP, zp_58_34 hP, zp_58_35 hP, zp_58_36 hP, zp_58_37 hP, zp_58_38 hP, zp_58_39 hP]
  refine s130 hv hP hM (fun M1 x1 x2 x3 x4 x5 x6 => ?_)
  have hfin := h M1 (zDn_X x1) x3
  unfold zlft' at hfin
  generalize zpq q 0 = p at *
  have e42 : (42 : Int32) * nI (3 * s' + k') = nI (42 * (3 * s' + k')) := pk_mul 42 _
  have e2l : (2 : Int32) * l = nI (2 * l') := by
    rw [e3]
    exact pk_mul 2 _
  have ey : ∀ a b, nI a + nI b = nI (a + b) := fun a b => nI_add a b
  by_cases g : zrun p
  · have hA := (x6 g).1.2.2 (3 * s' + k') l' u' (by omega) hon (by omega) (by omega)
    rw [if_pos g] at hfin ⊢
    simp only [w136_69, w136_72, w136_74, w136_77, w136_80, w136_81, w136_84, w136_86, w136_87, w136_88, w136_89, w136_90, w136_91, w136_92, w136_93, w136_94, w136_95, w136_96, w136_98, w136_99, w136_100, zk_sI, zk_sJ, zk_sP, zn_sI, zn_sJ, zn_sP, zI_sI, zI_sJ, zI_sP, zJ_sI, zJ_sJ, zJ_sP, zP_sI, zP_sJ, zP_sP, Option.toList_some, Option.toList_none, List.cons_append, List.nil_append, zk_of x2.1, zn_of x2.1, zix, ziN, ne_eq, reduceCtorEq, not_false_eq_true, true_and, and_true, Option.getD_some, Nat.reduceLeDiff, Nat.reduceLT, c_ofNat, zkd58, zp_58_1 x2, zp_58_2 x2, zp_58_6 x2, zp_58_7 x2, zp_58_10 x2, zp_58_11 x2, zp_58_12 x2, zp_58_14 x2, zp_58_15 x2, zp_58_17 x2, zp_58_18 x2, zp_58_19 x2, zp_58_20 x2, zp_58_21 x2, zp_58_22 x2, zp_58_24 x2, zp_58_26 x2, zp_58_29 x2, zp_58_32 x2, zp_58_33 x2, zp_58_34 x2, zp_58_35 x2, zp_58_36 x2, zp_58_37 x2, zp_58_38 x2, zp_58_39 x2, zkd73, znd73, zfx73, e89, e42, e2l, e4, ey, true_implies, not_true_eq_false, false_implies, and_true, n_cl (show 42 * (3 * s' + k') + 2 * l' + u' < 2 ^ 31 by omega), n_in (show 42 * (3 * s' + k') + 2 * l' + u' < 252 by omega) (show 252 < 2 ^ 31 by decide), hA]
    exact hfin
  · rw [if_neg g] at hfin ⊢
    simp only [w136_69, w136_72, w136_74, w136_77, w136_80, w136_81, w136_84, w136_86, w136_87, w136_88, w136_89, w136_90, w136_91, w136_92, w136_93, w136_94, w136_95, w136_96, w136_98, w136_99, w136_100, zk_sI, zk_sJ, zk_sP, zn_sI, zn_sJ, zn_sP, zI_sI, zI_sJ, zI_sP, zJ_sI, zJ_sJ, zJ_sP, zP_sI, zP_sJ, zP_sP, Option.toList_some, Option.toList_none, List.cons_append, List.nil_append, n5, true_implies, not_false_eq_true, not_true_eq_false, false_implies, true_and, and_true]
    refine s104 ?_
    simp only [w136_69, w136_72, w136_74, w136_77, w136_80, w136_81, w136_84, w136_86, w136_87, w136_88, w136_89, w136_90, w136_91, w136_92, w136_93, w136_94, w136_95, w136_96, w136_98, w136_99, w136_100, zk_sI, zk_sJ, zk_sP, zn_sI, zn_sJ, zn_sP, zI_sI, zI_sJ, zI_sP, zJ_sI, zJ_sJ, zJ_sP, zP_sI, zP_sJ, zP_sP, Option.toList_some, Option.toList_none, List.cons_append, List.nil_append]
    exact hfin
end ZMm
