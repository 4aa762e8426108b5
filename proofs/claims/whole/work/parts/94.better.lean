/-! ===== better ===== -/
abbrev bBet (q : tQ) (f w : Int32) : Prop := vhas (qA q).1 f ∧ zin w 1 5 ∧ zok w.toNatClampNeg (nI ((qA q).2 (6 * f.toNatClampNeg + w.toNatClampNeg) + 1))
def qBet (q : tQ) (k : Nat) : tQ := uA q ((qA q).1, zud (qA q).2 k ((qA q).2 k + 1))
def aBet (q : tQ) (f w : Int32) : Int32 := if bBet q f w then (if zchn (zpq q 0) = -5 ∨ zchn (zpq (qBet q (6 * f.toNatClampNeg + w.toNatClampNeg)) 0) = -5 then -2147483647 else zchn (zpq (qBet q (6 * f.toNatClampNeg + w.toNatClampNeg)) 0) - zchn (zpq q 0)) else -2147483648
theorem vBet {q : tQ} {f w : Nat} (hv : vQ q) (hw : w < 6) (h : zok w (nI ((qA q).2 (6 * f + w) + 1))) (hb : (qA q).2 (6 * f + w) + 1 < 2 ^ 31) : vQ (qBet q (6 * f + w)) := by
  have hx := (zok_c h).2
  rw [n_cl hb] at hx
  exact vQ_A hv (zNv_upd hv.1 hw hx) (Nat.le_refl _)
theorem nu_lt {q : tQ} {f w : Nat} (hv : vQ q) (hf : f < (qA q).1) (hw : w < 6) : (qA q).2 (6 * f + w) ≤ 20 := Nat.le_trans ((zNv_iff.mp hv.1).2 f w hf hw).2 (hi_lt w)
section ZBt
variable {X : zf_X} {M : zf_M} {Q : Option Value → zf_M → Prop} {q : tQ}
theorem C63 {f w : Int32} (hv : vQ q) (hP : zPk M) (hC : zKC q M) (h : ∀ M1, zUp M M1 → zKC q M1 → Q (some (.int (aBet q f w))) M1) : zC X 63 [.ref 0, .int f, .int w] M Q := by
  have hA := hC.2.1
  have h16 := hv.1.1
  unfold aBet at h
  have h0 : ¬ bBet q f w → Q (some (.int (-2147483648))) M := by
    intro g
    have := h M (zUp_rf hP) hC
    rw [if_neg g] at this
    exact this
  rw [c63]
  simp only [w63_0, w63_1, w63_4, w63_5, zk_sI, zk_sJ, zk_sP, zn_sI, zn_sJ, zn_sP, zI_sI, zI_sJ, zI_sP, zJ_sI, zJ_sJ, zJ_sP, zP_sI, zP_sJ, zP_sP, Option.toList_some, Option.toList_none, List.cons_append, List.nil_append, zk_of hP.1, zn_of hP.1, zix, ziN, ne_eq, reduceCtorEq, not_false_eq_true, true_and, and_true, Option.getD_some, Nat.reduceLeDiff, Nat.reduceLT, c_ofNat, zkd0, zp_0_0 hP, zp_0_1 hP, zp_0_2 hP, zp_0_3 hP, zp_0_4 hP, zp_0_5 hP, zp_0_6 hP, zp_0_7 hP, zkd1, zp_1_0 hP]
  refine s37n hP hA.1 ?_
  simp only [w63_8, w63_11, w63_12, w63_15, w63_16, w63_17, w63_20, w63_22, w63_23, w63_24, w63_27, w63_28, w63_29, zk_sI, zk_sJ, zk_sP, zn_sI, zn_sJ, zn_sP, zI_sI, zI_sJ, zI_sP, zJ_sI, zJ_sJ, zJ_sP, zP_sI, zP_sJ, zP_sP, Option.toList_some, Option.toList_none, List.cons_append, List.nil_append, zk_of hP.1, zn_of hP.1, zix, ziN, ne_eq, reduceCtorEq, not_false_eq_true, true_and, and_true, Option.getD_some, Nat.reduceLeDiff, Nat.reduceLT, c_ofNat, zkd0, zp_0_0 hP, zp_0_1 hP, zp_0_2 hP, zp_0_3 hP, zp_0_4 hP, zp_0_5 hP, zp_0_6 hP, zp_0_7 hP, zkd1, zp_1_0 hP, zB_0]
  refine ⟨fun g => h0 (fun z => g z.1), fun g => ⟨fun g2 => h0 (fun z => ?_), fun g2 => ⟨fun g3 => ?_, fun g3 => h0 (fun z => g3 z.2.1.2)⟩⟩⟩
  · exact absurd (Int32.le_trans z.2.1.1 g2) (by decide)
  · have g := Classical.not_not.mp g
    have hw1 : zin w 1 5 := by
      refine ⟨?_, g3⟩
      rw [Int32.le_iff_toInt_le, t_0] at g2
      rw [Int32.le_iff_toInt_le, t_1]
      omega
    obtain ⟨f', f1, rfl⟩ := vhas_o g h16
    obtain ⟨w', w1, rfl, w0⟩ := zin_16 (h := 5) (by decide) (by decide) hw1
    have hnl := nu_lt hv f1 (show w' < 6 by omega)
    have hb : bBet q (nI f') (nI w') ↔ zok w' (nI ((qA q).2 (6 * f' + w') + 1)) := by
      unfold bBet
      rw [n_cl (by omega), n_cl (by omega)]
      exact ⟨fun z => z.2.2, fun z => ⟨g, hw1, z⟩⟩
    refine s38 hP hA.1 h16 f1 (by omega) ?_
    rw [hA.2 _ (by omega)]
    simp only [w63_32, w63_33, w63_34, w63_35, w63_36, w63_37, zk_sI, zk_sJ, zk_sP, zn_sI, zn_sJ, zn_sP, zI_sI, zI_sJ, zI_sP, zJ_sI, zJ_sJ, zJ_sP, zP_sI, zP_sJ, zP_sP, Option.toList_some, Option.toList_none, List.cons_append, List.nil_append, n_a1]
    refine s36n hP (show w' < 6 by omega) ?_
    simp only [w63_40, w63_43, w63_45, w63_46, w63_47, zk_sI, zk_sJ, zk_sP, zn_sI, zn_sJ, zn_sP, zI_sI, zI_sJ, zI_sP, zJ_sI, zJ_sJ, zJ_sP, zP_sI, zP_sJ, zP_sP, Option.toList_some, Option.toList_none, List.cons_append, List.nil_append, zk_of hP.1, zn_of hP.1, zix, ziN, ne_eq, reduceCtorEq, not_false_eq_true, true_and, and_true, Option.getD_some, Nat.reduceLeDiff, Nat.reduceLT, c_ofNat, zkd0, zp_0_0 hP, zp_0_1 hP, zp_0_2 hP, zp_0_3 hP, zp_0_4 hP, zp_0_5 hP, zp_0_6 hP, zp_0_7 hP, zB_0]
    refine ⟨fun g4 => ?_, fun g4 => h0 (fun z => g4 (fun y => y (hb.mp z)))⟩
    have g4 := Classical.not_not.mp g4
    rw [if_pos (hb.mpr g4), n_cl (by omega), n_cl (by omega)] at h
    have hv2 := vBet hv (show w' < 6 by omega) g4 (by omega)
    refine C59 hv hP hC (fun M1 u1 k1 => ?_)
    have hP1 := u1.1
    simp only [w63_50, w63_52, w63_53, w63_56, w63_57, w63_58, w63_59, w63_60, w63_61, zk_sI, zk_sJ, zk_sP, zn_sI, zn_sJ, zn_sP, zI_sI, zI_sJ, zI_sP, zJ_sI, zJ_sJ, zJ_sP, zP_sI, zP_sJ, zP_sP, Option.toList_some, Option.toList_none, List.cons_append, List.nil_append, zk_of hP1.1, zn_of hP1.1, zix, ziN, ne_eq, reduceCtorEq, not_false_eq_true, true_and, and_true, Option.getD_some, Nat.reduceLeDiff, Nat.reduceLT, c_ofNat, zkd0, zp_0_0 hP1, zp_0_1 hP1, zp_0_2 hP1, zp_0_3 hP1, zp_0_4 hP1, zp_0_5 hP1, zp_0_6 hP1, zp_0_7 hP1, zkd1, zp_1_0 hP1, n_a1]
    refine s39 hP1 k1.2.1.1 h16 f1 (by omega) ?_
    have hF2 : zF (fun c => c = 2) M1 (zf_sI M1 2 (6 * f' + w') (nI ((qA q).2 (6 * f' + w') + 1))) := zF_sI (zF_rf _ _) rfl
    have hP2 := zPk_F hP1 hF2
    have k2 : zKC (qBet q (6 * f' + w')) (zf_sI M1 2 (6 * f' + w') (nI ((qA q).2 (6 * f' + w') + 1))) := zKC_A k1 (zLO_F k1.1 hF2 (fun c x y => by omega)) (fun c j _ k => zI_ne (by omega)) ⟨k1.2.1.1, zud_I k1.2.1.2⟩
    have u2 : zUp M (zf_sI M1 2 (6 * f' + w') (nI ((qA q).2 (6 * f' + w') + 1))) := zUp_tr u1 (zUp_F hP1 hF2 (fun c hc => by omega))
    clear hF2
    generalize zf_sI M1 2 (6 * f' + w') (nI ((qA q).2 (6 * f' + w') + 1)) = M2 at *
    simp only [w63_64, w63_65, zk_sI, zk_sJ, zk_sP, zn_sI, zn_sJ, zn_sP, zI_sI, zI_sJ, zI_sP, zJ_sI, zJ_sJ, zJ_sP, zP_sI, zP_sJ, zP_sP, Option.toList_some, Option.toList_none, List.cons_append, List.nil_append, zk_of hP2.1, zn_of hP2.1, zix, ziN, ne_eq, reduceCtorEq, not_false_eq_true, true_and, and_true, Option.getD_some, Nat.reduceLeDiff, Nat.reduceLT, c_ofNat, zkd0, zp_0_0 hP2, zp_0_1 hP2, zp_0_2 hP2, zp_0_3 hP2, zp_0_4 hP2, zp_0_5 hP2, zp_0_6 hP2, zp_0_7 hP2, zkd1, zp_1_0 hP2]
    refine C59 hv2 hP2 k2 (fun M3 u3 k3 => ?_)
    have hP3 := u3.1
    simp only [w63_68, w63_70, w63_71, w63_74, w63_75, w63_76, w63_77, zk_sI, zk_sJ, zk_sP, zn_sI, zn_sJ, zn_sP, zI_sI, zI_sJ, zI_sP, zJ_sI, zJ_sJ, zJ_sP, zP_sI, zP_sJ, zP_sP, Option.toList_some, Option.toList_none, List.cons_append, List.nil_append, zk_of hP3.1, zn_of hP3.1, zix, ziN, ne_eq, reduceCtorEq, not_false_eq_true, true_and, and_true, Option.getD_some, Nat.reduceLeDiff, Nat.reduceLT, c_ofNat, zkd0, zp_0_0 hP3, zp_0_1 hP3, zp_0_2 hP3, zp_0_3 hP3, zp_0_4 hP3, zp_0_5 hP3, zp_0_6 hP3, zp_0_7 hP3, zkd1, zp_1_0 hP3]
    refine s39 (n := (qA q).1) hP3 k3.2.1.1 h16 f1 (by omega) ?_
    have hF4 : zF (fun c => c = 2) M3 (zf_sI M3 2 (6 * f' + w') (nI ((qA q).2 (6 * f' + w')))) := zF_sI (zF_rf _ _) rfl
    have k4 : zKC (uA (qBet q (6 * f' + w')) (qA q)) (zf_sI M3 2 (6 * f' + w') (nI ((qA q).2 (6 * f' + w')))) := by
      refine zKC_A k3 (zLO_F k3.1 hF4 (fun c x y => by omega)) (fun c j _ k => zI_ne (by omega)) ⟨k3.2.1.1, fun i hi => ?_⟩
      by_cases e : i = 6 * f' + w'
      · rw [e, zI_eq]
      · rw [zI_ne (fun z => e z.2), k3.2.1.2 i hi]
        show nI (zud _ _ _ i) = _
        rw [zud_ne e]
    have hfin := h _ (zUp_tr u2 (zUp_tr u3 (zUp_F hP3 hF4 (fun c hc => by omega)))) k4
    have n10 : ¬ (1 : Int32) = 0 := by decide
    generalize zchn (zpq (qBet q (6 * f' + w')) 0) = y at *
    generalize zchn (zpq q 0) = x at *
    simp only [w63_80, w63_82, w63_84, w63_87, w63_89, w63_91, w63_94, w63_96, w63_99, w63_101, w63_103, w63_104, zk_sI, zk_sJ, zk_sP, zn_sI, zn_sJ, zn_sP, zI_sI, zI_sJ, zI_sP, zJ_sI, zJ_sJ, zJ_sP, zP_sI, zP_sJ, zP_sP, Option.toList_some, Option.toList_none, List.cons_append, List.nil_append]
    refine ⟨fun g5 => ?_, fun g5 => ⟨fun g6 => ?_, fun g6 => ?_⟩⟩
    · rw [if_pos (Or.inl g5)] at hfin
      exact hfin
    · rw [if_neg (fun z => z.elim g5 g6)] at hfin
      exact hfin
    · rw [if_pos (Or.inr (Classical.not_not.mp g6))] at hfin
      exact hfin
theorem M139 {f w : Int32} (hv : vQ q) (hP : zPk M) (hM : zKM q M) (h : ∀ M1, zDn M M1 → zKM q M1 → Q (some (.int (aBet q f w))) M1) : zC X 139 [.ref 58, .int f, .int w] M Q := by
  have hA := hM.1
  have h16 := hv.1.1
  unfold aBet at h
  have h0 : ¬ bBet q f w → Q (some (.int (-2147483648))) M := by
    intro g
    have := h M (zF_rf _ _) hM
    rw [if_neg g] at this
    exact this
  rw [c139]
  simp only [w139_0, w139_1, w139_2, zk_sI, zk_sJ, zk_sP, zn_sI, zn_sJ, zn_sP, zI_sI, zI_sJ, zI_sP, zJ_sI, zJ_sJ, zJ_sP, zP_sI, zP_sJ, zP_sP, Option.toList_some, Option.toList_none, List.cons_append, List.nil_append, zk_of hP.1, zn_of hP.1, zix, ziN, ne_eq, reduceCtorEq, not_false_eq_true, true_and, and_true, Option.getD_some, Nat.reduceLeDiff, Nat.reduceLT, c_ofNat, zkd58, zp_58_1 hP, zp_58_2 hP, zp_58_6 hP, zp_58_7 hP, zp_58_10 hP, zp_58_11 hP, zp_58_12 hP, zp_58_14 hP, zp_58_15 hP, zp_58_17 hP, zp_58_18 hP, zp_58_19 hP, zp_58_20 hP, zp_58_21 hP, zp_58_22 hP, zp_58_24 hP, zp_58_26 hP, zp_58_29 hP, zp_58_32 hP, zp_58_33 hP, zp_58_34 hP, zp_58_35 hP, zp_58_36 hP, zp_58_37 hP, zp_58_38 hP, zp_58_39 hP]
  refine s106 hP h16 hA.1 ?_
  simp only [w139_5, w139_8, w139_9, w139_10, w139_11, w139_14, w139_40, w139_42, zk_sI, zk_sJ, zk_sP, zn_sI, zn_sJ, zn_sP, zI_sI, zI_sJ, zI_sP, zJ_sI, zJ_sJ, zJ_sP, zP_sI, zP_sJ, zP_sP, Option.toList_some, Option.toList_none, List.cons_append, List.nil_append, zB_0]
  refine ⟨fun g => h0 (fun z => g z.1), fun g => ?_⟩
  have g := Classical.not_not.mp g
  obtain ⟨f', f1, rfl⟩ := vhas_o g h16
  refine s103i 1 5 rfl rfl ?_
  simp only [w139_17, w139_40, w139_42, zk_sI, zk_sJ, zk_sP, zn_sI, zn_sJ, zn_sP, zI_sI, zI_sJ, zI_sP, zJ_sI, zJ_sJ, zJ_sP, zP_sI, zP_sJ, zP_sP, Option.toList_some, Option.toList_none, List.cons_append, List.nil_append, zB_0]
  refine ⟨fun g2 => h0 (fun z => g2 z.2.1), fun g2 => ?_⟩
  have hw1 := Classical.not_not.mp g2
  obtain ⟨w', w1, rfl, w0⟩ := zin_16 (h := 5) (by decide) (by decide) hw1
  have hnl := nu_lt hv f1 (show w' < 6 by omega)
  have hb : bBet q (nI f') (nI w') ↔ zok w' (nI ((qA q).2 (6 * f' + w') + 1)) := by
    unfold bBet
    rw [n_cl (by omega), n_cl (by omega)]
    exact ⟨fun z => z.2.2, fun z => ⟨g, hw1, z⟩⟩
  have e : (6 : Int32) * nI f' + nI w' = nI (6 * f' + w') := by rw [n_m6, nI_add]
  have x0 := n_cl (show 6 * f' + w' < 2 ^ 31 by omega)
  have x1 := n_in (show 6 * f' + w' < 96 by omega) (show 96 < 2 ^ 31 by decide)
  simp only [w139_20, w139_21, w139_22, w139_25, w139_27, w139_28, w139_29, w139_30, w139_31, w139_32, w139_33, w139_34, zk_sI, zk_sJ, zk_sP, zn_sI, zn_sJ, zn_sP, zI_sI, zI_sJ, zI_sP, zJ_sI, zJ_sJ, zJ_sP, zP_sI, zP_sJ, zP_sP, Option.toList_some, Option.toList_none, List.cons_append, List.nil_append, zk_of hP.1, zn_of hP.1, zix, ziN, ne_eq, reduceCtorEq, not_false_eq_true, true_and, and_true, Option.getD_some, Nat.reduceLeDiff, Nat.reduceLT, c_ofNat, zkd58, zp_58_1 hP, zp_58_2 hP, zp_58_6 hP, zp_58_7 hP, zp_58_10 hP, zp_58_11 hP, zp_58_12 hP, zp_58_14 hP, zp_58_15 hP, zp_58_17 hP, zp_58_18 hP, zp_58_19 hP, zp_58_20 hP, zp_58_21 hP, zp_58_22 hP, zp_58_24 hP, zp_58_26 hP, zp_58_29 hP, zp_58_32 hP, zp_58_33 hP, zp_58_34 hP, zp_58_35 hP, zp_58_36 hP, zp_58_37 hP, zp_58_38 hP, zp_58_39 hP, zkd59, znd59, zfx59, e, x0, x1, hA.2 (6 * f' + w') (by omega), n_a1]
  refine s105 (show w' < 6 by omega) ?_
  simp only [w139_37, w139_40, w139_42, w139_43, w139_44, zk_sI, zk_sJ, zk_sP, zn_sI, zn_sJ, zn_sP, zI_sI, zI_sJ, zI_sP, zJ_sI, zJ_sJ, zJ_sP, zP_sI, zP_sJ, zP_sP, Option.toList_some, Option.toList_none, List.cons_append, List.nil_append, zk_of hP.1, zn_of hP.1, zix, ziN, ne_eq, reduceCtorEq, not_false_eq_true, true_and, and_true, Option.getD_some, Nat.reduceLeDiff, Nat.reduceLT, c_ofNat, zkd58, zp_58_1 hP, zp_58_2 hP, zp_58_6 hP, zp_58_7 hP, zp_58_10 hP, zp_58_11 hP, zp_58_12 hP, zp_58_14 hP, zp_58_15 hP, zp_58_17 hP, zp_58_18 hP, zp_58_19 hP, zp_58_20 hP, zp_58_21 hP, zp_58_22 hP, zp_58_24 hP, zp_58_26 hP, zp_58_29 hP, zp_58_32 hP, zp_58_33 hP, zp_58_34 hP, zp_58_35 hP, zp_58_36 hP, zp_58_37 hP, zp_58_38 hP, zp_58_39 hP, zB_0]
  refine ⟨fun g4 => ?_, fun g4 => h0 (fun z => g4 (fun y => y (hb.mp z)))⟩
  have g4 := Classical.not_not.mp g4
  rw [if_pos (hb.mpr g4), n_cl (by omega), n_cl (by omega)] at h
  have hv2 := vBet hv (show w' < 6 by omega) g4 (by omega)
  refine M135 hv hP hM (fun M1 u1 k1 => ?_)
  have hP1 := zPk_F hP u1
  simp only [w139_47, w139_48, w139_49, w139_52, w139_54, w139_55, w139_56, w139_57, w139_58, w139_59, w139_60, w139_61, w139_62, w139_63, w139_64, zk_sI, zk_sJ, zk_sP, zn_sI, zn_sJ, zn_sP, zI_sI, zI_sJ, zI_sP, zJ_sI, zJ_sJ, zJ_sP, zP_sI, zP_sJ, zP_sP, Option.toList_some, Option.toList_none, List.cons_append, List.nil_append, zk_of hP1.1, zn_of hP1.1, zix, ziN, ne_eq, reduceCtorEq, not_false_eq_true, true_and, and_true, Option.getD_some, Nat.reduceLeDiff, Nat.reduceLT, c_ofNat, zkd58, zp_58_1 hP1, zp_58_2 hP1, zp_58_6 hP1, zp_58_7 hP1, zp_58_10 hP1, zp_58_11 hP1, zp_58_12 hP1, zp_58_14 hP1, zp_58_15 hP1, zp_58_17 hP1, zp_58_18 hP1, zp_58_19 hP1, zp_58_20 hP1, zp_58_21 hP1, zp_58_22 hP1, zp_58_24 hP1, zp_58_26 hP1, zp_58_29 hP1, zp_58_32 hP1, zp_58_33 hP1, zp_58_34 hP1, zp_58_35 hP1, zp_58_36 hP1, zp_58_37 hP1, zp_58_38 hP1, zp_58_39 hP1, zkd59, znd59, zfx59, e, x0, x1, k1.1.2 (6 * f' + w') (by omega), n_a1]
  have hF2 : zF (fun c => c = 59) M1 (zf_sI M1 59 (6 * f' + w') (nI ((qA q).2 (6 * f' + w') + 1))) := zF_sI (zF_rf _ _) rfl
  have hP2 := zPk_F hP1 hF2
  have k2 : zKM (qBet q (6 * f' + w')) (zf_sI M1 59 (6 * f' + w') (nI ((qA q).2 (6 * f' + w') + 1))) := zKM_A k1 (fun c j _ k => zI_ne (by omega)) ⟨(zI_ne (by omega)).trans k1.1.1, zud_I k1.1.2⟩
  have u2 : zDn M (zf_sI M1 59 (6 * f' + w') (nI ((qA q).2 (6 * f' + w') + 1))) := zF_tr u1 (zF_mo hF2 (fun c hc => by omega))
  clear hF2
  generalize zf_sI M1 59 (6 * f' + w') (nI ((qA q).2 (6 * f' + w') + 1)) = M2 at *
  refine M135 hv2 hP2 k2 (fun M3 u3 k3 => ?_)
  have hP3 := zPk_F hP2 u3
  have e3 : zf_I M3 59 (6 * f' + w') = nI ((qA q).2 (6 * f' + w') + 1) := by
    rw [k3.1.2 (6 * f' + w') (by show _ < 6 * (qA q).1; omega)]
    show nI (zud _ _ _ _) = _
    rw [zud_at]
  have em : nI ((qA q).2 (6 * f' + w') + 1) - 1 = nI ((qA q).2 (6 * f' + w')) := nI_pred _
  have hF4 : zF (fun c => c = 59) M3 (zf_sI M3 59 (6 * f' + w') (nI ((qA q).2 (6 * f' + w')))) := zF_sI (zF_rf _ _) rfl
  have k4 : zKM (uA (qBet q (6 * f' + w')) (qA q)) (zf_sI M3 59 (6 * f' + w') (nI ((qA q).2 (6 * f' + w')))) := by
    refine zKM_A k3 (fun c j _ k => zI_ne (by omega)) ⟨(zI_ne (by omega)).trans k3.1.1, fun i hi => ?_⟩
    by_cases e : i = 6 * f' + w'
    · rw [e, zI_eq]
    · rw [zI_ne (fun z => e z.2), k3.1.2 i hi]
      show nI (zud _ _ _ i) = _
      rw [zud_ne e]
  have hfin := h _ (zF_tr u2 (zF_tr u3 (zF_mo hF4 (fun c hc => by omega)))) k4
  generalize zchn (zpq (qBet q (6 * f' + w')) 0) = y at *
  generalize zchn (zpq q 0) = x at *
  simp only [w139_67, w139_69, w139_70, w139_73, w139_75, w139_76, w139_77, w139_78, w139_79, w139_80, w139_81, w139_82, w139_83, w139_84, w139_85, w139_87, w139_90, w139_92, w139_94, w139_97, w139_99, w139_102, w139_104, w139_105, w139_106, zk_sI, zk_sJ, zk_sP, zn_sI, zn_sJ, zn_sP, zI_sI, zI_sJ, zI_sP, zJ_sI, zJ_sJ, zJ_sP, zP_sI, zP_sJ, zP_sP, Option.toList_some, Option.toList_none, List.cons_append, List.nil_append, zk_of hP3.1, zn_of hP3.1, zix, ziN, ne_eq, reduceCtorEq, not_false_eq_true, true_and, and_true, Option.getD_some, Nat.reduceLeDiff, Nat.reduceLT, c_ofNat, zkd58, zp_58_1 hP3, zp_58_2 hP3, zp_58_6 hP3, zp_58_7 hP3, zp_58_10 hP3, zp_58_11 hP3, zp_58_12 hP3, zp_58_14 hP3, zp_58_15 hP3, zp_58_17 hP3, zp_58_18 hP3, zp_58_19 hP3, zp_58_20 hP3, zp_58_21 hP3, zp_58_22 hP3, zp_58_24 hP3, zp_58_26 hP3, zp_58_29 hP3, zp_58_32 hP3, zp_58_33 hP3, zp_58_34 hP3, zp_58_35 hP3, zp_58_36 hP3, zp_58_37 hP3, zp_58_38 hP3, zp_58_39 hP3, zkd59, znd59, zfx59, e, x0, x1, e3, em]
  refine ⟨fun g5 => ?_, fun g5 => ⟨fun g6 => ?_, fun g6 => ?_⟩⟩
  · rw [if_pos (Or.inl g5)] at hfin
    exact hfin
  · rw [if_neg (fun z => z.elim g5 g6)] at hfin
    exact hfin
  · rw [if_pos (Or.inr (Classical.not_not.mp g6))] at hfin
    exact hfin
end ZBt
