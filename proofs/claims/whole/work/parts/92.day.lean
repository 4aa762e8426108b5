/-! ===== fight, rest, purse ===== -/
abbrev bFight (q : tQ) (a b c : Int32) : Prop := bRow (qA q).1 a b c ∧ a ≠ -1
def aFight (q : tQ) (a b c : Int32) : Int32 := if bFight q a b c then (if (qD q).1 = 6 then -4 else nI ((qD q).1 + 1)) else -2
def nFight (q : tQ) (a b c : Int32) : tQ := if bFight q a b c then (if (qD q).1 = 6 then q else uD q ((qD q).1 + 1, zud (qD q).2.1 (qD q).1 (rRow a b c), (qD q).2.2)) else q
theorem vFight {q : tQ} (a b c : Int32) (hv : vQ q) : vQ (nFight q a b c) := by
  unfold nFight
  split
  next g =>
    split
    · exact hv
    next g2 =>
      have hr := (rRow_e g.1 hv.1.1).1
      obtain ⟨d1, d2, d3, d4⟩ := hv.2.2.2.1
      refine ⟨hv.1, hv.2.1, hv.2.2.1, ⟨?_, d2, d3, fun f hf => ?_⟩, hv.2.2.2.2⟩
      · show (qD q).1 + 1 ≤ 6
        omega
      · change f < (qD q).1 + 1 at hf
        show vRow _ (zud (qD q).2.1 (qD q).1 (rRow a b c) f)
        unfold zud
        by_cases e : f = (qD q).1
        · rw [if_pos e]
          exact hr
        · rw [if_neg e]
          exact d4 f (by omega)
  next => exact hv
def nRest (q : tQ) : tQ := uD q (0, (qD q).2)
theorem vRest {q : tQ} (hv : vQ q) : vQ (nRest q) := by
  obtain ⟨d1, d2, d3, d4⟩ := hv.2.2.2.1
  exact ⟨hv.1, hv.2.1, hv.2.2.1, ⟨Nat.zero_le _, d2, d3, fun f hf => absurd hf (Nat.not_lt_zero f)⟩, hv.2.2.2.2⟩
abbrev bPurse (p b : Int32) : Prop := zin p 0 6 ∧ zin b 1 9
def aPurse (p b : Int32) : Int32 := if bPurse p b then 1 else -2
def nPurse (q : tQ) (p b : Int32) : tQ := if bPurse p b then uD q ((qD q).1, (qD q).2.1, p.toNatClampNeg, b.toNatClampNeg) else q
theorem vPurse {q : tQ} (p b : Int32) (hv : vQ q) : vQ (nPurse q p b) := by
  unfold nPurse
  split
  next g =>
    obtain ⟨d1, d2, d3, d4⟩ := hv.2.2.2.1
    obtain ⟨p', p1, rfl⟩ := zin_o (n := 6) rfl (by decide) g.1
    obtain ⟨b', b1, rfl, -⟩ := zin_16 (h := 9) (by decide) (by decide) g.2
    refine ⟨hv.1, hv.2.1, hv.2.2.1, ⟨d1, ?_, ?_, d4⟩, hv.2.2.2.2⟩
    · show (nI p').toNatClampNeg ≤ 6
      rw [n_cl (by omega)]
      exact p1
    · show (nI b').toNatClampNeg ≤ 9
      rw [n_cl (by omega)]
      exact b1
  next => exact hv
section ZDy
variable {X : zf_X} {M : zf_M} {Q : Option Value → zf_M → Prop} {q : tQ}
theorem zp27 (hP : zPk M) {d : Nat} (hd : d < 6) : zf_P M 27 d = some (30 + 2 * d) ∧ zkd (30 + 2 * d) = 6 := by
  rcases k6 hd with rfl | rfl | rfl | rfl | rfl | rfl
  · exact ⟨zp_27_0 hP, rfl⟩
  · exact ⟨zp_27_1 hP, rfl⟩
  · exact ⟨zp_27_2 hP, rfl⟩
  · exact ⟨zp_27_3 hP, rfl⟩
  · exact ⟨zp_27_4 hP, rfl⟩
  · exact ⟨zp_27_5 hP, rfl⟩
theorem C67 (hP : zPk M) (hC : zKC q M) (h : ∀ M1, zUp M M1 → zKC (nRest q) M1 → Q (some (.int (nI (qD q).1))) M1) : zC X 67 [.ref 0] M Q := by
  have hD := hC.2.2.2.2.1
  rw [c67]
  simp only [w67_0, w67_1, w67_4, w67_7, w67_8, w67_9, w67_12, w67_13, w67_16, w67_17, zk_sI, zk_sJ, zk_sP, zn_sI, zn_sJ, zn_sP, zI_sI, zI_sJ, zI_sP, zJ_sI, zJ_sJ, zJ_sP, zP_sI, zP_sJ, zP_sP, Option.toList_some, Option.toList_none, List.cons_append, List.nil_append, zk_of hP.1, zn_of hP.1, zix, ziN, ne_eq, reduceCtorEq, not_false_eq_true, true_and, and_true, Option.getD_some, Nat.reduceLeDiff, Nat.reduceLT, c_ofNat, zkd0, zp_0_0 hP, zp_0_1 hP, zp_0_2 hP, zp_0_3 hP, zp_0_4 hP, zp_0_5 hP, zp_0_6 hP, zp_0_7 hP, zkd26, zp_26_0 hP, zp_26_1 hP, zp_26_2 hP, hD.1]
  have hF : zF (fun c => c = 26) M (zf_sI M 26 3 0) := zF_sI (zF_rf _ _) rfl
  refine h _ (zUp_F hP hF (fun c hc => by omega)) (zKC_D hC (zLO_F hC.1 hF (fun c x y => by omega)) (fun c j kc k => ?_) ⟨zI_eq, ?_, ?_, fun f hf => absurd hf (Nat.not_lt_zero f)⟩)
  · unfold kC at kc
    exact zI_ne (by omega)
  · rw [zI_ne (by omega)]
    exact hD.2.1
  · rw [zI_ne (by omega)]
    exact hD.2.2.1
theorem M143 (hP : zPk M) (hM : zKM q M) (h : ∀ M1, zDn M M1 → zKM (nRest q) M1 → Q (some (.int (nI (qD q).1))) M1) : zC X 143 [.ref 58] M Q := by
  have hD := hM.2.2.2.1
  rw [c143]
  simp only [w143_0, w143_1, w143_4, w143_5, w143_6, w143_7, w143_10, w143_11, zk_sI, zk_sJ, zk_sP, zn_sI, zn_sJ, zn_sP, zI_sI, zI_sJ, zI_sP, zJ_sI, zJ_sJ, zJ_sP, zP_sI, zP_sJ, zP_sP, Option.toList_some, Option.toList_none, List.cons_append, List.nil_append, zk_of hP.1, zn_of hP.1, zix, ziN, ne_eq, reduceCtorEq, not_false_eq_true, true_and, and_true, Option.getD_some, Nat.reduceLeDiff, Nat.reduceLT, c_ofNat, zkd58, zp_58_1 hP, zp_58_2 hP, zp_58_6 hP, zp_58_7 hP, zp_58_10 hP, zp_58_11 hP, zp_58_12 hP, zp_58_14 hP, zp_58_15 hP, zp_58_17 hP, zp_58_18 hP, zp_58_19 hP, zp_58_20 hP, zp_58_21 hP, zp_58_22 hP, zp_58_24 hP, zp_58_26 hP, zp_58_29 hP, zp_58_32 hP, zp_58_33 hP, zp_58_34 hP, zp_58_35 hP, zp_58_36 hP, zp_58_37 hP, zp_58_38 hP, zp_58_39 hP, hD.1]
  refine h _ (zF_sI (zF_rf _ _) (by omega)) (zKM_D hM (fun c j kc k => zI_ne (by omega)) ⟨zI_eq, ?_, ?_, fun f hf => absurd hf (Nat.not_lt_zero f)⟩)
  · rw [zI_ne (by omega)]
    exact hD.2.1
  · rw [zI_ne (by omega)]
    exact hD.2.2.1
theorem C68 {p b : Int32} (hP : zPk M) (hC : zKC q M) (h : ∀ M1, zUp M M1 → zKC (nPurse q p b) M1 → Q (some (.int (aPurse p b))) M1) : zC X 68 [.ref 0, .int p, .int b] M Q := by
  have hD := hC.2.2.2.2.1
  unfold nPurse aPurse at h
  have h0 : ¬ bPurse p b → Q (some (.int (-2))) M := by
    intro g
    have := h M (zUp_rf hP)
    rw [if_neg g, if_neg g] at this
    exact this hC
  rw [c68]
  simp only [w68_0, w68_1, w68_4, w68_5, w68_7, w68_10, w68_11, w68_12, w68_15, w68_16, w68_18, w68_21, w68_23, w68_24, w68_25, w68_28, w68_29, w68_32, w68_33, w68_36, w68_37, w68_40, w68_41, zk_sI, zk_sJ, zk_sP, zn_sI, zn_sJ, zn_sP, zI_sI, zI_sJ, zI_sP, zJ_sI, zJ_sJ, zJ_sP, zP_sI, zP_sJ, zP_sP, Option.toList_some, Option.toList_none, List.cons_append, List.nil_append, zk_of hP.1, zn_of hP.1, zix, ziN, ne_eq, reduceCtorEq, not_false_eq_true, true_and, and_true, Option.getD_some, Nat.reduceLeDiff, Nat.reduceLT, c_ofNat, zkd0, zp_0_0 hP, zp_0_1 hP, zp_0_2 hP, zp_0_3 hP, zp_0_4 hP, zp_0_5 hP, zp_0_6 hP, zp_0_7 hP, zkd26, zp_26_0 hP, zp_26_1 hP, zp_26_2 hP]
  refine ⟨fun g => h0 (fun z => Int32.not_lt.mpr z.1.1 g), fun g1 => ⟨fun g => h0 (fun z => Int32.not_lt.mpr z.1.2 g), fun g2 => ⟨fun g => h0 (fun z => Int32.not_lt.mpr z.2.1 g), fun g3 => ⟨fun g4 => ?_, fun g => h0 (fun z => g z.2.2)⟩⟩⟩⟩
  have hb : bPurse p b := ⟨⟨Int32.not_lt.mp g1, Int32.not_lt.mp g2⟩, Int32.not_lt.mp g3, g4⟩
  rw [if_pos hb, if_pos hb] at h
  obtain ⟨p', p1, rfl⟩ := zin_o (n := 6) rfl (by decide) hb.1
  obtain ⟨b', b1, rfl, -⟩ := zin_16 (h := 9) (by decide) (by decide) hb.2
  rw [n_cl (by omega), n_cl (by omega)] at h
  have hF : zF (fun c => c = 26) M (zf_sI (zf_sI M 26 4 (nI p')) 26 5 (nI b')) := zF_sI (zF_sI (zF_rf _ _) rfl) rfl
  refine h _ (zUp_F hP hF (fun c hc => by omega)) (zKC_D hC (zLO_F hC.1 hF (fun c x y => by omega)) (fun c j kc k => ?_) ⟨?_, ?_, zI_eq, fun f hf hf6 => ⟨?_, fun j hj => ?_⟩⟩)
  · unfold kC at kc
    rw [zI_ne (by omega), zI_ne (by omega)]
  · rw [zI_ne (by omega), zI_ne (by omega)]
    exact hD.1
  · rw [zI_ne (by omega), zI_eq]
  · rw [zI_ne (by omega), zI_ne (by omega)]
    exact (hD.2.2.2 f hf hf6).1
  · rw [zI_ne (by omega), zI_ne (by omega)]
    exact (hD.2.2.2 f hf hf6).2 j hj
theorem M144 {p b : Int32} (hP : zPk M) (hM : zKM q M) (h : ∀ M1, zDn M M1 → zKM (nPurse q p b) M1 → Q (some (.int (aPurse p b))) M1) : zC X 144 [.ref 58, .int p, .int b] M Q := by
  have hD := hM.2.2.2.1
  unfold nPurse aPurse at h
  have h0 : ¬ bPurse p b → Q (some (.int (-2))) M := by
    intro g
    have := h M (zF_rf _ _)
    rw [if_neg g, if_neg g] at this
    exact this hM
  rw [c144]
  simp only [w144_0, w144_1, w144_2, w144_3, w144_6, w144_9, w144_12, w144_13, w144_14, w144_15, w144_18, w144_21, w144_24, w144_26, w144_27, w144_28, w144_29, w144_32, w144_33, w144_34, w144_37, w144_38, zk_sI, zk_sJ, zk_sP, zn_sI, zn_sJ, zn_sP, zI_sI, zI_sJ, zI_sP, zJ_sI, zJ_sJ, zJ_sP, zP_sI, zP_sJ, zP_sP, Option.toList_some, Option.toList_none, List.cons_append, List.nil_append]
  refine s103i 0 6 rfl rfl ?_
  simp only [w144_0, w144_1, w144_2, w144_3, w144_6, w144_9, w144_12, w144_13, w144_14, w144_15, w144_18, w144_21, w144_24, w144_26, w144_27, w144_28, w144_29, w144_32, w144_33, w144_34, w144_37, w144_38, zk_sI, zk_sJ, zk_sP, zn_sI, zn_sJ, zn_sP, zI_sI, zI_sJ, zI_sP, zJ_sI, zJ_sJ, zJ_sP, zP_sI, zP_sJ, zP_sP, Option.toList_some, Option.toList_none, List.cons_append, List.nil_append, zB_0]
  refine ⟨fun g => h0 (fun z => g z.1), fun g1 => ?_⟩
  refine s103i 1 9 rfl rfl ?_
  simp only [w144_0, w144_1, w144_2, w144_3, w144_6, w144_9, w144_12, w144_13, w144_14, w144_15, w144_18, w144_21, w144_24, w144_26, w144_27, w144_28, w144_29, w144_32, w144_33, w144_34, w144_37, w144_38, zk_sI, zk_sJ, zk_sP, zn_sI, zn_sJ, zn_sP, zI_sI, zI_sJ, zI_sP, zJ_sI, zJ_sJ, zJ_sP, zP_sI, zP_sJ, zP_sP, Option.toList_some, Option.toList_none, List.cons_append, List.nil_append, zk_of hP.1, zn_of hP.1, zix, ziN, ne_eq, reduceCtorEq, not_false_eq_true, true_and, and_true, Option.getD_some, Nat.reduceLeDiff, Nat.reduceLT, c_ofNat, zkd58, zp_58_1 hP, zp_58_2 hP, zp_58_6 hP, zp_58_7 hP, zp_58_10 hP, zp_58_11 hP, zp_58_12 hP, zp_58_14 hP, zp_58_15 hP, zp_58_17 hP, zp_58_18 hP, zp_58_19 hP, zp_58_20 hP, zp_58_21 hP, zp_58_22 hP, zp_58_24 hP, zp_58_26 hP, zp_58_29 hP, zp_58_32 hP, zp_58_33 hP, zp_58_34 hP, zp_58_35 hP, zp_58_36 hP, zp_58_37 hP, zp_58_38 hP, zp_58_39 hP, zB_0]
  refine ⟨fun g2 => ?_, fun g => h0 (fun z => g (fun y => y z.2))⟩
  have hb : bPurse p b := ⟨Classical.not_not.mp g1, Classical.not_not.mp g2⟩
  rw [if_pos hb, if_pos hb] at h
  obtain ⟨p', p1, rfl⟩ := zin_o (n := 6) rfl (by decide) hb.1
  obtain ⟨b', b1, rfl, -⟩ := zin_16 (h := 9) (by decide) (by decide) hb.2
  rw [n_cl (by omega), n_cl (by omega)] at h
  refine h _ (zF_sI (zF_sI (zF_rf _ _) (by omega)) (by omega)) (zKM_D hM (fun c j kc k => ?_) ⟨?_, ?_, zI_eq, fun f hf j hj => ?_⟩)
  · rw [zI_ne (by omega), zI_ne (by omega)]
  · rw [zI_ne (by omega), zI_ne (by omega)]
    exact hD.1
  · rw [zI_ne (by omega), zI_eq]
  · rw [zI_ne (by omega), zI_ne (by omega)]
    exact hD.2.2.2 f hf j hj
theorem C66 {a b c : Int32} (hv : vQ q) (hP : zPk M) (hC : zKC q M) (h : ∀ M1, zUp M M1 → zKC (nFight q a b c) M1 → Q (some (.int (aFight q a b c))) M1) : zC X 66 [.ref 0, .int a, .int b, .int c] M Q := by
  have h16 := hv.1.1
  have hD := hC.2.2.2.2.1
  have hd6 := hv.2.2.2.1.1
  unfold nFight aFight at h
  have h0 : ¬ bFight q a b c → Q (some (.int (-2))) M := by
    intro g
    have := h M (zUp_rf hP)
    rw [if_neg g, if_neg g] at this
    exact this hC
  rw [c66]
  simp only [w66_0, w66_1, w66_2, w66_3, w66_4, w66_7, w66_9, w66_11, w66_12, w66_15, w66_17, w66_18, w66_19, w66_22, w66_25, w66_27, w66_30, w66_32, w66_33, w66_34, w66_37, w66_40, w66_41, w66_44, w66_47, w66_48, w66_49, w66_50, w66_51, w66_53, w66_56, w66_57, w66_60, w66_61, w66_64, w66_65, w66_66, w66_69, w66_70, w66_73, w66_76, zk_sI, zk_sJ, zk_sP, zn_sI, zn_sJ, zn_sP, zI_sI, zI_sJ, zI_sP, zJ_sI, zJ_sJ, zJ_sP, zP_sI, zP_sJ, zP_sP, Option.toList_some, Option.toList_none, List.cons_append, List.nil_append, zk_of hP.1, zn_of hP.1, zix, ziN, ne_eq, reduceCtorEq, not_false_eq_true, true_and, and_true, Option.getD_some, Nat.reduceLeDiff, Nat.reduceLT, c_ofNat, zkd0, zp_0_0 hP, zp_0_1 hP, zp_0_2 hP, zp_0_3 hP, zp_0_4 hP, zp_0_5 hP, zp_0_6 hP, zp_0_7 hP]
  refine s90 hP hC.2.1.1 ?_
  by_cases hb : bRow (qA q).1 a b c
  · rw [if_pos hb]
    have h3 := rSize_le a b c
    have hz : rSize a b c < 1 ↔ a = -1 := by
      unfold rSize
      by_cases ea : a = -1
      · rw [if_pos ea]
        exact ⟨fun _ => ea, fun _ => by decide⟩
      · rw [if_neg ea]
        refine ⟨fun z => ?_, fun z => absurd z ea⟩
        split at z
        · omega
        · split at z <;> omega
    have c6 : (6 : Int32) = nI 6 := rfl
    simp only [w66_0, w66_1, w66_2, w66_3, w66_4, w66_7, w66_9, w66_11, w66_12, w66_15, w66_17, w66_18, w66_19, w66_22, w66_25, w66_27, w66_30, w66_32, w66_33, w66_34, w66_37, w66_40, w66_41, w66_44, w66_47, w66_48, w66_49, w66_50, w66_51, w66_53, w66_56, w66_57, w66_60, w66_61, w66_64, w66_65, w66_66, w66_69, w66_70, w66_73, w66_76, zk_sI, zk_sJ, zk_sP, zn_sI, zn_sJ, zn_sP, zI_sI, zI_sJ, zI_sP, zJ_sI, zJ_sJ, zJ_sP, zP_sI, zP_sJ, zP_sP, Option.toList_some, Option.toList_none, List.cons_append, List.nil_append, zk_of hP.1, zn_of hP.1, zix, ziN, ne_eq, reduceCtorEq, not_false_eq_true, true_and, and_true, Option.getD_some, Nat.reduceLeDiff, Nat.reduceLT, c_ofNat, zkd0, zp_0_0 hP, zp_0_1 hP, zp_0_2 hP, zp_0_3 hP, zp_0_4 hP, zp_0_5 hP, zp_0_6 hP, zp_0_7 hP, zkd26, zp_26_0 hP, zp_26_1 hP, zp_26_2 hP, zkd27, znd27, zfx27, zp_27_0 hP, zp_27_1 hP, zp_27_2 hP, zp_27_3 hP, zp_27_4 hP, zp_27_5 hP, hD.1, c6]
    rw [c_1, n_le (by decide) (by omega), n_lt (by omega) (by decide)]
    refine ⟨fun g => ?_, fun g => h0 (fun z => z.2 (hz.mp (by omega)))⟩
    have hbs : bFight q a b c := ⟨hb, fun z => by have := hz.mpr z; omega⟩
    rw [if_pos hbs, if_pos hbs] at h
    refine ⟨fun g2 => ?_, fun g2 => ?_⟩
    · rw [if_neg (show ¬ (qD q).1 = 6 by omega), if_neg (show ¬ (qD q).1 = 6 by omega)] at h
      obtain ⟨z27, zk27⟩ := zp27 hP (d := (qD q).1) (by omega)
      simp only [n_cl (show (qD q).1 < 2 ^ 31 by omega), n_in (show (qD q).1 < 6 by omega) (show 6 < 2 ^ 31 by decide), z27, zk27, Option.getD_some, true_or, reduceCtorEq, not_false_eq_true, true_and]
      refine s41 (a := 30 + 2 * (qD q).1) (zRw_of hP (by omega)) ?_
      have hF : zF (fun c => 30 ≤ c ∧ c ≤ 41) M (zf_sI (zf_sI (zf_sI (zf_sI M (30 + 2 * (qD q).1 + 1) 0 a) (30 + 2 * (qD q).1 + 1) 1 b) (30 + 2 * (qD q).1 + 1) 2 c) (30 + 2 * (qD q).1) 1 (nI (rSize a b c))) := zF_sI (zF_sI (zF_sI (zF_sI (zF_rf _ _) (by omega)) (by omega)) (by omega)) (by omega)
      have hP2 := zPk_F hP hF
      have e26 := (hF.2.1 26 (by omega) 3).1.trans hD.1
      have w0 : zf_I (zf_sI (zf_sI (zf_sI (zf_sI M (30 + 2 * (qD q).1 + 1) 0 a) (30 + 2 * (qD q).1 + 1) 1 b) (30 + 2 * (qD q).1 + 1) 2 c) (30 + 2 * (qD q).1) 1 (nI (rSize a b c))) (30 + 2 * (qD q).1) 1 = nI (rSize a b c) := zI_eq
      have w1 : ∀ j, j < 3 → zf_I (zf_sI (zf_sI (zf_sI (zf_sI M (30 + 2 * (qD q).1 + 1) 0 a) (30 + 2 * (qD q).1 + 1) 1 b) (30 + 2 * (qD q).1 + 1) 2 c) (30 + 2 * (qD q).1) 1 (nI (rSize a b c))) (30 + 2 * (qD q).1 + 1) j = zvo (zat (rRow a b c) j) := by
        obtain ⟨-, r0, r1, r2⟩ := rRow_e hb h16
        intro j hj
        rcases (show j = 0 ∨ j = 1 ∨ j = 2 by omega) with rfl | rfl | rfl
        · rw [zI_ne (by omega), zI_ne (by omega), zI_ne (by omega), zI_eq]
          exact r0.symm
        · rw [zI_ne (by omega), zI_ne (by omega), zI_eq]
          exact r1.symm
        · rw [zI_ne (by omega), zI_eq]
          exact r2.symm
      have w2 : ∀ c' j, c' ≠ 30 + 2 * (qD q).1 → c' ≠ 30 + 2 * (qD q).1 + 1 → zf_I (zf_sI (zf_sI (zf_sI (zf_sI M (30 + 2 * (qD q).1 + 1) 0 a) (30 + 2 * (qD q).1 + 1) 1 b) (30 + 2 * (qD q).1 + 1) 2 c) (30 + 2 * (qD q).1) 1 (nI (rSize a b c))) c' j = zf_I M c' j := by
        intro c' j x1 x2
        rw [zI_ne (by omega), zI_ne (by omega), zI_ne (by omega), zI_ne (by omega)]
      generalize zf_sI (zf_sI (zf_sI (zf_sI M (30 + 2 * (qD q).1 + 1) 0 a) (30 + 2 * (qD q).1 + 1) 1 b) (30 + 2 * (qD q).1 + 1) 2 c) (30 + 2 * (qD q).1) 1 (nI (rSize a b c)) = M2 at *
      have e1 : nI (qD q).1 + nI 1 = nI ((qD q).1 + 1) := nI_add _ _
      simp only [w66_56, w66_57, w66_60, w66_61, w66_64, w66_65, w66_66, w66_69, w66_70, w66_73, w66_76, zk_sI, zk_sJ, zk_sP, zn_sI, zn_sJ, zn_sP, zI_sI, zI_sJ, zI_sP, zJ_sI, zJ_sJ, zJ_sP, zP_sI, zP_sJ, zP_sP, Option.toList_some, Option.toList_none, List.cons_append, List.nil_append, zk_of hP2.1, zn_of hP2.1, zix, ziN, ne_eq, reduceCtorEq, not_false_eq_true, true_and, and_true, Option.getD_some, Nat.reduceLeDiff, Nat.reduceLT, c_ofNat, zkd0, zp_0_0 hP2, zp_0_1 hP2, zp_0_2 hP2, zp_0_3 hP2, zp_0_4 hP2, zp_0_5 hP2, zp_0_6 hP2, zp_0_7 hP2, zkd26, zp_26_0 hP2, zp_26_1 hP2, zp_26_2 hP2, e26, e1, if_true]
      have hF3 : zF (fun c => c = 26 ∨ 30 ≤ c ∧ c ≤ 41) M (zf_sI M2 26 3 (nI ((qD q).1 + 1))) := zF_sI (zF_mo hF (fun c hc => Or.inr hc)) (Or.inl rfl)
      refine h _ (zUp_F hP hF3 (fun c hc => by omega)) (zKC_D hC (zLO_F hC.1 hF3 (fun c x y => by omega)) (fun c j kc k => ?_) ⟨zI_eq, ?_, ?_, fun f hf hf6 => ?_⟩)
      · unfold kC at kc
        rw [zI_ne (by omega)]
        exact w2 c j (by omega) (by omega)
      · rw [zI_ne (by omega), w2 _ _ (by omega) (by omega)]
        exact hD.2.1
      · rw [zI_ne (by omega), w2 _ _ (by omega) (by omega)]
        exact hD.2.2.1
      · change f < (qD q).1 + 1 at hf
        show _ = nI (zud (qD q).2.1 (qD q).1 (rRow a b c) f).1 ∧ ∀ j, j < (zud (qD q).2.1 (qD q).1 (rRow a b c) f).1 → _ = nI ((zud (qD q).2.1 (qD q).1 (rRow a b c) f).2 j)
        unfold zud
        by_cases e : f = (qD q).1
        · rw [if_pos e, e]
          refine ⟨by rw [zI_ne (by omega)]; exact w0, fun j hj => ?_⟩
          change j < rSize a b c at hj
          have hj' : j < (rRow a b c).1 := hj
          rw [zI_ne (by omega), w1 j (by omega), zat, if_pos hj']
          rfl
        · rw [if_neg e]
          refine ⟨?_, fun j hj => ?_⟩
          · rw [zI_ne (by omega), w2 _ _ (by omega) (by omega)]
            exact (hD.2.2.2 f (by omega) hf6).1
          · rw [zI_ne (by omega), w2 _ _ (by omega) (by omega)]
            exact (hD.2.2.2 f (by omega) hf6).2 j hj
    · have := h M (zUp_rf hP)
      rw [if_pos (show (qD q).1 = 6 by omega), if_pos (show (qD q).1 = 6 by omega)] at this
      exact this hC
  · rw [if_neg hb]
    simp only [w66_0, w66_1, w66_2, w66_3, w66_4, w66_7, w66_9, w66_11, w66_12, w66_15, w66_17, w66_18, w66_19, w66_22, w66_25, w66_27, w66_30, w66_32, w66_33, w66_34, w66_37, w66_40, w66_41, w66_44, w66_47, w66_48, w66_49, w66_50, w66_51, w66_53, w66_56, w66_57, w66_60, w66_61, w66_64, w66_65, w66_66, w66_69, w66_70, w66_73, w66_76, zk_sI, zk_sJ, zk_sP, zn_sI, zn_sJ, zn_sP, zI_sI, zI_sJ, zI_sP, zJ_sI, zJ_sJ, zJ_sP, zP_sI, zP_sJ, zP_sP, Option.toList_some, Option.toList_none, List.cons_append, List.nil_append]
    exact ⟨fun z => absurd z (by decide), fun _ => h0 (fun z => hb z.1)⟩
theorem M142 {a b c : Int32} (hv : vQ q) (hP : zPk M) (hM : zKM q M) (h : ∀ M1, zDn M M1 → zKM (nFight q a b c) M1 → Q (some (.int (aFight q a b c))) M1) : zC X 142 [.ref 58, .int a, .int b, .int c] M Q := by
  have h16 := hv.1.1
  have hD := hM.2.2.2.1
  have hd6 := hv.2.2.2.1.1
  unfold nFight aFight at h
  have h0 : ¬ bFight q a b c → Q (some (.int (-2))) M := by
    intro g
    have := h M (zF_rf _ _)
    rw [if_neg g, if_neg g] at this
    exact this hM
  rw [c142]
  simp only [w142_0, w142_1, w142_2, w142_3, w142_4, w142_7, w142_10, w142_11, w142_12, w142_15, w142_17, w142_18, w142_19, w142_22, w142_24, w142_27, w142_29, w142_30, w142_31, w142_34, w142_35, w142_36, w142_39, w142_40, w142_41, w142_42, w142_43, w142_46, w142_47, w142_48, w142_51, w142_52, w142_53, w142_54, w142_55, w142_56, w142_57, w142_60, w142_61, w142_62, w142_65, w142_66, w142_67, w142_68, w142_69, w142_70, w142_71, w142_72, w142_75, w142_76, w142_77, w142_80, w142_81, w142_84, zk_sI, zk_sJ, zk_sP, zn_sI, zn_sJ, zn_sP, zI_sI, zI_sJ, zI_sP, zJ_sI, zJ_sJ, zJ_sP, zP_sI, zP_sJ, zP_sP, Option.toList_some, Option.toList_none, List.cons_append, List.nil_append, zk_of hP.1, zn_of hP.1, zix, ziN, ne_eq, reduceCtorEq, not_false_eq_true, true_and, and_true, Option.getD_some, Nat.reduceLeDiff, Nat.reduceLT, c_ofNat, zkd58, zp_58_1 hP, zp_58_2 hP, zp_58_6 hP, zp_58_7 hP, zp_58_10 hP, zp_58_11 hP, zp_58_12 hP, zp_58_14 hP, zp_58_15 hP, zp_58_17 hP, zp_58_18 hP, zp_58_19 hP, zp_58_20 hP, zp_58_21 hP, zp_58_22 hP, zp_58_24 hP, zp_58_26 hP, zp_58_29 hP, zp_58_32 hP, zp_58_33 hP, zp_58_34 hP, zp_58_35 hP, zp_58_36 hP, zp_58_37 hP, zp_58_38 hP, zp_58_39 hP]
  refine s110 hP h16 hM.1.1 ?_
  have c6 : (6 : Int32) = nI 6 := rfl
  have y2 : nI (3 * (qD q).1) + 2 = nI (3 * (qD q).1 + 2) := nI_add _ 2
  have i18 : (18 : Nat) < 2 ^ 31 := by decide
  simp only [w142_7, w142_10, w142_11, w142_12, w142_15, w142_17, w142_18, w142_19, w142_22, w142_24, w142_27, w142_29, zk_sI, zk_sJ, zk_sP, zn_sI, zn_sJ, zn_sP, zI_sI, zI_sJ, zI_sP, zJ_sI, zJ_sJ, zJ_sP, zP_sI, zP_sJ, zP_sP, Option.toList_some, Option.toList_none, List.cons_append, List.nil_append, zk_of hP.1, zn_of hP.1, zix, ziN, ne_eq, reduceCtorEq, not_false_eq_true, true_and, and_true, Option.getD_some, Nat.reduceLeDiff, Nat.reduceLT, c_ofNat, zkd58, zp_58_1 hP, zp_58_2 hP, zp_58_6 hP, zp_58_7 hP, zp_58_10 hP, zp_58_11 hP, zp_58_12 hP, zp_58_14 hP, zp_58_15 hP, zp_58_17 hP, zp_58_18 hP, zp_58_19 hP, zp_58_20 hP, zp_58_21 hP, zp_58_22 hP, zp_58_24 hP, zp_58_26 hP, zp_58_29 hP, zp_58_32 hP, zp_58_33 hP, zp_58_34 hP, zp_58_35 hP, zp_58_36 hP, zp_58_37 hP, zp_58_38 hP, zp_58_39 hP, zB_0, hD.1]
  refine ⟨fun hb => h0 (fun z => hb z.1), fun hb => ⟨fun ha => ?_, fun ha => h0 (fun z => z.2 (Classical.not_not.mp ha))⟩⟩
  have hbs : bFight q a b c := ⟨Classical.not_not.mp hb, ha⟩
  rw [if_pos hbs, if_pos hbs] at h
  rw [c_6, n_eq (by omega) (by decide)]
  refine ⟨fun g => ?_, fun g => ?_⟩
  · rw [if_neg g, if_neg g] at h
    obtain ⟨-, r0, r1, r2⟩ := rRow_e hbs.1 h16
    have x0 := n_cl (show 3 * (qD q).1 < 2 ^ 31 by omega)
    have x1 := n_cl (show 3 * (qD q).1 + 1 < 2 ^ 31 by omega)
    have x2 := n_cl (show 3 * (qD q).1 + 2 < 2 ^ 31 by omega)
    have e25 : ∀ (M' : zf_M) (j : Nat) (v : Int32), zf_I (zf_sI M' 75 j v) 58 25 = zf_I M' 58 25 := fun M' j v => zI_ne (by omega)
    simp only [w142_30, w142_31, w142_34, w142_35, w142_36, w142_39, w142_40, w142_41, zk_sI, zk_sJ, zk_sP, zn_sI, zn_sJ, zn_sP, zI_sI, zI_sJ, zI_sP, zJ_sI, zJ_sJ, zJ_sP, zP_sI, zP_sJ, zP_sP, Option.toList_some, Option.toList_none, List.cons_append, List.nil_append, zk_of hP.1, zn_of hP.1, zix, ziN, ne_eq, reduceCtorEq, not_false_eq_true, true_and, and_true, Option.getD_some, Nat.reduceLeDiff, Nat.reduceLT, c_ofNat, zkd58, zp_58_1 hP, zp_58_2 hP, zp_58_6 hP, zp_58_7 hP, zp_58_10 hP, zp_58_11 hP, zp_58_12 hP, zp_58_14 hP, zp_58_15 hP, zp_58_17 hP, zp_58_18 hP, zp_58_19 hP, zp_58_20 hP, zp_58_21 hP, zp_58_22 hP, zp_58_24 hP, zp_58_26 hP, zp_58_29 hP, zp_58_32 hP, zp_58_33 hP, zp_58_34 hP, zp_58_35 hP, zp_58_36 hP, zp_58_37 hP, zp_58_38 hP, zp_58_39 hP, zkd75, znd75, zfx75, hD.1, n_m3, x0]
    refine ⟨vp_in_nI (by omega) i18, ?_⟩
    have hP1 := zPk_sI (a := 75) (j := 3 * (qD q).1) (v := a) hP
    have f1 := (e25 M (3 * (qD q).1) a).trans hD.1
    generalize hM1 : zf_sI M 75 (3 * (qD q).1) a = M1 at *
    simp only [w142_42, w142_43, w142_46, w142_47, w142_48, w142_51, w142_52, w142_53, w142_54, w142_55, zk_sI, zk_sJ, zk_sP, zn_sI, zn_sJ, zn_sP, zI_sI, zI_sJ, zI_sP, zJ_sI, zJ_sJ, zJ_sP, zP_sI, zP_sJ, zP_sP, Option.toList_some, Option.toList_none, List.cons_append, List.nil_append, zk_of hP1.1, zn_of hP1.1, zix, ziN, ne_eq, reduceCtorEq, not_false_eq_true, true_and, and_true, Option.getD_some, Nat.reduceLeDiff, Nat.reduceLT, c_ofNat, zkd58, zp_58_1 hP1, zp_58_2 hP1, zp_58_6 hP1, zp_58_7 hP1, zp_58_10 hP1, zp_58_11 hP1, zp_58_12 hP1, zp_58_14 hP1, zp_58_15 hP1, zp_58_17 hP1, zp_58_18 hP1, zp_58_19 hP1, zp_58_20 hP1, zp_58_21 hP1, zp_58_22 hP1, zp_58_24 hP1, zp_58_26 hP1, zp_58_29 hP1, zp_58_32 hP1, zp_58_33 hP1, zp_58_34 hP1, zp_58_35 hP1, zp_58_36 hP1, zp_58_37 hP1, zp_58_38 hP1, zp_58_39 hP1, zkd75, znd75, zfx75, f1, n_m3, n_a1, x1]
    refine ⟨vp_in_nI (by omega) i18, ?_⟩
    have hP2 := zPk_sI (a := 75) (j := 3 * (qD q).1 + 1) (v := b) hP1
    have f2 := (e25 M1 (3 * (qD q).1 + 1) b).trans f1
    generalize hM2 : zf_sI M1 75 (3 * (qD q).1 + 1) b = M2 at *
    simp only [w142_56, w142_57, w142_60, w142_61, w142_62, w142_65, w142_66, w142_67, w142_68, w142_69, zk_sI, zk_sJ, zk_sP, zn_sI, zn_sJ, zn_sP, zI_sI, zI_sJ, zI_sP, zJ_sI, zJ_sJ, zJ_sP, zP_sI, zP_sJ, zP_sP, Option.toList_some, Option.toList_none, List.cons_append, List.nil_append, zk_of hP2.1, zn_of hP2.1, zix, ziN, ne_eq, reduceCtorEq, not_false_eq_true, true_and, and_true, Option.getD_some, Nat.reduceLeDiff, Nat.reduceLT, c_ofNat, zkd58, zp_58_1 hP2, zp_58_2 hP2, zp_58_6 hP2, zp_58_7 hP2, zp_58_10 hP2, zp_58_11 hP2, zp_58_12 hP2, zp_58_14 hP2, zp_58_15 hP2, zp_58_17 hP2, zp_58_18 hP2, zp_58_19 hP2, zp_58_20 hP2, zp_58_21 hP2, zp_58_22 hP2, zp_58_24 hP2, zp_58_26 hP2, zp_58_29 hP2, zp_58_32 hP2, zp_58_33 hP2, zp_58_34 hP2, zp_58_35 hP2, zp_58_36 hP2, zp_58_37 hP2, zp_58_38 hP2, zp_58_39 hP2, zkd75, znd75, zfx75, f2, n_m3, y2, x2]
    refine ⟨vp_in_nI (by omega) i18, ?_⟩
    have hP3 := zPk_sI (a := 75) (j := 3 * (qD q).1 + 2) (v := c) hP2
    have f3 := (e25 M2 (3 * (qD q).1 + 2) c).trans f2
    generalize hM3 : zf_sI M2 75 (3 * (qD q).1 + 2) c = M3 at *
    simp only [w142_70, w142_71, w142_72, w142_75, w142_76, w142_77, w142_80, w142_81, w142_84, zk_sI, zk_sJ, zk_sP, zn_sI, zn_sJ, zn_sP, zI_sI, zI_sJ, zI_sP, zJ_sI, zJ_sJ, zJ_sP, zP_sI, zP_sJ, zP_sP, Option.toList_some, Option.toList_none, List.cons_append, List.nil_append, zk_of hP3.1, zn_of hP3.1, zix, ziN, ne_eq, reduceCtorEq, not_false_eq_true, true_and, and_true, Option.getD_some, Nat.reduceLeDiff, Nat.reduceLT, c_ofNat, zkd58, zp_58_1 hP3, zp_58_2 hP3, zp_58_6 hP3, zp_58_7 hP3, zp_58_10 hP3, zp_58_11 hP3, zp_58_12 hP3, zp_58_14 hP3, zp_58_15 hP3, zp_58_17 hP3, zp_58_18 hP3, zp_58_19 hP3, zp_58_20 hP3, zp_58_21 hP3, zp_58_22 hP3, zp_58_24 hP3, zp_58_26 hP3, zp_58_29 hP3, zp_58_32 hP3, zp_58_33 hP3, zp_58_34 hP3, zp_58_35 hP3, zp_58_36 hP3, zp_58_37 hP3, zp_58_38 hP3, zp_58_39 hP3, zkd75, znd75, zfx75, f3, n_a1, if_true]
    subst hM3 hM2 hM1
    refine h _ (zF_sI (zF_sI (zF_sI (zF_sI (zF_rf _ _) (by omega)) (by omega)) (by omega)) (by omega)) (zKM_D hM (fun c j kc k => ?_) ⟨zI_eq, ?_, ?_, fun f hf j hj => ?_⟩)
    · rw [zI_ne (by omega), zI_ne (by omega), zI_ne (by omega), zI_ne (by omega)]
    · rw [zI_ne (by omega), zI_ne (by omega), zI_ne (by omega), zI_ne (by omega)]
      exact hD.2.1
    · rw [zI_ne (by omega), zI_ne (by omega), zI_ne (by omega), zI_ne (by omega)]
      exact hD.2.2.1
    · change f < (qD q).1 + 1 at hf
      show _ = zvo (zat (zud (qD q).2.1 (qD q).1 (rRow a b c) f) j)
      unfold zud
      by_cases e : f = (qD q).1
      · rw [if_pos e, e, zI_ne (by omega)]
        rcases (show j = 0 ∨ j = 1 ∨ j = 2 by omega) with rfl | rfl | rfl
        · rw [zI_ne (by omega), zI_ne (by omega), Nat.add_zero, zI_eq]
          exact r0.symm
        · rw [zI_ne (by omega), zI_eq]
          exact r1.symm
        · rw [zI_eq]
          exact r2.symm
      · rw [if_neg e, zI_ne (by omega), zI_ne (by omega), zI_ne (by omega), zI_ne (by omega)]
        exact hD.2.2.2 f (by omega) j hj
  · have g := Classical.not_not.mp g
    have := h M (zF_rf _ _)
    rw [if_pos g, if_pos g] at this
    exact this hM
end ZDy
