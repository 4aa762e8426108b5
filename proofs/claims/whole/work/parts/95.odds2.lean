/-! ===== odds ===== -/
def zco (q : tQ) (f b : Nat) : zCs := zca (qA q).2 (qB q).1.1 (qB q).1.2 ((qD q).2.1 f).1 ((qD q).2.1 f).2 b
def zpo (q : tQ) (f b : Nat) : zPm := zpm (zco q f b) (qL q).2.1 (qL q).2.2 (qL q).1
def zcc (q : tQ) (f b : Nat) : Int32 := zchn (zpo q f b)
theorem zpo_ok {q : tQ} {f b : Nat} (hv : vQ q) (hf : f < (qD q).1) (hb : b ≤ 9) : zPo (zpo q f b) := zpm_ok hv.1 (zca_n hv.2.1.1.2 (hv.2.2.2.1.2.2.2 f hf).2) (zca_b hb) hv.2.2.1
/-- a chance is one, or too wide -/
theorem zchn_or {p : zPm} (hp : zPo p) : zchn p = -5 ∨ ∃ k, k ≤ 1000000 ∧ zchn p = nI k := by
  unfold zchn
  by_cases g : zrun p
  · rw [if_pos g]
    have h2 := zrk_sm hp
    have h3 : (zrk p).2.1.1 0 ≤ zsm (zrk p).2.1 := by unfold zsm; omega
    exact Or.inr ⟨_, zdg_6 (Nat.pow_pos (by decide)) (Nat.le_trans h3 h2) 6, rfl⟩
  · rw [if_neg g]
    exact Or.inl rfl
def aOdds (q : tQ) (f b : Int32) : Int32 := if vhas (qD q).1 f ∧ zin b 0 1 then (if (qB q).1.1 = 0 then -3 else zcc q f.toNatClampNeg (if b = 1 then (qD q).2.2.2 else 0)) else -2
section ZOd
variable {X : zf_X} {M : zf_M} {Q : Option Value → zf_M → Prop} {q : tQ}
theorem zRx_d {f : Nat} (hv : vQ q) (hC : zKC q M) (hf : f < (qD q).1) : zRx M (30 + 2 * f) ((qD q).2.1 f).1 ((qD q).2.1 f).2 := by
  have hD := hC.2.2.2.2.1
  have h6 := hv.2.2.2.1.1
  exact ⟨(hv.2.2.2.1.2.2.2 f hf).1, (hD.2.2.2 f hf (by omega)).1, (hD.2.2.2 f hf (by omega)).2⟩
theorem C99 {f b : Nat} (hv : vQ q) (hP : zPk M) (hC : zKC q M) (hf : f < (qD q).1) (hb : b ≤ 9) (h : ∀ M1, zG (fun c => 4 ≤ c ∧ c ≤ 25) M M1 → zUp M M1 → zKC q M1 → Q (some (.int (zcc q f b))) M1) : zC X 99 [.ref 0, .ref (30 + 2 * f), .int (nI b)] M Q := by
  have h6 := hv.2.2.2.1.1
  obtain ⟨-, hR, hL, hrx, hry, h1, h2, hO⟩ := zKx_of hv hP hC
  exact s99 hP hR hL hrx (zRw_of hP (by omega)) (by omega) (zRx_d hv hC hf) h1 (hv.2.2.2.1.2.2.2 f hf).2 hb hO (fun M1 g1 g2 => h M1 g1 (zUp_G hP g1 (fun c hc => by omega)) (zKC_G hC g1 g2))
theorem C71 {f b : Int32} (hv : vQ q) (hP : zPk M) (hC : zKC q M) (h : ∀ M1, zUp M M1 → zKC q M1 → Q (some (.int (aOdds q f b))) M1) : zC X 71 [.ref 0, .int f, .int b] M Q := by
  have h6 := hv.2.2.2.1.1
  have hb9 := hv.2.2.2.1.2.2.1
  have h3 := hv.2.1.1.1
  have hD := hC.2.2.2.2.1
  have hB := hC.2.2.1
  unfold aOdds at h
  have h0 : ¬ (vhas (qD q).1 f ∧ zin b 0 1) → Q (some (.int (-2))) M := by
    intro g
    have := h M (zUp_rf hP) hC
    rw [if_neg g] at this
    exact this
  rw [c71]
  simp only [w71_0, w71_1, w71_4, w71_5, w71_6, w71_9, w71_12, w71_15, w71_16, w71_19, w71_20, w71_21, w71_24, w71_26, w71_27, w71_28, w71_31, w71_32, w71_33, w71_36, w71_39, w71_41, zk_sI, zk_sJ, zk_sP, zn_sI, zn_sJ, zn_sP, zI_sI, zI_sJ, zI_sP, zJ_sI, zJ_sJ, zJ_sP, zP_sI, zP_sJ, zP_sP, Option.toList_some, Option.toList_none, List.cons_append, List.nil_append, zk_of hP.1, zn_of hP.1, zix, ziN, ne_eq, reduceCtorEq, not_false_eq_true, true_and, and_true, Option.getD_some, Nat.reduceLeDiff, Nat.reduceLT, c_ofNat, zkd0, zp_0_0 hP, zp_0_1 hP, zp_0_2 hP, zp_0_3 hP, zp_0_4 hP, zp_0_5 hP, zp_0_6 hP, zp_0_7 hP, zkd3, znd3, zfx3, zp_3_0 hP, zp_3_1 hP, zkd26, zp_26_0 hP, zp_26_1 hP, zp_26_2 hP, zkd46, zp_46_0 hP, in02, true_or, zp30 hP, hD.1, hB.1]
  have z0 : (nI (qB q).1.1 = 0) = ((qB q).1.1 = 0) := by rw [c_0, n_eq (by omega) (by decide)]
  rw [z0]
  refine ⟨fun g => h0 (fun z => Int32.not_lt.mpr z.1.1 g), fun g1 => ⟨fun g => h0 (fun z => Int32.not_lt.mpr g z.1.2), fun g2 => ⟨fun g => h0 (fun z => Int32.not_lt.mpr z.2.1 g), fun g3 => ⟨fun g4 => ?_, fun g => h0 (fun z => g z.2.2)⟩⟩⟩⟩
  have hc : vhas (qD q).1 f ∧ zin b 0 1 := ⟨⟨Int32.not_lt.mp g1, Int32.not_le.mp g2⟩, Int32.not_lt.mp g3, g4⟩
  rw [if_pos hc] at h
  refine ⟨fun g5 => ?_, fun g5 => ?_⟩
  · obtain ⟨f', f1, rfl⟩ := vhas_o hc.1 (by omega)
    rw [if_neg g5, n_cl (by omega)] at h
    obtain ⟨z27, zk27⟩ := zp27 hP (d := f') (by omega)
    simp only [w71_42, w71_43, w71_44, w71_47, w71_50, w71_51, w71_52, w71_53, w71_54, w71_57, w71_58, w71_61, w71_64, w71_67, w71_68, zk_sI, zk_sJ, zk_sP, zn_sI, zn_sJ, zn_sP, zI_sI, zI_sJ, zI_sP, zJ_sI, zJ_sJ, zJ_sP, zP_sI, zP_sJ, zP_sP, Option.toList_some, Option.toList_none, List.cons_append, List.nil_append, zk_of hP.1, zn_of hP.1, zix, ziN, ne_eq, reduceCtorEq, not_false_eq_true, true_and, and_true, Option.getD_some, Nat.reduceLeDiff, Nat.reduceLT, c_ofNat, zkd0, zp_0_0 hP, zp_0_1 hP, zp_0_2 hP, zp_0_3 hP, zp_0_4 hP, zp_0_5 hP, zp_0_6 hP, zp_0_7 hP, zkd26, zp_26_0 hP, zp_26_1 hP, zp_26_2 hP, zkd27, znd27, zfx27, zp_27_0 hP, zp_27_1 hP, zp_27_2 hP, zp_27_3 hP, zp_27_4 hP, zp_27_5 hP, n_cl (show f' < 2 ^ 31 by omega), n_in (show f' < 6 by omega) (show 6 < 2 ^ 31 by decide), z27, zk27, true_or, hD.2.2.1]
    refine ⟨fun g6 => ?_, fun g6 => ?_⟩
    · rw [if_neg g6] at h
      refine C99 (b := 0) hv hP hC f1 (by decide) (fun M1 _ x1 x2 => ?_)
      simp only [w71_71, zk_sI, zk_sJ, zk_sP, zn_sI, zn_sJ, zn_sP, zI_sI, zI_sJ, zI_sP, zJ_sI, zJ_sJ, zJ_sP, zP_sI, zP_sJ, zP_sP, Option.toList_some, Option.toList_none, List.cons_append, List.nil_append]
      exact h M1 x1 x2
    · rw [if_pos (Classical.not_not.mp g6)] at h
      refine C99 hv hP hC f1 hb9 (fun M1 _ x1 x2 => ?_)
      simp only [w71_71, zk_sI, zk_sJ, zk_sP, zn_sI, zn_sJ, zn_sP, zI_sI, zI_sJ, zI_sP, zJ_sI, zJ_sJ, zJ_sP, zP_sI, zP_sJ, zP_sP, Option.toList_some, Option.toList_none, List.cons_append, List.nil_append]
      exact h M1 x1 x2
  · have := h M (zUp_rf hP) hC
    rw [if_pos (Classical.not_not.mp g5)] at this
    exact this
/-- oddsOf -/
theorem M145 {f : Nat} {y : Int32} (hv : vQ q) (hP : zPk M) (hM : zKM q M) (hf : f < (qD q).1) (h : ∀ M1, zMX M M1 → zPk M1 → zKM q M1 → Q (some (.int (zcc q f (if y = 0 then 0 else (qD q).2.2.2)))) M1) : zC X 145 [.ref 58, .int (nI f), .int y] M Q := by
  have h6 := hv.2.2.2.1.1
  have hb9 := hv.2.2.2.1.2.2.1
  have hD := hM.2.2.2.1
  rw [c145]
  have key : ∀ b, b ≤ 9 → (∀ M1, zMX M M1 → zPk M1 → zKM q M1 → Q (some (.int (zcc q f b))) M1) → zC X 115 [.ref 58, .int (nI b)] M (fun v M2 => zW X 145 16 [.val (.ref 58), .val (.int (nI f)), .val (.int y), .unset] (v.toList ++ []) M2 Q) := by
    intro b hb h
    refine s115q hv hP hM hb (fun M1 g1 hP1 hM1 g4 => ?_)
    obtain ⟨y1, y2, y3, y4, y5, y6⟩ := g4
    have hr := hv.2.2.2.1.2.2.2 f hf
    have hD1 := hM1.2.2.2.1.2.2.2 f hf
    have fin : ∀ (M2 : zf_M), zF (fun c => c = 61) M1 M2 → (∀ j, j < 3 → zf_I M2 61 (3 + j) = zvo (zat ((qD q).2.1 f) j)) → (∀ j, j < 3 → zf_I M2 61 j = zf_I M1 61 j) → zC X 129 [.ref 58] M2 (fun v M3 => zW X 145 51 [.val (.ref 58), .val (.int (nI f)), .val (.int y), .val (.int (nI 3))] (v.toList ++ []) M3 Q) := by
      intro M2 k1 k2 k3
      have hP2 := zPk_F hP1 k1
      have hX2 : zMX M1 M2 := ⟨zF_mo k1 (fun c hc => by omega), fun j _ _ _ _ _ => (k1.2.1 58 (by omega) j).1⟩
      have hS : zMS (zco q f b) (qA q).1 (qL q).2.1 (qL q).2.2 (qL q).1 M2 := by
        have e58 : ∀ j, zf_I M2 58 j = zf_I M1 58 j := fun j => (k1.2.1 58 (by omega) j).1
        refine ⟨⟨⟨hv.1, fun i hi => ?_⟩, fun k hk => ?_, zca_n hv.2.1.1.2 hr.2⟩, fun k hk => ⟨?_, zca_b hb k⟩, by rw [e58]; exact y3, by rw [e58]; exact y4, by rw [e58]; exact y5, y6⟩
        · rw [(k1.2.1 59 (by omega) i).1]
          exact hM1.1.2 i hi
        · by_cases hk3 : k < 3
          · rw [k3 k hk3, y1.2.1 k hk]
            congr 1
            exact (zat_h (nu := (qA q).2) (B := (qB q).1) (F := (qB q).2) (b := b) hk3).trans (zat_h (nu := (qA q).2) (B := (qB q).1) (F := (qD q).2.1 f) (b := b) hk3).symm
          · have := k2 (k - 3) (by omega)
            rw [show 3 + (k - 3) = k by omega] at this
            rw [this]
            congr 1
            have e := zat_f (nu := (qA q).2) (B := (qB q).1) (F := (qD q).2.1 f) (b := b) (k := k - 3)
            rw [show 3 + (k - 3) = k by omega] at e
            exact e.symm
        · rw [(k1.2.1 62 (by omega) k).1, (y2 k hk).1]
          rfl
      have hpo := zpo_ok hv hf hb
      refine s129q (p := zpo q f b) (zKM_X hM1 hX2) rfl hpo hP2 hS (fun M3 x1 x2 x3 x4 x5 x6 => ?_)
      have hfin := h M3 (zMX_tr g1 (zMX_tr hX2 x1)) x2 x3
      unfold zcc at hfin
      generalize zpo q f b = p at *
      by_cases g : zrun p
      · rw [if_pos g]
        simp only [w145_51, w145_54, w145_56, w145_59, w145_60, w145_63, zk_sI, zk_sJ, zk_sP, zn_sI, zn_sJ, zn_sP, zI_sI, zI_sJ, zI_sP, zJ_sI, zJ_sJ, zJ_sP, zP_sI, zP_sJ, zP_sP, Option.toList_some, Option.toList_none, List.cons_append, List.nil_append, zk_of x2.1, zn_of x2.1, zix, ziN, ne_eq, reduceCtorEq, not_false_eq_true, true_and, and_true, Option.getD_some, Nat.reduceLeDiff, Nat.reduceLT, c_ofNat, zkd58, zp_58_1 x2, zp_58_2 x2, zp_58_6 x2, zp_58_7 x2, zp_58_10 x2, zp_58_11 x2, zp_58_12 x2, zp_58_14 x2, zp_58_15 x2, zp_58_17 x2, zp_58_18 x2, zp_58_19 x2, zp_58_20 x2, zp_58_21 x2, zp_58_22 x2, zp_58_24 x2, zp_58_26 x2, zp_58_29 x2, zp_58_32 x2, zp_58_33 x2, zp_58_34 x2, zp_58_35 x2, zp_58_36 x2, zp_58_37 x2, zp_58_38 x2, zp_58_39 x2, true_implies, not_true_eq_false, false_implies, and_true]
        refine s131 x2 hpo g (x6 g) x4 x5 ?_
        simp only [w145_63, zk_sI, zk_sJ, zk_sP, zn_sI, zn_sJ, zn_sP, zI_sI, zI_sJ, zI_sP, zJ_sI, zJ_sJ, zJ_sP, zP_sI, zP_sJ, zP_sP, Option.toList_some, Option.toList_none, List.cons_append, List.nil_append]
        exact hfin
      · rw [zchn, if_neg g] at hfin
        rw [if_neg g]
        simp only [w145_51, w145_54, w145_56, w145_59, w145_60, w145_63, zk_sI, zk_sJ, zk_sP, zn_sI, zn_sJ, zn_sP, zI_sI, zI_sJ, zI_sP, zJ_sI, zJ_sJ, zJ_sP, zP_sI, zP_sJ, zP_sP, Option.toList_some, Option.toList_none, List.cons_append, List.nil_append, n5, true_implies, not_false_eq_true, not_true_eq_false, false_implies, true_and, and_true]
        exact hfin
    have loop : ∀ (m k : Nat) (M2 : zf_M), k + m = 3 → zF (fun c => c = 61) M1 M2 → (∀ j, j < k → zf_I M2 61 (3 + j) = zvo (zat ((qD q).2.1 f) j)) → (∀ j, j < 3 → zf_I M2 61 j = zf_I M1 61 j) → zW X 145 18 [.val (.ref 58), .val (.int (nI f)), .val (.int y), .val (.int (nI k))] [] M2 Q := by
      intro m
      induction m with
      | zero =>
        intro k M2 hk k1 k2 k3
        obtain rfl : k = 3 := by omega
        have hP2 := zPk_F hP1 k1
        rw [w145_18]
        simp only [w145_19, w145_20, w145_23, w145_24, w145_27, w145_28, w145_29, w145_30, w145_31, w145_34, w145_35, w145_36, w145_37, w145_38, w145_39, w145_40, w145_41, w145_44, w145_47, w145_48, zk_sI, zk_sJ, zk_sP, zn_sI, zn_sJ, zn_sP, zI_sI, zI_sJ, zI_sP, zJ_sI, zJ_sJ, zJ_sP, zP_sI, zP_sJ, zP_sP, Option.toList_some, Option.toList_none, List.cons_append, List.nil_append, zk_of hP2.1, zn_of hP2.1, zix, ziN, ne_eq, reduceCtorEq, not_false_eq_true, true_and, and_true, Option.getD_some, Nat.reduceLeDiff, Nat.reduceLT, c_ofNat, zkd58, zp_58_1 hP2, zp_58_2 hP2, zp_58_6 hP2, zp_58_7 hP2, zp_58_10 hP2, zp_58_11 hP2, zp_58_12 hP2, zp_58_14 hP2, zp_58_15 hP2, zp_58_17 hP2, zp_58_18 hP2, zp_58_19 hP2, zp_58_20 hP2, zp_58_21 hP2, zp_58_22 hP2, zp_58_24 hP2, zp_58_26 hP2, zp_58_29 hP2, zp_58_32 hP2, zp_58_33 hP2, zp_58_34 hP2, zp_58_35 hP2, zp_58_36 hP2, zp_58_37 hP2, zp_58_38 hP2, zp_58_39 hP2]
        exact ⟨fun _ => fin M2 k1 k2 k3, fun z => absurd (by decide) z⟩
      | succ m ih =>
        intro k M2 hk k1 k2 k3
        have hP2 := zPk_F hP1 k1
        have ey : ∀ a b, nI a + nI b = nI (a + b) := fun a b => nI_add a b
        have e3k : (3 : Int32) + nI k = nI (3 + k) := nI_add 3 k
        have e75 : zf_I M2 75 (3 * f + k) = zvo (zat ((qD q).2.1 f) k) := by rw [(k1.2.1 75 (by omega) _).1]; exact hD1 k (by omega)
        rw [w145_18]
        simp only [w145_19, w145_20, w145_23, w145_24, w145_27, w145_28, w145_29, w145_30, w145_31, w145_34, w145_35, w145_36, w145_37, w145_38, w145_39, w145_40, w145_41, w145_44, zk_sI, zk_sJ, zk_sP, zn_sI, zn_sJ, zn_sP, zI_sI, zI_sJ, zI_sP, zJ_sI, zJ_sJ, zJ_sP, zP_sI, zP_sJ, zP_sP, Option.toList_some, Option.toList_none, List.cons_append, List.nil_append, zk_of hP2.1, zn_of hP2.1, zix, ziN, ne_eq, reduceCtorEq, not_false_eq_true, true_and, and_true, Option.getD_some, Nat.reduceLeDiff, Nat.reduceLT, c_ofNat, zkd58, zp_58_1 hP2, zp_58_2 hP2, zp_58_6 hP2, zp_58_7 hP2, zp_58_10 hP2, zp_58_11 hP2, zp_58_12 hP2, zp_58_14 hP2, zp_58_15 hP2, zp_58_17 hP2, zp_58_18 hP2, zp_58_19 hP2, zp_58_20 hP2, zp_58_21 hP2, zp_58_22 hP2, zp_58_24 hP2, zp_58_26 hP2, zp_58_29 hP2, zp_58_32 hP2, zp_58_33 hP2, zp_58_34 hP2, zp_58_35 hP2, zp_58_36 hP2, zp_58_37 hP2, zp_58_38 hP2, zp_58_39 hP2, zkd61, znd61, zfx61, zkd75, znd75, zfx75, n_m3, ey, e3k, n_a1, n_cl (show 3 * f + k < 2 ^ 31 by omega), n_in (show 3 * f + k < 18 by omega) (show 18 < 2 ^ 31 by decide), n_cl (show 3 + k < 2 ^ 31 by omega), n_in (show 3 + k < 6 by omega) (show 6 < 2 ^ 31 by decide), e75]
        rw [c_3, n_le (by decide) (by omega)]
        refine ⟨fun z => by omega, fun _ => ih (k + 1) _ (by omega) (zF_sI k1 rfl) (fun j hj => ?_) (fun j hj => ?_)⟩
        · by_cases ej : j = k
          · rw [ej, zI_eq]
          · rw [zI_ne (by omega)]
            exact k2 j (by omega)
        · rw [zI_ne (by omega)]
          exact k3 j hj
    simp only [w145_16, w145_17, zk_sI, zk_sJ, zk_sP, zn_sI, zn_sJ, zn_sP, zI_sI, zI_sJ, zI_sP, zJ_sI, zJ_sJ, zJ_sP, zP_sI, zP_sJ, zP_sP, Option.toList_some, Option.toList_none, List.cons_append, List.nil_append]
    exact loop 3 0 M1 rfl (zF_rf _ _) (fun j hj => by omega) (fun _ _ => rfl)
  simp only [w145_0, w145_1, w145_2, w145_5, w145_6, w145_9, w145_12, w145_13, zk_sI, zk_sJ, zk_sP, zn_sI, zn_sJ, zn_sP, zI_sI, zI_sJ, zI_sP, zJ_sI, zJ_sJ, zJ_sP, zP_sI, zP_sJ, zP_sP, Option.toList_some, Option.toList_none, List.cons_append, List.nil_append, zk_of hP.1, zn_of hP.1, zix, ziN, ne_eq, reduceCtorEq, not_false_eq_true, true_and, and_true, Option.getD_some, Nat.reduceLeDiff, Nat.reduceLT, c_ofNat, zkd58, zp_58_1 hP, zp_58_2 hP, zp_58_6 hP, zp_58_7 hP, zp_58_10 hP, zp_58_11 hP, zp_58_12 hP, zp_58_14 hP, zp_58_15 hP, zp_58_17 hP, zp_58_18 hP, zp_58_19 hP, zp_58_20 hP, zp_58_21 hP, zp_58_22 hP, zp_58_24 hP, zp_58_26 hP, zp_58_29 hP, zp_58_32 hP, zp_58_33 hP, zp_58_34 hP, zp_58_35 hP, zp_58_36 hP, zp_58_37 hP, zp_58_38 hP, zp_58_39 hP, hD.2.2.1]
  refine ⟨fun g => ?_, fun g => ?_⟩
  · rw [if_pos g] at h
    exact key 0 (by decide) h
  · rw [if_neg g] at h
    exact key _ hb9 h
theorem M149 {f b : Int32} (hv : vQ q) (hP : zPk M) (hM : zKM q M) (h : ∀ M1, zDn M M1 → zKM q M1 → Q (some (.int (aOdds q f b))) M1) : zC X 149 [.ref 58, .int f, .int b] M Q := by
  have h6 := hv.2.2.2.1.1
  have h16 := hv.1.1
  have h3 := hv.2.1.1.1
  have hD := hM.2.2.2.1
  unfold aOdds at h
  have h0 : ¬ (vhas (qD q).1 f ∧ zin b 0 1) → Q (some (.int (-2))) M := by
    intro g
    have := h M (zF_rf _ _) hM
    rw [if_neg g] at this
    exact this
  have e60 : zf_I M 60 (Int32.toNatClampNeg 0) = zvo (zat (qB q).1 0) := (hM.2.1 0 (by decide)).1
  have z0 : (zvo (zat (qB q).1 0) = -1) = ((qB q).1.1 = 0) := by
    refine propext ((zvo_n (fun f e => ?_)).trans ?_)
    · have := zat_lt hv.2.1.1 e
      omega
    · unfold zat
      by_cases g : 0 < (qB q).1.1
      · rw [if_pos g]
        exact ⟨fun z => (by cases z), fun z => (by omega)⟩
      · rw [if_neg g]
        exact ⟨fun _ => by omega, fun _ => rfl⟩
  rw [c149]
  simp only [w149_0, w149_1, w149_2, w149_3, w149_4, w149_7, w149_8, w149_9, w149_10, w149_13, w149_16, w149_17, w149_18, w149_19, w149_20, w149_23, w149_26, w149_28, w149_29, w149_30, w149_33, w149_34, w149_35, w149_36, w149_39, w149_41, w149_44, w149_45, w149_46, w149_47, w149_48, w149_51, w149_52, w149_55, w149_56, w149_59, zk_sI, zk_sJ, zk_sP, zn_sI, zn_sJ, zn_sP, zI_sI, zI_sJ, zI_sP, zJ_sI, zJ_sJ, zJ_sP, zP_sI, zP_sJ, zP_sP, Option.toList_some, Option.toList_none, List.cons_append, List.nil_append, zk_of hP.1, zn_of hP.1, zix, ziN, ne_eq, reduceCtorEq, not_false_eq_true, true_and, and_true, Option.getD_some, Nat.reduceLeDiff, Nat.reduceLT, c_ofNat, zkd58, zp_58_1 hP, zp_58_2 hP, zp_58_6 hP, zp_58_7 hP, zp_58_10 hP, zp_58_11 hP, zp_58_12 hP, zp_58_14 hP, zp_58_15 hP, zp_58_17 hP, zp_58_18 hP, zp_58_19 hP, zp_58_20 hP, zp_58_21 hP, zp_58_22 hP, zp_58_24 hP, zp_58_26 hP, zp_58_29 hP, zp_58_32 hP, zp_58_33 hP, zp_58_34 hP, zp_58_35 hP, zp_58_36 hP, zp_58_37 hP, zp_58_38 hP, zp_58_39 hP, hD.1]
  refine s103i 0 (nI (qD q).1 - 1) rfl rfl ?_
  rw [zB_iff (vhas_in (show (qD q).1 ≤ 16 by omega))]
  simp only [w149_13, w149_16, w149_17, w149_18, w149_19, w149_20, w149_26, w149_28, zk_sI, zk_sJ, zk_sP, zn_sI, zn_sJ, zn_sP, zI_sI, zI_sJ, zI_sP, zJ_sI, zJ_sJ, zJ_sP, zP_sI, zP_sJ, zP_sP, Option.toList_some, Option.toList_none, List.cons_append, List.nil_append, zB_0]
  refine ⟨fun g => h0 (fun z => g z.1), fun g => ?_⟩
  have g := Classical.not_not.mp g
  refine s103i 0 1 rfl rfl ?_
  have v0 : vp_in 0 6 := vp_in_nI (n := 0) (by decide) (by decide)
  simp only [w149_23, w149_26, w149_28, w149_29, w149_30, w149_33, w149_34, w149_35, w149_36, w149_39, w149_41, w149_44, w149_45, w149_46, w149_47, w149_48, w149_51, w149_52, w149_55, w149_56, zk_sI, zk_sJ, zk_sP, zn_sI, zn_sJ, zn_sP, zI_sI, zI_sJ, zI_sP, zJ_sI, zJ_sJ, zJ_sP, zP_sI, zP_sJ, zP_sP, Option.toList_some, Option.toList_none, List.cons_append, List.nil_append, zk_of hP.1, zn_of hP.1, zix, ziN, ne_eq, reduceCtorEq, not_false_eq_true, true_and, and_true, Option.getD_some, Nat.reduceLeDiff, Nat.reduceLT, c_ofNat, zkd58, zp_58_1 hP, zp_58_2 hP, zp_58_6 hP, zp_58_7 hP, zp_58_10 hP, zp_58_11 hP, zp_58_12 hP, zp_58_14 hP, zp_58_15 hP, zp_58_17 hP, zp_58_18 hP, zp_58_19 hP, zp_58_20 hP, zp_58_21 hP, zp_58_22 hP, zp_58_24 hP, zp_58_26 hP, zp_58_29 hP, zp_58_32 hP, zp_58_33 hP, zp_58_34 hP, zp_58_35 hP, zp_58_36 hP, zp_58_37 hP, zp_58_38 hP, zp_58_39 hP, zkd60, znd60, zfx60, zB_0, e60, z0, v0, true_and]
  refine ⟨fun g2 => ?_, fun g2 => h0 (fun z => g2 (fun y => y z.2))⟩
  have g2 := Classical.not_not.mp g2
  rw [if_pos ⟨g, g2⟩] at h
  obtain ⟨f', f1, rfl⟩ := vhas_o g (by omega)
  rw [n_cl (by omega)] at h
  refine ⟨fun g3 => ?_, fun g3 => ?_⟩
  · rw [if_neg g3] at h
    refine ⟨fun g4 => ?_, fun g4 => ?_⟩
    · rw [if_neg g4] at h
      refine M145 hv hP hM f1 (fun M1 x1 x2 x3 => ?_)
      rw [if_pos rfl]
      simp only [w149_59, zk_sI, zk_sJ, zk_sP, zn_sI, zn_sJ, zn_sP, zI_sI, zI_sJ, zI_sP, zJ_sI, zJ_sJ, zJ_sP, zP_sI, zP_sJ, zP_sP, Option.toList_some, Option.toList_none, List.cons_append, List.nil_append]
      exact h M1 (zDn_X x1) x3
    · rw [if_pos (Classical.not_not.mp g4)] at h
      refine M145 hv hP hM f1 (fun M1 x1 x2 x3 => ?_)
      rw [if_neg (show ¬ (1 : Int32) = 0 by decide)]
      simp only [w149_59, zk_sI, zk_sJ, zk_sP, zn_sI, zn_sJ, zn_sP, zI_sI, zI_sJ, zI_sP, zJ_sI, zJ_sJ, zJ_sP, zP_sI, zP_sJ, zP_sP, Option.toList_some, Option.toList_none, List.cons_append, List.nil_append]
      exact h M1 (zDn_X x1) x3
  · have := h M (zF_rf _ _) hM
    rw [if_pos (Classical.not_not.mp g3)] at this
    simp only [w149_59, zk_sI, zk_sJ, zk_sP, zn_sI, zn_sJ, zn_sP, zI_sI, zI_sJ, zI_sP, zJ_sI, zJ_sJ, zJ_sP, zP_sI, zP_sJ, zP_sP, Option.toList_some, Option.toList_none, List.cons_append, List.nil_append]
    exact this
end ZOd
