/-! ===== surprised, without, better ===== -/
def aSurp (q : tQ) (s : Int32) : Int32 := if zin s (-1) 1 then zchn (zpm (zcq q 0) (qL q).2.1 s (qL q).1) else -2
/-- the heroes without one -/
def zcw (q : tQ) (e : Nat) : zCs := zca (qA q).2 ((qB q).1.1 - 1) (fun k => if k < e then (qB q).1.2 k else (qB q).1.2 (k + 1)) (qB q).2.1 (qB q).2.2 0
abbrev bWith (q : tQ) (k : Int32) : Prop := zin k 0 2 ∧ zwh q 0 k.toNatClampNeg ≠ none
def aWith (q : tQ) (k : Int32) : Int32 := if bWith q k then zchn (zpm (zcw q k.toNatClampNeg) (qL q).2.1 (qL q).2.2 (qL q).1) else -2
theorem vRow_wo {n : Nat} {B : Nat × (Nat → Nat)} {e : Nat} (h : vRow n B) (he : e < B.1) : ∀ j, j < B.1 - 1 → (fun k => if k < e then B.2 k else B.2 (k + 1)) j < n := by
  intro j hj
  show (if j < e then B.2 j else B.2 (j + 1)) < n
  split
  · exact h.2 _ (by omega)
  · exact h.2 _ (by omega)
section ZWh
variable {X : zf_X} {M : zf_M} {Q : Option Value → zf_M → Prop} {q : tQ}
theorem C65 {s : Int32} (hv : vQ q) (hP : zPk M) (hC : zKC q M) (h : ∀ M1, zUp M M1 → zKC q M1 → Q (some (.int (aSurp q s))) M1) : zC X 65 [.ref 0, .int s] M Q := by
  unfold aSurp at h
  rw [c65]
  simp only [w65_0, w65_1, w65_4, w65_7, w65_9, w65_10, w65_11, w65_14, w65_15, w65_18, w65_19, w65_22, w65_23, w65_26, w65_27, w65_28, w65_29, w65_32, w65_33, w65_34, w65_37, w65_38, w65_39, w65_42, w65_43, w65_46, w65_47, w65_50, w65_53, w65_56, w65_57, w65_60, w65_63, w65_66, w65_68, zk_sI, zk_sJ, zk_sP, zn_sI, zn_sJ, zn_sP, zI_sI, zI_sJ, zI_sP, zJ_sI, zJ_sJ, zJ_sP, zP_sI, zP_sJ, zP_sP, Option.toList_some, Option.toList_none, List.cons_append, List.nil_append]
  refine s85 ?_
  obtain ⟨-, hR, hL, hrx, hry, h1, h2, hO⟩ := zKx_of hv hP hC
  obtain ⟨l0, l1, l2, l3⟩ := hL
  simp only [w65_4, w65_7, w65_9, w65_10, w65_11, w65_14, w65_15, w65_18, w65_19, w65_22, w65_23, zk_sI, zk_sJ, zk_sP, zn_sI, zn_sJ, zn_sP, zI_sI, zI_sJ, zI_sP, zJ_sI, zJ_sJ, zJ_sP, zP_sI, zP_sJ, zP_sP, Option.toList_some, Option.toList_none, List.cons_append, List.nil_append, zk_of hP.1, zn_of hP.1, zix, ziN, ne_eq, reduceCtorEq, not_false_eq_true, true_and, and_true, Option.getD_some, Nat.reduceLeDiff, Nat.reduceLT, c_ofNat, zkd0, zp_0_0 hP, zp_0_1 hP, zp_0_2 hP, zp_0_3 hP, zp_0_4 hP, zp_0_5 hP, zp_0_6 hP, zp_0_7 hP, zkd3, znd3, zfx3, zp_3_0 hP, zp_3_1 hP, zkd4, zp_4_0 hP, zp_4_1 hP, zp_4_2 hP, zp_4_3 hP, zp_4_4 hP, zp_4_5 hP, zp_4_6 hP, zkd12, zp_12_2 hP, zp_12_3 hP, zp_12_4 hP, l1, l2, zB_0]
  refine ⟨fun g => ?_, fun g => ?_⟩
  · have g := Classical.not_not.mp g
    rw [if_pos g] at h
    refine s7 hP ?_
    have hF : zF (fun c => 4 ≤ c ∧ c ≤ 11) M (zf_sI (zf_sI (zf_sI (zf_sI M 4 8 (nI (qL q).1)) 4 9 (qL q).2.1) 4 10 s) 4 7 0) := zF_sI (zF_sI (zF_sI (zF_sI (zF_rf _ _) ⟨by omega, by omega⟩) ⟨by omega, by omega⟩) ⟨by omega, by omega⟩) ⟨by omega, by omega⟩
    have hP1 := zPk_F hP hF
    simp only [w65_26, w65_27, w65_28, w65_29, zk_sI, zk_sJ, zk_sP, zn_sI, zn_sJ, zn_sP, zI_sI, zI_sJ, zI_sP, zJ_sI, zJ_sJ, zJ_sP, zP_sI, zP_sJ, zP_sP, Option.toList_some, Option.toList_none, List.cons_append, List.nil_append, zk_of hP.1, zn_of hP.1, zix, ziN, ne_eq, reduceCtorEq, not_false_eq_true, true_and, and_true, Option.getD_some, Nat.reduceLeDiff, Nat.reduceLT, c_ofNat, zkd0, zp_0_0 hP, zp_0_1 hP, zp_0_2 hP, zp_0_3 hP, zp_0_4 hP, zp_0_5 hP, zp_0_6 hP, zp_0_7 hP, zkd3, znd3, zfx3, zp_3_0 hP, zp_3_1 hP, zkd4, zp_4_0 hP, zp_4_1 hP, zp_4_2 hP, zp_4_3 hP, zp_4_4 hP, zp_4_5 hP, zp_4_6 hP, zkd12, zp_12_2 hP, zp_12_3 hP, zp_12_4 hP]
    refine s96a (b := 0) hP1 (zRo_F hR hF (by omega) (by omega)) (zSt_0 rfl) (zRx_F hrx hF (by omega) (by omega)) h1 h2 (fun M1 g1 g2 g3 => ?_)
    have hF1 := zF_tr hF g1
    have hP2 := zPk_F hP hF1
    simp only [w65_32, w65_33, w65_34, w65_37, w65_38, w65_39, zk_sI, zk_sJ, zk_sP, zn_sI, zn_sJ, zn_sP, zI_sI, zI_sJ, zI_sP, zJ_sI, zJ_sJ, zJ_sP, zP_sI, zP_sJ, zP_sP, Option.toList_some, Option.toList_none, List.cons_append, List.nil_append, zk_of hP2.1, zn_of hP2.1, zix, ziN, ne_eq, reduceCtorEq, not_false_eq_true, true_and, and_true, Option.getD_some, Nat.reduceLeDiff, Nat.reduceLT, c_ofNat, zkd0, zp_0_0 hP2, zp_0_1 hP2, zp_0_2 hP2, zp_0_3 hP2, zp_0_4 hP2, zp_0_5 hP2, zp_0_6 hP2, zp_0_7 hP2, zkd3, znd3, zfx3, zp_3_0 hP2, zp_3_1 hP2, zkd4, zp_4_0 hP2, zp_4_1 hP2, zp_4_2 hP2, zp_4_3 hP2, zp_4_4 hP2, zp_4_5 hP2, zp_4_6 hP2, zkd12, zp_12_2 hP2, zp_12_3 hP2, zp_12_4 hP2, in12, true_or, zp31 hP2, zkd48]
    refine s97 (a := 48) hP2 (zRo_F hR hF1 (by omega) (by omega)) g2 (zRw_of hP2 (Or.inr (Or.inl rfl))) (by decide) (zRx_F hry hF1 (by omega) (by omega)) (zca_n h1 h2) (fun j hj => zca_f hj) (fun k hk _ => zca_fn hk) (fun M2 k1 k2 k3 => ?_)
    have hF2 := zF_tr hF1 k1
    have hP3 := zPk_F hP hF2
    have hFP := zSt_FP (am := (qL q).2.1) (st := s) (r := (qL q).1) k2 (by rw [k3 8 (by decide), g3 8 (by decide)]; rfl) (by rw [k3 9 (by decide), g3 9 (by decide)]; rfl) (by rw [k3 10 (by decide), g3 10 (by decide)]; rfl)
    have hpo := zpm_ok (am := (qL q).2.1) (st := s) hR.1 (zca_n (nu := (qA q).2) (b := 0) h1 h2) (zca_b (by decide)) l0
    simp only [w65_42, w65_43, w65_46, w65_47, w65_50, zk_sI, zk_sJ, zk_sP, zn_sI, zn_sJ, zn_sP, zI_sI, zI_sJ, zI_sP, zJ_sI, zJ_sJ, zJ_sP, zP_sI, zP_sJ, zP_sP, Option.toList_some, Option.toList_none, List.cons_append, List.nil_append, zk_of hP3.1, zn_of hP3.1, zix, ziN, ne_eq, reduceCtorEq, not_false_eq_true, true_and, and_true, Option.getD_some, Nat.reduceLeDiff, Nat.reduceLT, c_ofNat, zkd0, zp_0_0 hP3, zp_0_1 hP3, zp_0_2 hP3, zp_0_3 hP3, zp_0_4 hP3, zp_0_5 hP3, zp_0_6 hP3, zp_0_7 hP3, zkd3, znd3, zfx3, zp_3_0 hP3, zp_3_1 hP3, zkd4, zp_4_0 hP3, zp_4_1 hP3, zp_4_2 hP3, zp_4_3 hP3, zp_4_4 hP3, zp_4_5 hP3, zp_4_6 hP3, zkd12, zp_12_2 hP3, zp_12_3 hP3, zp_12_4 hP3]
    refine s27b hP3 hpo hFP (zLO_F hO hF2 (fun c x y => by omega)) (fun M3 q1 q2 q3 => ?_)
    have hG3 : zG (fun c => 4 ≤ c ∧ c ≤ 25) M M3 := zG_tr (zG_F (zF_mo hF2 (fun c hc => by omega))) (zG_mo q1 (fun c hc => by omega))
    have hP4 := zPk_G hP hG3
    have hfin := h M3 (zUp_G hP hG3 (fun c hc => by omega)) (zKC_G hC hG3 q2)
    change Q (some (.int (zchn (zpm (zca (qA q).2 (qB q).1.1 (qB q).1.2 (qB q).2.1 (qB q).2.2 0) (qL q).2.1 s (qL q).1)))) M3 at hfin
    simp only [w65_53, w65_56, w65_57, w65_60, w65_63, w65_66, w65_68, zk_sI, zk_sJ, zk_sP, zn_sI, zn_sJ, zn_sP, zI_sI, zI_sJ, zI_sP, zJ_sI, zJ_sJ, zJ_sP, zP_sI, zP_sJ, zP_sP, Option.toList_some, Option.toList_none, List.cons_append, List.nil_append, zk_of hP4.1, zn_of hP4.1, zix, ziN, ne_eq, reduceCtorEq, not_false_eq_true, true_and, and_true, Option.getD_some, Nat.reduceLeDiff, Nat.reduceLT, c_ofNat, zkd0, zp_0_0 hP4, zp_0_1 hP4, zp_0_2 hP4, zp_0_3 hP4, zp_0_4 hP4, zp_0_5 hP4, zp_0_6 hP4, zp_0_7 hP4, zkd3, znd3, zfx3, zp_3_0 hP4, zp_3_1 hP4, zkd4, zp_4_0 hP4, zp_4_1 hP4, zp_4_2 hP4, zp_4_3 hP4, zp_4_4 hP4, zp_4_5 hP4, zp_4_6 hP4, zkd12, zp_12_2 hP4, zp_12_3 hP4, zp_12_4 hP4, zB_0]
    refine ⟨fun z => ?_, fun z => ?_⟩
    · rw [zchn, if_neg z] at hfin
      exact hfin
    · have z := Decidable.not_not.mp z
      refine s29b hP4 hpo z (q3 z) ?_
      simp only [w65_63, w65_66, w65_68, zk_sI, zk_sJ, zk_sP, zn_sI, zn_sJ, zn_sP, zI_sI, zI_sJ, zI_sP, zJ_sI, zJ_sJ, zJ_sP, zP_sI, zP_sJ, zP_sP, Option.toList_some, Option.toList_none, List.cons_append, List.nil_append]
      exact hfin
  · have := h M (zUp_rf hP) hC
    rw [if_neg (fun z => g (fun y => y z))] at this
    exact this
theorem C64 {k : Int32} (hv : vQ q) (hP : zPk M) (hC : zKC q M) (h : ∀ M1, zUp M M1 → zKC q M1 → Q (some (.int (aWith q k))) M1) : zC X 64 [.ref 0, .int k] M Q := by
  unfold aWith at h
  have h0 : ¬ bWith q k → Q (some (.int (-2))) M := by
    intro g
    have := h M (zUp_rf hP) hC
    rw [if_neg g] at this
    exact this
  obtain ⟨-, hR, hL, hrx, hry, h1, h2, hO⟩ := zKx_of hv hP hC
  obtain ⟨l0, l1, l2, l3⟩ := hL
  rw [c64]
  simp only [w64_0, w64_1, w64_4, w64_7, w64_8, w64_11, w64_12, w64_13, w64_14, w64_17, w64_18, w64_21, w64_23, w64_24, w64_25, w64_28, w64_29, w64_32, w64_33, w64_36, w64_37, w64_40, w64_43, w64_44, w64_45, w64_46, w64_49, w64_50, w64_51, w64_54, w64_55, w64_56, w64_59, w64_60, w64_63, w64_64, w64_67, w64_70, w64_73, w64_74, w64_77, w64_80, w64_83, w64_85, zk_sI, zk_sJ, zk_sP, zn_sI, zn_sJ, zn_sP, zI_sI, zI_sJ, zI_sP, zJ_sI, zJ_sJ, zJ_sP, zP_sI, zP_sJ, zP_sP, Option.toList_some, Option.toList_none, List.cons_append, List.nil_append]
  refine s86 ?_
  simp only [w64_4, w64_7, w64_8, w64_11, w64_12, w64_13, w64_14, w64_21, w64_23, zk_sI, zk_sJ, zk_sP, zn_sI, zn_sJ, zn_sP, zI_sI, zI_sJ, zI_sP, zJ_sI, zJ_sJ, zJ_sP, zP_sI, zP_sJ, zP_sP, Option.toList_some, Option.toList_none, List.cons_append, List.nil_append, zk_of hP.1, zn_of hP.1, zix, ziN, ne_eq, reduceCtorEq, not_false_eq_true, true_and, and_true, Option.getD_some, Nat.reduceLeDiff, Nat.reduceLT, c_ofNat, zkd0, zp_0_0 hP, zp_0_1 hP, zp_0_2 hP, zp_0_3 hP, zp_0_4 hP, zp_0_5 hP, zp_0_6 hP, zp_0_7 hP, zkd3, znd3, zfx3, zp_3_0 hP, zp_3_1 hP, zkd46, zp_46_0 hP, zkd48, zp_48_0 hP, zB_0, in02, in12, true_or, zp30 hP, zp31 hP]
  refine ⟨fun g => h0 (fun z => g (place_in.mpr z.1)), fun g => ?_⟩
  have g := place_in.mp (Classical.not_not.mp g)
  obtain ⟨e, e1, rfl⟩ := zin_o (n := 2) rfl (by decide) g
  refine s42 (a := 46) (zRw_of hP (Or.inl rfl)) (by omega) ?_
  have ew : zf_I M (46 + 1) e = zvo (zwh q 0 e) := (hC.2.2.1.2.2 e (by omega)).1
  have hnn := zvo_n (o := zwh q 0 e) (fun f e => by have := zwh_lt hv e; omega)
  simp only [w64_17, w64_18, w64_21, w64_23, w64_24, w64_25, w64_28, w64_29, w64_32, w64_33, w64_36, w64_37, w64_40, zk_sI, zk_sJ, zk_sP, zn_sI, zn_sJ, zn_sP, zI_sI, zI_sJ, zI_sP, zJ_sI, zJ_sJ, zJ_sP, zP_sI, zP_sJ, zP_sP, Option.toList_some, Option.toList_none, List.cons_append, List.nil_append, zk_of hP.1, zn_of hP.1, zix, ziN, ne_eq, reduceCtorEq, not_false_eq_true, true_and, and_true, Option.getD_some, Nat.reduceLeDiff, Nat.reduceLT, c_ofNat, zkd0, zp_0_0 hP, zp_0_1 hP, zp_0_2 hP, zp_0_3 hP, zp_0_4 hP, zp_0_5 hP, zp_0_6 hP, zp_0_7 hP, zkd3, znd3, zfx3, zp_3_0 hP, zp_3_1 hP, zkd4, zp_4_0 hP, zp_4_1 hP, zp_4_2 hP, zp_4_3 hP, zp_4_4 hP, zp_4_5 hP, zp_4_6 hP, zkd12, zp_12_2 hP, zp_12_3 hP, zp_12_4 hP, ew, hnn, l1, l2, l3]
  refine ⟨fun g2 => ?_, fun g2 => h0 (fun z => z.2 (by rw [n_cl (by omega)]; exact Classical.not_not.mp g2))⟩
  have hb : bWith q (nI e) := ⟨g, by rw [n_cl (by omega)]; exact g2⟩
  rw [if_pos hb, n_cl (by omega)] at h
  have he : e < (qB q).1.1 := by
    refine Classical.byContradiction (fun z => g2 ?_)
    show zat (qB q).1 e = none
    rw [zat, if_neg z]
  refine s7 hP ?_
  have hF : zF (fun c => 4 ≤ c ∧ c ≤ 11) M (zf_sI (zf_sI (zf_sI (zf_sI M 4 8 (nI (qL q).1)) 4 9 (qL q).2.1) 4 10 (qL q).2.2) 4 7 0) := zF_sI (zF_sI (zF_sI (zF_sI (zF_rf _ _) ⟨by omega, by omega⟩) ⟨by omega, by omega⟩) ⟨by omega, by omega⟩) ⟨by omega, by omega⟩
  have hP1 := zPk_F hP hF
  have h4 := vRow_wo hv.2.1.1 he
  simp only [w64_43, w64_44, w64_45, w64_46, zk_sI, zk_sJ, zk_sP, zn_sI, zn_sJ, zn_sP, zI_sI, zI_sJ, zI_sP, zJ_sI, zJ_sJ, zJ_sP, zP_sI, zP_sJ, zP_sP, Option.toList_some, Option.toList_none, List.cons_append, List.nil_append, zk_of hP.1, zn_of hP.1, zix, ziN, ne_eq, reduceCtorEq, not_false_eq_true, true_and, and_true, Option.getD_some, Nat.reduceLeDiff, Nat.reduceLT, c_ofNat, zkd0, zp_0_0 hP, zp_0_1 hP, zp_0_2 hP, zp_0_3 hP, zp_0_4 hP, zp_0_5 hP, zp_0_6 hP, zp_0_7 hP, zkd3, znd3, zfx3, zp_3_0 hP, zp_3_1 hP, zkd4, zp_4_0 hP, zp_4_1 hP, zp_4_2 hP, zp_4_3 hP, zp_4_4 hP, zp_4_5 hP, zp_4_6 hP, zkd12, zp_12_2 hP, zp_12_3 hP, zp_12_4 hP]
  refine s96b (b := 0) hP1 (zRo_F hR hF (by omega) (by omega)) he (zSt_0 rfl) (zRx_F hrx hF (by omega) (by omega)) h1 h2 (fun M1 g1 g2 g3 => ?_)
  have hF1 := zF_tr hF g1
  have hP2 := zPk_F hP hF1
  simp only [w64_49, w64_50, w64_51, w64_54, w64_55, w64_56, zk_sI, zk_sJ, zk_sP, zn_sI, zn_sJ, zn_sP, zI_sI, zI_sJ, zI_sP, zJ_sI, zJ_sJ, zJ_sP, zP_sI, zP_sJ, zP_sP, Option.toList_some, Option.toList_none, List.cons_append, List.nil_append, zk_of hP2.1, zn_of hP2.1, zix, ziN, ne_eq, reduceCtorEq, not_false_eq_true, true_and, and_true, Option.getD_some, Nat.reduceLeDiff, Nat.reduceLT, c_ofNat, zkd0, zp_0_0 hP2, zp_0_1 hP2, zp_0_2 hP2, zp_0_3 hP2, zp_0_4 hP2, zp_0_5 hP2, zp_0_6 hP2, zp_0_7 hP2, zkd3, znd3, zfx3, zp_3_0 hP2, zp_3_1 hP2, zkd4, zp_4_0 hP2, zp_4_1 hP2, zp_4_2 hP2, zp_4_3 hP2, zp_4_4 hP2, zp_4_5 hP2, zp_4_6 hP2, zkd12, zp_12_2 hP2, zp_12_3 hP2, zp_12_4 hP2, in12, true_or, zp31 hP2, zkd48]
  refine s97 (a := 48) hP2 (zRo_F hR hF1 (by omega) (by omega)) g2 (zRw_of hP2 (Or.inr (Or.inl rfl))) (by decide) (zRx_F hry hF1 (by omega) (by omega)) (zca_n h4 h2) (fun j hj => zca_f hj) (fun k hk _ => zca_fn hk) (fun M2 k1 k2 k3 => ?_)
  have hF2 := zF_tr hF1 k1
  have hP3 := zPk_F hP hF2
  have hFP := zSt_FP (am := (qL q).2.1) (st := (qL q).2.2) (r := (qL q).1) k2 (by rw [k3 8 (by decide), g3 8 (by decide)]; rfl) (by rw [k3 9 (by decide), g3 9 (by decide)]; rfl) (by rw [k3 10 (by decide), g3 10 (by decide)]; rfl)
  have hpo := zpm_ok (am := (qL q).2.1) (st := (qL q).2.2) hR.1 (zca_n (nu := (qA q).2) (b := 0) h4 h2) (zca_b (by decide)) l0
  simp only [w64_59, w64_60, w64_63, w64_64, w64_67, zk_sI, zk_sJ, zk_sP, zn_sI, zn_sJ, zn_sP, zI_sI, zI_sJ, zI_sP, zJ_sI, zJ_sJ, zJ_sP, zP_sI, zP_sJ, zP_sP, Option.toList_some, Option.toList_none, List.cons_append, List.nil_append, zk_of hP3.1, zn_of hP3.1, zix, ziN, ne_eq, reduceCtorEq, not_false_eq_true, true_and, and_true, Option.getD_some, Nat.reduceLeDiff, Nat.reduceLT, c_ofNat, zkd0, zp_0_0 hP3, zp_0_1 hP3, zp_0_2 hP3, zp_0_3 hP3, zp_0_4 hP3, zp_0_5 hP3, zp_0_6 hP3, zp_0_7 hP3, zkd3, znd3, zfx3, zp_3_0 hP3, zp_3_1 hP3, zkd4, zp_4_0 hP3, zp_4_1 hP3, zp_4_2 hP3, zp_4_3 hP3, zp_4_4 hP3, zp_4_5 hP3, zp_4_6 hP3, zkd12, zp_12_2 hP3, zp_12_3 hP3, zp_12_4 hP3]
  refine s27b hP3 hpo hFP (zLO_F hO hF2 (fun c x y => by omega)) (fun M3 q1 q2 q3 => ?_)
  have hG3 : zG (fun c => 4 ≤ c ∧ c ≤ 25) M M3 := zG_tr (zG_F (zF_mo hF2 (fun c hc => by omega))) (zG_mo q1 (fun c hc => by omega))
  have hP4 := zPk_G hP hG3
  have hfin := h M3 (zUp_G hP hG3 (fun c hc => by omega)) (zKC_G hC hG3 q2)
  change Q (some (.int (zchn (zpm (zca (qA q).2 ((qB q).1.1 - 1) (fun k => if k < e then (qB q).1.2 k else (qB q).1.2 (k + 1)) (qB q).2.1 (qB q).2.2 0) (qL q).2.1 (qL q).2.2 (qL q).1)))) M3 at hfin
  simp only [w64_70, w64_73, w64_74, w64_77, w64_80, w64_83, w64_85, zk_sI, zk_sJ, zk_sP, zn_sI, zn_sJ, zn_sP, zI_sI, zI_sJ, zI_sP, zJ_sI, zJ_sJ, zJ_sP, zP_sI, zP_sJ, zP_sP, Option.toList_some, Option.toList_none, List.cons_append, List.nil_append, zk_of hP4.1, zn_of hP4.1, zix, ziN, ne_eq, reduceCtorEq, not_false_eq_true, true_and, and_true, Option.getD_some, Nat.reduceLeDiff, Nat.reduceLT, c_ofNat, zkd0, zp_0_0 hP4, zp_0_1 hP4, zp_0_2 hP4, zp_0_3 hP4, zp_0_4 hP4, zp_0_5 hP4, zp_0_6 hP4, zp_0_7 hP4, zkd3, znd3, zfx3, zp_3_0 hP4, zp_3_1 hP4, zkd4, zp_4_0 hP4, zp_4_1 hP4, zp_4_2 hP4, zp_4_3 hP4, zp_4_4 hP4, zp_4_5 hP4, zp_4_6 hP4, zkd12, zp_12_2 hP4, zp_12_3 hP4, zp_12_4 hP4, zB_0]
  refine ⟨fun z => ?_, fun z => ?_⟩
  · rw [zchn, if_neg z] at hfin
    exact hfin
  · have z := Decidable.not_not.mp z
    refine s29b hP4 hpo z (q3 z) ?_
    simp only [w64_80, w64_83, w64_85, zk_sI, zk_sJ, zk_sP, zn_sI, zn_sJ, zn_sP, zI_sI, zI_sJ, zI_sP, zJ_sI, zJ_sJ, zJ_sP, zP_sI, zP_sJ, zP_sP, Option.toList_some, Option.toList_none, List.cons_append, List.nil_append]
    exact hfin
theorem M141 {s : Int32} (hv : vQ q) (hP : zPk M) (hM : zKM q M) (h : ∀ M1, zDn M M1 → zKM q M1 → Q (some (.int (aSurp q s))) M1) : zC X 141 [.ref 58, .int s] M Q := by
  unfold aSurp at h
  rw [c141]
  simp only [w141_0, w141_1, w141_2, w141_5, w141_6, w141_9, w141_12, w141_14, w141_15, w141_16, w141_17, w141_20, w141_21, w141_22, w141_25, w141_26, w141_29, w141_32, w141_34, w141_37, w141_38, w141_41, zk_sI, zk_sJ, zk_sP, zn_sI, zn_sJ, zn_sP, zI_sI, zI_sJ, zI_sP, zJ_sI, zJ_sJ, zJ_sP, zP_sI, zP_sJ, zP_sP, Option.toList_some, Option.toList_none, List.cons_append, List.nil_append]
  refine s103i (-1) 1 rfl rfl ?_
  simp only [w141_6, w141_9, w141_12, w141_14, w141_15, w141_16, w141_17, zk_sI, zk_sJ, zk_sP, zn_sI, zn_sJ, zn_sP, zI_sI, zI_sJ, zI_sP, zJ_sI, zJ_sJ, zJ_sP, zP_sI, zP_sJ, zP_sP, Option.toList_some, Option.toList_none, List.cons_append, List.nil_append, zk_of hP.1, zn_of hP.1, zix, ziN, ne_eq, reduceCtorEq, not_false_eq_true, true_and, and_true, Option.getD_some, Nat.reduceLeDiff, Nat.reduceLT, c_ofNat, zkd58, zp_58_1 hP, zp_58_2 hP, zp_58_6 hP, zp_58_7 hP, zp_58_10 hP, zp_58_11 hP, zp_58_12 hP, zp_58_14 hP, zp_58_15 hP, zp_58_17 hP, zp_58_18 hP, zp_58_19 hP, zp_58_20 hP, zp_58_21 hP, zp_58_22 hP, zp_58_24 hP, zp_58_26 hP, zp_58_29 hP, zp_58_32 hP, zp_58_33 hP, zp_58_34 hP, zp_58_35 hP, zp_58_36 hP, zp_58_37 hP, zp_58_38 hP, zp_58_39 hP, zB_0]
  refine ⟨fun g => ?_, fun g => ?_⟩
  · have g := Classical.not_not.mp g
    rw [if_pos g] at h
    refine s115q (b := 0) hv hP hM (by decide) (fun M1 g1 g2 g3 g4 => ?_)
    have hX2 : zMX M1 (zf_sI M1 58 8 s) := ⟨zF_sI (zF_rf _ _) (Or.inl rfl), fun j a _ _ _ _ => zI_ne (by omega)⟩
    have hP2 := zPk_F g2 hX2.1
    obtain ⟨y1, y2, y3, y4, y5, y6⟩ := g4
    have hS : zMS (zcq q 0) (qA q).1 (qL q).2.1 s (qL q).1 (zf_sI M1 58 8 s) := ⟨zMC_F (S := fun c => c = 58) y1 (zF_sI (zF_rf _ _) rfl) (by omega) (by omega), y2, (zI_ne (by omega)).trans y3, (zI_ne (by omega)).trans y4, zI_eq, y6⟩
    simp only [w141_20, w141_21, w141_22, w141_25, w141_26, zk_sI, zk_sJ, zk_sP, zn_sI, zn_sJ, zn_sP, zI_sI, zI_sJ, zI_sP, zJ_sI, zJ_sJ, zJ_sP, zP_sI, zP_sJ, zP_sP, Option.toList_some, Option.toList_none, List.cons_append, List.nil_append, zk_of hP2.1, zn_of hP2.1, zix, ziN, ne_eq, reduceCtorEq, not_false_eq_true, true_and, and_true, Option.getD_some, Nat.reduceLeDiff, Nat.reduceLT, c_ofNat, zkd58, zp_58_1 hP2, zp_58_2 hP2, zp_58_6 hP2, zp_58_7 hP2, zp_58_10 hP2, zp_58_11 hP2, zp_58_12 hP2, zp_58_14 hP2, zp_58_15 hP2, zp_58_17 hP2, zp_58_18 hP2, zp_58_19 hP2, zp_58_20 hP2, zp_58_21 hP2, zp_58_22 hP2, zp_58_24 hP2, zp_58_26 hP2, zp_58_29 hP2, zp_58_32 hP2, zp_58_33 hP2, zp_58_34 hP2, zp_58_35 hP2, zp_58_36 hP2, zp_58_37 hP2, zp_58_38 hP2, zp_58_39 hP2, zk_of g2.1, zn_of g2.1, zix, ziN, ne_eq, reduceCtorEq, not_false_eq_true, true_and, and_true, Option.getD_some, Nat.reduceLeDiff, Nat.reduceLT, c_ofNat, zkd58, zp_58_1 g2, zp_58_2 g2, zp_58_6 g2, zp_58_7 g2, zp_58_10 g2, zp_58_11 g2, zp_58_12 g2, zp_58_14 g2, zp_58_15 g2, zp_58_17 g2, zp_58_18 g2, zp_58_19 g2, zp_58_20 g2, zp_58_21 g2, zp_58_22 g2, zp_58_24 g2, zp_58_26 g2, zp_58_29 g2, zp_58_32 g2, zp_58_33 g2, zp_58_34 g2, zp_58_35 g2, zp_58_36 g2, zp_58_37 g2, zp_58_38 g2, zp_58_39 g2]
    have hpo : zPo (zpm (zcq q 0) (qL q).2.1 s (qL q).1) := zpm_ok hv.1 (zca_n hv.2.1.1.2 hv.2.1.2.2) (zca_b (by decide)) hv.2.2.1
    refine s129q (p := zpm (zcq q 0) (qL q).2.1 s (qL q).1) (zKM_X g3 hX2) rfl hpo hP2 hS (fun M2 x1 x2 x3 x4 x5 x6 => ?_)
    have hfin := h M2 (zDn_X (zMX_tr g1 (zMX_tr hX2 x1))) x3
    generalize zpm (zcq q 0) (qL q).2.1 s (qL q).1 = p at *
    by_cases g : zrun p
    · rw [if_pos g]
      simp only [w141_29, w141_32, w141_34, w141_37, w141_38, w141_41, zk_sI, zk_sJ, zk_sP, zn_sI, zn_sJ, zn_sP, zI_sI, zI_sJ, zI_sP, zJ_sI, zJ_sJ, zJ_sP, zP_sI, zP_sJ, zP_sP, Option.toList_some, Option.toList_none, List.cons_append, List.nil_append, zk_of x2.1, zn_of x2.1, zix, ziN, ne_eq, reduceCtorEq, not_false_eq_true, true_and, and_true, Option.getD_some, Nat.reduceLeDiff, Nat.reduceLT, c_ofNat, zkd58, zp_58_1 x2, zp_58_2 x2, zp_58_6 x2, zp_58_7 x2, zp_58_10 x2, zp_58_11 x2, zp_58_12 x2, zp_58_14 x2, zp_58_15 x2, zp_58_17 x2, zp_58_18 x2, zp_58_19 x2, zp_58_20 x2, zp_58_21 x2, zp_58_22 x2, zp_58_24 x2, zp_58_26 x2, zp_58_29 x2, zp_58_32 x2, zp_58_33 x2, zp_58_34 x2, zp_58_35 x2, zp_58_36 x2, zp_58_37 x2, zp_58_38 x2, zp_58_39 x2, true_implies, not_true_eq_false, false_implies, and_true]
      refine s131 x2 hpo g (x6 g) x4 x5 ?_
      simp only [w141_29, w141_32, w141_34, w141_37, w141_38, w141_41, zk_sI, zk_sJ, zk_sP, zn_sI, zn_sJ, zn_sP, zI_sI, zI_sJ, zI_sP, zJ_sI, zJ_sJ, zJ_sP, zP_sI, zP_sJ, zP_sP, Option.toList_some, Option.toList_none, List.cons_append, List.nil_append]
      exact hfin
    · rw [zchn, if_neg g] at hfin
      rw [if_neg g]
      simp only [w141_29, w141_32, w141_34, w141_37, w141_38, w141_41, zk_sI, zk_sJ, zk_sP, zn_sI, zn_sJ, zn_sP, zI_sI, zI_sJ, zI_sP, zJ_sI, zJ_sJ, zJ_sP, zP_sI, zP_sJ, zP_sP, Option.toList_some, Option.toList_none, List.cons_append, List.nil_append, n5, true_implies, not_false_eq_true, not_true_eq_false, false_implies, true_and, and_true]
      exact hfin
  · have := h M (zF_rf _ _) hM
    rw [if_neg (fun z => g (fun y => y z))] at this
    exact this
theorem M140 {k : Int32} (hv : vQ q) (hP : zPk M) (hM : zKM q M) (h : ∀ M1, zDn M M1 → zKM q M1 → Q (some (.int (aWith q k))) M1) : zC X 140 [.ref 58, .int k] M Q := by
  unfold aWith at h
  have h0 : ¬ bWith q k → Q (some (.int (-2))) M := by
    intro g
    have := h M (zF_rf _ _) hM
    rw [if_neg g] at this
    exact this
  rw [c140]
  simp only [w140_0, w140_1, w140_2, w140_3, w140_6, w140_9, w140_12, w140_13, w140_16, w140_17, w140_18, w140_19, w140_22, w140_24, w140_25, w140_26, w140_27, w140_30, w140_31, w140_33, w140_34, w140_37, w140_38, w140_41, w140_42, w140_43, w140_46, w140_47, w140_48, w140_49, w140_50, w140_51, w140_54, w140_57, w140_58, w140_61, w140_62, w140_63, w140_64, w140_65, w140_68, w140_71, w140_73, w140_76, w140_77, w140_80, zk_sI, zk_sJ, zk_sP, zn_sI, zn_sJ, zn_sP, zI_sI, zI_sJ, zI_sP, zJ_sI, zJ_sJ, zJ_sP, zP_sI, zP_sJ, zP_sP, Option.toList_some, Option.toList_none, List.cons_append, List.nil_append]
  refine s103i 0 2 rfl rfl ?_
  simp only [w140_9, w140_22, w140_24, zk_sI, zk_sJ, zk_sP, zn_sI, zn_sJ, zn_sP, zI_sI, zI_sJ, zI_sP, zJ_sI, zJ_sJ, zJ_sP, zP_sI, zP_sJ, zP_sP, Option.toList_some, Option.toList_none, List.cons_append, List.nil_append, zB_0]
  refine ⟨fun g => h0 (fun z => g z.1), fun g => ?_⟩
  have g := Classical.not_not.mp g
  obtain ⟨e, e1, rfl⟩ := zin_o (n := 2) rfl (by decide) g
  have ew : zf_I M 60 e = zvo (zwh q 0 e) := (hM.2.1 e (by omega)).1
  have hnn := zvo_n (o := zwh q 0 e) (fun f e => by have := zwh_lt hv e; omega)
  simp only [w140_12, w140_13, w140_16, w140_17, w140_18, w140_19, w140_22, w140_24, w140_25, w140_26, w140_27, w140_30, w140_31, zk_sI, zk_sJ, zk_sP, zn_sI, zn_sJ, zn_sP, zI_sI, zI_sJ, zI_sP, zJ_sI, zJ_sJ, zJ_sP, zP_sI, zP_sJ, zP_sP, Option.toList_some, Option.toList_none, List.cons_append, List.nil_append, zk_of hP.1, zn_of hP.1, zix, ziN, ne_eq, reduceCtorEq, not_false_eq_true, true_and, and_true, Option.getD_some, Nat.reduceLeDiff, Nat.reduceLT, c_ofNat, zkd58, zp_58_1 hP, zp_58_2 hP, zp_58_6 hP, zp_58_7 hP, zp_58_10 hP, zp_58_11 hP, zp_58_12 hP, zp_58_14 hP, zp_58_15 hP, zp_58_17 hP, zp_58_18 hP, zp_58_19 hP, zp_58_20 hP, zp_58_21 hP, zp_58_22 hP, zp_58_24 hP, zp_58_26 hP, zp_58_29 hP, zp_58_32 hP, zp_58_33 hP, zp_58_34 hP, zp_58_35 hP, zp_58_36 hP, zp_58_37 hP, zp_58_38 hP, zp_58_39 hP, zkd60, znd60, zfx60, ew, hnn, n_cl (show e < 2 ^ 31 by omega), n_in (show e < 6 by omega) (show 6 < 2 ^ 31 by decide)]
  refine ⟨fun g2 => ?_, fun g2 => h0 (fun z => z.2 (by rw [n_cl (by omega)]; exact Classical.not_not.mp g2))⟩
  have hb : bWith q (nI e) := ⟨g, by rw [n_cl (by omega)]; exact g2⟩
  rw [if_pos hb, n_cl (by omega)] at h
  have he : e < (qB q).1.1 := by
    refine Classical.byContradiction (fun z => g2 ?_)
    show zat (qB q).1 e = none
    rw [zat, if_neg z]
  have hv3 := hv.2.1.1.1
  refine s115q (b := 0) hv hP hM (by decide) (fun M1 g1 hP1 hM1 g4 => ?_)
  obtain ⟨y1, y2, y3, y4, y5, y6⟩ := g4
  have h4 := vRow_wo hv.2.1.1 he
  have fin : ∀ (M2 : zf_M), zF (fun c => c = 61) M1 M2 → (∀ j, j < 2 → zf_I M2 61 j = zvo (zat (qB q).1 (if j < e then j else j + 1))) → (∀ j, 3 ≤ j → zf_I M2 61 j = zf_I M1 61 j) → zW X 140 57 [.val (.ref 58), .val (.int (nI e)), .val (.int (nI 2))] [] M2 Q := by
    intro M2 k1 k2 k3
    have hP2 := zPk_F hP1 k1
    have hX2 : zMX M1 (zf_sI M2 61 2 (-1)) := ⟨zF_sI (zF_mo k1 (fun c hc => by omega)) (by omega), fun j _ _ _ _ _ => by rw [zI_ne (by omega)]; exact (k1.2.1 58 (by omega) j).1⟩
    have hP3 := zPk_F hP1 hX2.1
    have hS : zMS (zcw q e) (qA q).1 (qL q).2.1 (qL q).2.2 (qL q).1 (zf_sI M2 61 2 (-1)) := by
      have e58 : ∀ j, zf_I (zf_sI M2 61 2 (-1)) 58 j = zf_I M1 58 j := fun j => by rw [zI_ne (by omega)]; exact (k1.2.1 58 (by omega) j).1
      refine ⟨⟨⟨hv.1, fun i hi => ?_⟩, fun k hk => ?_, zca_n h4 hv.2.1.2.2⟩, fun k hk => ⟨?_, zca_b (by decide) k⟩, by rw [e58]; exact y3, by rw [e58]; exact y4, by rw [e58]; exact y5, y6⟩
      · rw [zI_ne (by omega), (k1.2.1 59 (by omega) i).1]
        exact hM1.1.2 i hi
      · by_cases hk3 : k < 3
        · have ez : (zcw q e).2.1 k = if k < (qB q).1.1 - 1 then some (if k < e then (qB q).1.2 k else (qB q).1.2 (k + 1)) else none := if_pos hk3
          rw [ez]
          by_cases hk2 : k = 2
          · rw [hk2, zI_eq, if_neg (by omega)]
            rfl
          · rw [zI_ne (by omega), k2 k (by omega), zat]
            by_cases g3 : k < e
            · rw [if_pos g3, if_pos (show k < (qB q).1.1 by omega), if_pos (show k < (qB q).1.1 - 1 by omega), if_pos g3]
            · rw [if_neg g3]
              by_cases g4 : k + 1 < (qB q).1.1
              · rw [if_pos g4, if_pos (show k < (qB q).1.1 - 1 by omega), if_neg g3]
              · rw [if_neg g4, if_neg (show ¬ k < (qB q).1.1 - 1 by omega)]
        · rw [zI_ne (by omega), k3 k (by omega), y1.2.1 k hk]
          have ez : (zcw q e).2.1 k = (zcq q 0).2.1 k := by
            show (if k < 3 then _ else _) = if k < 3 then _ else _
            rw [if_neg hk3, if_neg hk3]
          rw [ez]
      · rw [zI_ne (by omega), (k1.2.1 62 (by omega) k).1, (y2 k hk).1]
        rfl
    have v2 : vp_in 2 6 := vp_in_nI (n := 2) (by decide) (by decide)
    simp only [w140_57, w140_58, w140_61, w140_62, w140_63, w140_64, w140_65, zk_sI, zk_sJ, zk_sP, zn_sI, zn_sJ, zn_sP, zI_sI, zI_sJ, zI_sP, zJ_sI, zJ_sJ, zJ_sP, zP_sI, zP_sJ, zP_sP, Option.toList_some, Option.toList_none, List.cons_append, List.nil_append, zk_of hP2.1, zn_of hP2.1, zix, ziN, ne_eq, reduceCtorEq, not_false_eq_true, true_and, and_true, Option.getD_some, Nat.reduceLeDiff, Nat.reduceLT, c_ofNat, zkd58, zp_58_1 hP2, zp_58_2 hP2, zp_58_6 hP2, zp_58_7 hP2, zp_58_10 hP2, zp_58_11 hP2, zp_58_12 hP2, zp_58_14 hP2, zp_58_15 hP2, zp_58_17 hP2, zp_58_18 hP2, zp_58_19 hP2, zp_58_20 hP2, zp_58_21 hP2, zp_58_22 hP2, zp_58_24 hP2, zp_58_26 hP2, zp_58_29 hP2, zp_58_32 hP2, zp_58_33 hP2, zp_58_34 hP2, zp_58_35 hP2, zp_58_36 hP2, zp_58_37 hP2, zp_58_38 hP2, zp_58_39 hP2, zkd61, znd61, zfx61]
    refine ⟨v2, ?_⟩
    have hpo : zPo (zpm (zcw q e) (qL q).2.1 (qL q).2.2 (qL q).1) := zpm_ok hv.1 (zca_n h4 hv.2.1.2.2) (zca_b (by decide)) hv.2.2.1
    refine s129q (p := zpm (zcw q e) (qL q).2.1 (qL q).2.2 (qL q).1) (zKM_X hM1 hX2) rfl hpo hP3 hS (fun M3 x1 x2 x3 x4 x5 x6 => ?_)
    have hfin := h M3 (zDn_X (zMX_tr g1 (zMX_tr hX2 x1))) x3
    generalize zpm (zcw q e) (qL q).2.1 (qL q).2.2 (qL q).1 = p at *
    by_cases g : zrun p
    · rw [if_pos g]
      simp only [w140_68, w140_71, w140_73, w140_76, w140_77, w140_80, zk_sI, zk_sJ, zk_sP, zn_sI, zn_sJ, zn_sP, zI_sI, zI_sJ, zI_sP, zJ_sI, zJ_sJ, zJ_sP, zP_sI, zP_sJ, zP_sP, Option.toList_some, Option.toList_none, List.cons_append, List.nil_append, zk_of x2.1, zn_of x2.1, zix, ziN, ne_eq, reduceCtorEq, not_false_eq_true, true_and, and_true, Option.getD_some, Nat.reduceLeDiff, Nat.reduceLT, c_ofNat, zkd58, zp_58_1 x2, zp_58_2 x2, zp_58_6 x2, zp_58_7 x2, zp_58_10 x2, zp_58_11 x2, zp_58_12 x2, zp_58_14 x2, zp_58_15 x2, zp_58_17 x2, zp_58_18 x2, zp_58_19 x2, zp_58_20 x2, zp_58_21 x2, zp_58_22 x2, zp_58_24 x2, zp_58_26 x2, zp_58_29 x2, zp_58_32 x2, zp_58_33 x2, zp_58_34 x2, zp_58_35 x2, zp_58_36 x2, zp_58_37 x2, zp_58_38 x2, zp_58_39 x2, true_implies, not_true_eq_false, false_implies, and_true]
      refine s131 x2 hpo g (x6 g) x4 x5 ?_
      simp only [w140_80, zk_sI, zk_sJ, zk_sP, zn_sI, zn_sJ, zn_sP, zI_sI, zI_sJ, zI_sP, zJ_sI, zJ_sJ, zJ_sP, zP_sI, zP_sJ, zP_sP, Option.toList_some, Option.toList_none, List.cons_append, List.nil_append]
      exact hfin
    · rw [zchn, if_neg g] at hfin
      rw [if_neg g]
      simp only [w140_68, w140_71, w140_73, w140_76, w140_77, w140_80, zk_sI, zk_sJ, zk_sP, zn_sI, zn_sJ, zn_sP, zI_sI, zI_sJ, zI_sP, zJ_sI, zJ_sJ, zJ_sP, zP_sI, zP_sJ, zP_sP, Option.toList_some, Option.toList_none, List.cons_append, List.nil_append, n5, true_implies, not_false_eq_true, not_true_eq_false, false_implies, true_and, and_true]
      exact hfin
  have eB : ∀ j, j < 3 → zf_I M1 61 j = zvo (zat (qB q).1 j) := fun j hj => by
    rw [y1.2.1 j (by omega)]
    congr 1
    exact zat_h hj
  have loop : ∀ (m k : Nat) (M2 : zf_M), k + m = 2 → e ≤ k → zF (fun c => c = 61) M1 M2 → (∀ j, j < k → zf_I M2 61 j = zvo (zat (qB q).1 (if j < e then j else j + 1))) → (∀ j, k ≤ j → zf_I M2 61 j = zf_I M1 61 j) → zW X 140 32 [.val (.ref 58), .val (.int (nI e)), .val (.int (nI k))] [] M2 Q := by
    intro m
    induction m with
    | zero =>
      intro k M2 hk hek k1 k2 k3
      obtain rfl : k = 2 := by omega
      rw [w140_32]
      simp only [w140_33, w140_34, zk_sI, zk_sJ, zk_sP, zn_sI, zn_sJ, zn_sP, zI_sI, zI_sJ, zI_sP, zJ_sI, zJ_sJ, zJ_sP, zP_sI, zP_sJ, zP_sP, Option.toList_some, Option.toList_none, List.cons_append, List.nil_append]
      exact ⟨fun _ => fin M2 k1 k2 (fun j hj => k3 j (by omega)), fun z => absurd (by decide) z⟩
    | succ m ih =>
      intro k M2 hk hek k1 k2 k3
      have hP2 := zPk_F hP1 k1
      have ek : zf_I M2 61 (k + 1) = zvo (zat (qB q).1 (k + 1)) := by rw [k3 _ (by omega), eB _ (by omega)]
      rw [w140_32]
      simp only [w140_33, w140_34, w140_37, w140_38, w140_41, w140_42, w140_43, w140_46, w140_47, w140_48, w140_49, w140_50, w140_51, w140_54, zk_sI, zk_sJ, zk_sP, zn_sI, zn_sJ, zn_sP, zI_sI, zI_sJ, zI_sP, zJ_sI, zJ_sJ, zJ_sP, zP_sI, zP_sJ, zP_sP, Option.toList_some, Option.toList_none, List.cons_append, List.nil_append, zk_of hP2.1, zn_of hP2.1, zix, ziN, ne_eq, reduceCtorEq, not_false_eq_true, true_and, and_true, Option.getD_some, Nat.reduceLeDiff, Nat.reduceLT, c_ofNat, zkd58, zp_58_1 hP2, zp_58_2 hP2, zp_58_6 hP2, zp_58_7 hP2, zp_58_10 hP2, zp_58_11 hP2, zp_58_12 hP2, zp_58_14 hP2, zp_58_15 hP2, zp_58_17 hP2, zp_58_18 hP2, zp_58_19 hP2, zp_58_20 hP2, zp_58_21 hP2, zp_58_22 hP2, zp_58_24 hP2, zp_58_26 hP2, zp_58_29 hP2, zp_58_32 hP2, zp_58_33 hP2, zp_58_34 hP2, zp_58_35 hP2, zp_58_36 hP2, zp_58_37 hP2, zp_58_38 hP2, zp_58_39 hP2, zkd61, znd61, zfx61, n_a1, n_cl (show k < 2 ^ 31 by omega), n_cl (show k + 1 < 2 ^ 31 by omega), n_in (show k < 6 by omega) (show 6 < 2 ^ 31 by decide), n_in (show k + 1 < 6 by omega) (show 6 < 2 ^ 31 by decide), ek]
      rw [c_2, n_le (by decide) (by omega)]
      refine ⟨fun z => by omega, fun _ => ih (k + 1) _ (by omega) (by omega) (zF_sI k1 rfl) (fun j hj => ?_) (fun j hj => ?_)⟩
      · by_cases ej : j = k
        · rw [ej, zI_eq, if_neg (by omega)]
        · rw [zI_ne (by omega)]
          exact k2 j (by omega)
      · rw [zI_ne (by omega)]
        exact k3 j (by omega)
  simp only [w140_30, w140_31, zk_sI, zk_sJ, zk_sP, zn_sI, zn_sJ, zn_sP, zI_sI, zI_sJ, zI_sP, zJ_sI, zJ_sJ, zJ_sP, zP_sI, zP_sJ, zP_sP, Option.toList_some, Option.toList_none, List.cons_append, List.nil_append]
  exact loop (2 - e) e M1 (by omega) (Nat.le_refl _) (zF_rf _ _) (fun j hj => by rw [if_pos hj]; exact eB j (by omega)) (fun j hj => rfl)
end ZWh
