/-! ===== play: the call, the class's ===== -/
def zpR (q : tQ) (s : Nat) : Option (Nat × Nat × Nat) := zpl (zpq q 0) (fun j => (qS q).2.2 s j) ((qS q).2.1 s)
def zlv (q : tQ) (N : Nat) (k : Nat) : Int32 := if (zcq q 0).2.1 k = none then -2 else nI (dg N k % 32)
def aPlay (q : tQ) (s : Int32) : Int32 := if zin s 0 3 then (if (qS q).1 s.toNatClampNeg < 0 then -10 - 1 else match zpR q s.toNatClampNeg with
  | none => -10 - 2
  | some x => zwm x.1) else -2
def nPlay (q : tQ) (s : Int32) : tQ := if zin s 0 3 then (if (qS q).1 s.toNatClampNeg < 0 then uF q 1 else match zpR q s.toNatClampNeg with
  | none => uF q 2
  | some x => uP q ((zwm x.1, nI x.2.1, nI x.2.2), zlv q x.1)) else q
theorem vPlay {q : tQ} (s : Int32) (hv : vQ q) : vQ (nPlay q s) := by
  unfold nPlay
  split
  · split
    · exact vQ_F hv
    · split
      · exact vQ_F hv
      · exact hv
  · exact hv
theorem zlv_e {q : tQ} {N k : Nat} (hk : k < 6) : zlv q N k = if ∃ i, i < pn (zpq q 0) ∧ po (zpq q 0) i = k then nI (dg N k % 32) else -2 := by
  unfold zlv
  by_cases h : (zcq q 0).2.1 k = none
  · rw [if_pos h, if_neg]
    rintro ⟨i, i1, i2⟩
    have h2 := (zod_6 (c := zcq q 0) i1).2
    have i2 : zod (zcq q 0) i = k := i2
    rw [i2] at h2
    exact h2 h
  · rw [if_neg h, if_pos]
    exact zod_sur h hk
section ZPz
variable {X : zf_X} {M : zf_M} {Q : Option Value → zf_M → Prop} {q : tQ}
theorem C74 {s : Int32} (hv : vQ q) (hP : zPk M) (hC : zKC q M) (h : ∀ M1, zUp M M1 → zKC (nPlay q s) M1 → Q (some (.int (aPlay q s))) M1) : zC X 74 [.ref 0, .int s] M Q := by
  unfold nPlay aPlay at h
  rw [c74]
  simp only [w74_0, w74_1, zk_sI, zk_sJ, zk_sP, zn_sI, zn_sJ, zn_sP, zI_sI, zI_sJ, zI_sP, zJ_sI, zJ_sJ, zJ_sP, zP_sI, zP_sJ, zP_sP, Option.toList_some, Option.toList_none, List.cons_append, List.nil_append]
  refine s87 ?_
  simp only [w74_4, w74_7, w74_9, w74_10, w74_11, w74_14, w74_15, zk_sI, zk_sJ, zk_sP, zn_sI, zn_sJ, zn_sP, zI_sI, zI_sJ, zI_sP, zJ_sI, zJ_sJ, zJ_sP, zP_sI, zP_sJ, zP_sP, Option.toList_some, Option.toList_none, List.cons_append, List.nil_append, zk_of hP.1, zn_of hP.1, zix, ziN, ne_eq, reduceCtorEq, not_false_eq_true, true_and, and_true, Option.getD_some, Nat.reduceLeDiff, Nat.reduceLT, c_ofNat, zkd0, zp_0_0 hP, zp_0_1 hP, zp_0_2 hP, zp_0_3 hP, zp_0_4 hP, zp_0_5 hP, zp_0_6 hP, zp_0_7 hP, zkd45, znd45, zfx45, zp_45_0 hP, zp_45_1 hP, zp_45_2 hP, zp_45_3 hP, zB_0]
  refine ⟨fun g => ?_, fun g => ?_⟩
  · have g := Classical.not_not.mp g
    rw [if_pos g, if_pos g] at h
    obtain ⟨s', sle, rfl⟩ := zin_o (n := 3) rfl (by decide) g
    rw [n_cl (by omega)] at h
    obtain ⟨hw, h45⟩ := zSw_of hP (show s' < 4 by omega)
    have hzd : zkd (50 + 2 * s') = 7 := by rw [← zk_of hP.1]; exact hw.2.1
    have hcS := hC.2.2.2.2.2.2.2.1
    obtain ⟨b1, b2, b3, b4⟩ := hcS s' (by omega)
    have hvs := hv.2.2.2.2.2 s' (by omega)
    have x0 := n_cl (show s' < 2 ^ 31 by omega)
    have x1 := n_in (show s' < 4 by omega) (show 4 < 2 ^ 31 by decide)
    simp only [w74_15, w74_16, w74_19, w74_22, w74_23, w74_24, w74_27, w74_28, w74_29, zk_sI, zk_sJ, zk_sP, zn_sI, zn_sJ, zn_sP, zI_sI, zI_sJ, zI_sP, zJ_sI, zJ_sJ, zJ_sP, zP_sI, zP_sJ, zP_sP, Option.toList_some, Option.toList_none, List.cons_append, List.nil_append, zk_of hP.1, zn_of hP.1, zix, ziN, ne_eq, reduceCtorEq, not_false_eq_true, true_and, and_true, Option.getD_some, Nat.reduceLeDiff, Nat.reduceLT, c_ofNat, zkd0, zp_0_0 hP, zp_0_1 hP, zp_0_2 hP, zp_0_3 hP, zp_0_4 hP, zp_0_5 hP, zp_0_6 hP, zp_0_7 hP, zkd45, znd45, zfx45, zp_45_0 hP, zp_45_1 hP, zp_45_2 hP, zp_45_3 hP, h45, hzd, x0, x1, or_true, true_or, b2, zB_0]
    refine ⟨fun g2 => ?_, fun g2 => ?_⟩
    · rw [if_neg g2, if_neg g2] at h
      obtain ⟨-, hR, hL, hrx, hry, h1, h2, hO⟩ := zKx_of hv hP hC
      refine s95 hP hR hL hrx hry h1 h2 (fun M1 k1 k2 => ?_)
      have hP1 := zPk_F hP k1
      have hC1 : zKC q M1 := zKC_fr hC (zLO_F hC.1 k1 (fun c x y => by omega)) (fun c j k _ => (k1.2.1 c (by unfold kC at k; omega) j).1)
      have u1 : zUp M M1 := zUp_F hP k1 (fun c hc => by omega)
      obtain ⟨hw1, h451⟩ := zSw_of hP1 (show s' < 4 by omega)
      obtain ⟨d1, d2, d3, d4⟩ := hC1.2.2.2.2.2.2.2.1 s' (by omega)
      simp only [w74_32, w74_33, w74_36, w74_37, w74_40, w74_41, w74_44, w74_45, w74_46, zk_sI, zk_sJ, zk_sP, zn_sI, zn_sJ, zn_sP, zI_sI, zI_sJ, zI_sP, zJ_sI, zJ_sJ, zJ_sP, zP_sI, zP_sJ, zP_sP, Option.toList_some, Option.toList_none, List.cons_append, List.nil_append, zk_of hP1.1, zn_of hP1.1, zix, ziN, ne_eq, reduceCtorEq, not_false_eq_true, true_and, and_true, Option.getD_some, Nat.reduceLeDiff, Nat.reduceLT, c_ofNat, zkd0, zp_0_0 hP1, zp_0_1 hP1, zp_0_2 hP1, zp_0_3 hP1, zp_0_4 hP1, zp_0_5 hP1, zp_0_6 hP1, zp_0_7 hP1, zkd4, zp_4_0 hP1, zp_4_1 hP1, zp_4_2 hP1, zp_4_3 hP1, zp_4_4 hP1, zp_4_5 hP1, zp_4_6 hP1, zkd43, zp_43_3 hP1, zkd45, znd45, zfx45, zp_45_0 hP1, zp_45_1 hP1, zp_45_2 hP1, zp_45_3 hP1, h451, hzd, x0, x1, or_true, true_or]
      refine s1 (p := zpq q 0) (sz := (qS q).2.1 s') (it := fun j => (qS q).2.2 s' j) hP1 (zpq_ok hv (by decide)) k2 hw1 (by omega) d1 hvs.1 d4 (fun hz => ?_) (fun N u R hz hN hu hR M2 x1 x2 x3 x4 x5 => ?_)
      · have hz : zpR q s' = none := hz
        simp only [hz] at h
        simp only [w74_49, w74_52, w74_53, w74_56, w74_59, w74_62, w74_63, w74_64, zk_sI, zk_sJ, zk_sP, zn_sI, zn_sJ, zn_sP, zI_sI, zI_sJ, zI_sP, zJ_sI, zJ_sJ, zJ_sP, zP_sI, zP_sJ, zP_sP, Option.toList_some, Option.toList_none, List.cons_append, List.nil_append, zk_of hP1.1, zn_of hP1.1, zix, ziN, ne_eq, reduceCtorEq, not_false_eq_true, true_and, and_true, Option.getD_some, Nat.reduceLeDiff, Nat.reduceLT, c_ofNat, zkd0, zp_0_0 hP1, zp_0_1 hP1, zp_0_2 hP1, zp_0_3 hP1, zp_0_4 hP1, zp_0_5 hP1, zp_0_6 hP1, zp_0_7 hP1, true_implies, not_true_eq_false, false_implies, and_true]
        refine s93 hP1 ?_
        simp only [w74_67, zk_sI, zk_sJ, zk_sP, zn_sI, zn_sJ, zn_sP, zI_sI, zI_sJ, zI_sP, zJ_sI, zJ_sJ, zJ_sP, zP_sI, zP_sJ, zP_sP, Option.toList_some, Option.toList_none, List.cons_append, List.nil_append]
        obtain ⟨y1, y2⟩ := zKC_f (v := 2) hP1 hC1
        exact h _ (zUp_tr u1 y1) y2
      · have hz : zpR q s' = some (N, u, R) := hz
        simp only [hz] at h
        have hP2 := zPk_F hP1 x1
        have n10 : ¬ (1 : Int32) = 0 := by decide
        simp only [w74_49, w74_52, w74_53, w74_56, w74_59, w74_62, w74_63, w74_64, w74_67, zk_sI, zk_sJ, zk_sP, zn_sI, zn_sJ, zn_sP, zI_sI, zI_sJ, zI_sP, zJ_sI, zJ_sJ, zJ_sP, zP_sI, zP_sJ, zP_sP, Option.toList_some, Option.toList_none, List.cons_append, List.nil_append, zk_of hP2.1, zn_of hP2.1, zix, ziN, ne_eq, reduceCtorEq, not_false_eq_true, true_and, and_true, Option.getD_some, Nat.reduceLeDiff, Nat.reduceLT, c_ofNat, zkd0, zp_0_0 hP2, zp_0_1 hP2, zp_0_2 hP2, zp_0_3 hP2, zp_0_4 hP2, zp_0_5 hP2, zp_0_6 hP2, zp_0_7 hP2, zkd43, zp_43_3 hP2, n10, x2, not_false_eq_true, true_implies, false_implies, true_and]
        refine h M2 (zUp_tr u1 (zUp_F hP1 x1 (fun c hc => by omega))) (zKC_P hC1 (zLO_F hC1.1 x1 (fun c x y => by omega)) (fun c j _ k => (x1.2.1 c (by omega) j).1) ⟨x2, x3, x4, fun k hk => ?_⟩)
        rw [x5 k hk]
        exact (zlv_e hk).symm
    · have g2 := Classical.not_not.mp g2
      rw [if_pos g2, if_pos g2] at h
      refine s93 hP ?_
      simp only [w74_27, zk_sI, zk_sJ, zk_sP, zn_sI, zn_sJ, zn_sP, zI_sI, zI_sJ, zI_sP, zJ_sI, zJ_sJ, zJ_sP, zP_sI, zP_sJ, zP_sP, Option.toList_some, Option.toList_none, List.cons_append, List.nil_append]
      obtain ⟨y1, y2⟩ := zKC_f (v := 1) hP hC
      exact h _ y1 y2
  · have := h M (zUp_rf hP)
    rw [if_neg (fun z => g (fun y => y z)), if_neg (fun z => g (fun y => y z))] at this
    exact this hC
end ZPz

