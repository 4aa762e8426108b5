/-! ===== wish: the class's ===== -/
def zfo (a : Nat) (o : Option Nat) : Nat × (Nat → Nat) := match o with
  | none => (1, fun _ => a)
  | some b => (2, fun j => if j = 0 then a else b)
def zcb (q : tQ) (a : Nat) (o : Option Nat) : zCs := zca (qA q).2 (qB q).1.1 (qB q).1.2 (zfo a o).1 (zfo a o).2 0
def zpb (q : tQ) (a : Nat) (o : Option Nat) : zPm := zpm (zcb q a o) (qL q).2.1 (qL q).2.2 (qL q).1
def zcode (a : Nat) (o : Option Nat) : Int32 := match o with
  | none => nI (256 + 16 * a)
  | some b => nI (16 * a + b)
def wStep (q : tQ) (l m : Int32) (W : tW) (a : Nat) (o : Option Nat) : tW := if zin (zchn (zpb q a o)) l m then (W.1 + 1, zud W.2 W.1 (zcode a o)) else W
def wIn (q : tQ) (l m : Int32) (a : Nat) (W : tW) : Nat → tW
  | 0 => W
  | j + 1 => wStep q l m (wIn q l m a W j) a (some (a + j))
def wOut (q : tQ) (l m : Int32) (F : Nat) : Nat → tW
  | 0 => (0, (qW q).2)
  | a + 1 => wIn q l m a (wStep q l m (wOut q l m F a) a none) (F - a)
theorem wStep_le (q : tQ) (l m : Int32) (W : tW) (a : Nat) (o : Option Nat) : (wStep q l m W a o).1 ≤ W.1 + 1 := by
  unfold wStep
  split
  · exact Nat.le_refl _
  · exact Nat.le_succ _
theorem wIn_le (q : tQ) (l m : Int32) (a : Nat) (W : tW) : ∀ j, (wIn q l m a W j).1 ≤ W.1 + j
  | 0 => Nat.le_refl _
  | j + 1 => by
    rw [wIn]
    have h1 := wStep_le q l m (wIn q l m a W j) a (some (a + j))
    have h2 := wIn_le q l m a W j
    omega
def wTb (F : Nat) : Nat → Nat
  | 0 => 0
  | a + 1 => wTb F a + 1 + (F - a)
theorem wTb_le : ∀ F, F < 7 → ∀ a, a < 7 → a ≤ F → wTb F a ≤ 27 := by decide
theorem wOut_le (q : tQ) (l m : Int32) (F : Nat) : ∀ a, (wOut q l m F a).1 ≤ wTb F a
  | 0 => Nat.le_refl _
  | a + 1 => by
    rw [wOut, wTb]
    have h1 := wIn_le q l m a (wStep q l m (wOut q l m F a) a none) (F - a)
    have h2 := wStep_le q l m (wOut q l m F a) a none
    have h3 := wOut_le q l m F a
    omega
theorem zfo_ok {n a : Nat} {o : Option Nat} (ha : a < n) (ho : ∀ b, o = some b → b < n) : vRow n (zfo a o) := by
  cases o with
  | none => exact ⟨(show 1 ≤ 3 by decide), fun j _ => ha⟩
  | some b =>
    refine ⟨(show 2 ≤ 3 by decide), fun j hj => ?_⟩
    show (if j = 0 then a else b) < n
    split
    · exact ha
    · exact ho b rfl
theorem vQ_W {q : tQ} {W : tW} (hv : vQ q) (hW : W.1 ≤ 27) : vQ (uW q W) := ⟨hv.1, hv.2.1, hv.2.2.1, hv.2.2.2.1, hW, hv.2.2.2.2.2⟩
abbrev bWish (l m : Int32) : Prop := zin l 0 1000000 ∧ zin m l 1000000
def aWish (q : tQ) (l m : Int32) : Int32 := if bWish l m then (if (qB q).1.1 = 0 then -3 else nI (wOut q l m (min (qA q).1 6) (min (qA q).1 6)).1) else -2
def nWish (q : tQ) (l m : Int32) : tQ := if bWish l m then (if (qB q).1.1 = 0 then q else uW q (wOut q l m (min (qA q).1 6) (min (qA q).1 6))) else q
theorem vWish {q : tQ} (l m : Int32) (hv : vQ q) : vQ (nWish q l m) := by
  unfold nWish
  split
  · split
    · exact hv
    · exact vQ_W hv (Nat.le_trans (wOut_le _ _ _ _ _) (wTb_le _ (by omega) _ (by omega) (Nat.le_refl _)))
  · exact hv
section ZWi
variable {X : zf_X} {M : zf_M} {Q : Option Value → zf_M → Prop} {q : tQ}
/-- tryBand -/
theorem C101 {a : Nat} {o : Option Nat} {l m : Int32} {W : tW} (hv : vQ q) (hP : zPk M) (hC : zKC (uW q W) M) (hW : W.1 < 27) (ha : a < (qA q).1) (ho : ∀ b, o = some b → b < (qA q).1)
    (h : ∀ M1, zUp M M1 → zKC (uW q (wStep q l m W a o)) M1 → Q none M1) : zC X 101 [.ref 0, .int (nI a), .int (zvo o), .int l, .int m] M Q := by
  have h16 := hv.1.1
  have hvW : vQ (uW q W) := vQ_W hv (by omega)
  obtain ⟨-, hR, hL, hrx, hry, h1, h2, hO⟩ := zKx_of hvW hP hC
  change ∀ j, j < (qB q).1.1 → (qB q).1.2 j < (qA q).1 at h1
  change zLw (qL q).1 (qL q).2.1 (qL q).2.2 M at hL
  change zRo (qA q).1 (qA q).2 M at hR
  change zRx M 46 (qB q).1.1 (qB q).1.2 at hrx
  obtain ⟨l0, l1, l2, l3⟩ := hL
  have hfo := zfo_ok ha ho
  have hwn := zca_n (nu := (qA q).2) (b := 0) h1 hfo.2
  rw [c101]
  simp only [w101_0, w101_1, w101_4, w101_5, w101_8, w101_9, w101_12, w101_13, w101_16, zk_sI, zk_sJ, zk_sP, zn_sI, zn_sJ, zn_sP, zI_sI, zI_sJ, zI_sP, zJ_sI, zJ_sJ, zJ_sP, zP_sI, zP_sJ, zP_sP, Option.toList_some, Option.toList_none, List.cons_append, List.nil_append, zk_of hP.1, zn_of hP.1, zix, ziN, ne_eq, reduceCtorEq, not_false_eq_true, true_and, and_true, Option.getD_some, Nat.reduceLeDiff, Nat.reduceLT, c_ofNat, zkd0, zp_0_0 hP, zp_0_1 hP, zp_0_2 hP, zp_0_3 hP, zp_0_4 hP, zp_0_5 hP, zp_0_6 hP, zp_0_7 hP, zkd1, zp_1_0 hP, zkd3, znd3, zfx3, zp_3_0 hP, zp_3_1 hP, zkd4, zp_4_0 hP, zp_4_1 hP, zp_4_2 hP, zp_4_3 hP, zp_4_4 hP, zp_4_5 hP, zp_4_6 hP, zkd12, zp_12_2 hP, zp_12_3 hP, zp_12_4 hP, l1, l2, l3]
  refine s7 hP ?_
  have hF : zF (fun c => 4 ≤ c ∧ c ≤ 11) M (zf_sI (zf_sI (zf_sI (zf_sI M 4 8 (nI (qL q).1)) 4 9 (qL q).2.1) 4 10 (qL q).2.2) 4 7 0) := zF_sI (zF_sI (zF_sI (zF_sI (zF_rf _ _) ⟨by omega, by omega⟩) ⟨by omega, by omega⟩) ⟨by omega, by omega⟩) ⟨by omega, by omega⟩
  have hP1 := zPk_F hP hF
  simp only [w101_19, w101_20, w101_21, w101_22, zk_sI, zk_sJ, zk_sP, zn_sI, zn_sJ, zn_sP, zI_sI, zI_sJ, zI_sP, zJ_sI, zJ_sJ, zJ_sP, zP_sI, zP_sJ, zP_sP, Option.toList_some, Option.toList_none, List.cons_append, List.nil_append, zk_of hP.1, zn_of hP.1, zix, ziN, ne_eq, reduceCtorEq, not_false_eq_true, true_and, and_true, Option.getD_some, Nat.reduceLeDiff, Nat.reduceLT, c_ofNat, zkd0, zp_0_0 hP, zp_0_1 hP, zp_0_2 hP, zp_0_3 hP, zp_0_4 hP, zp_0_5 hP, zp_0_6 hP, zp_0_7 hP, zkd3, znd3, zfx3, zp_3_0 hP, zp_3_1 hP, zkd4, zp_4_0 hP, zp_4_1 hP, zp_4_2 hP, zp_4_3 hP, zp_4_4 hP, zp_4_5 hP, zp_4_6 hP, zkd12, zp_12_2 hP, zp_12_3 hP, zp_12_4 hP]
  refine s96a (hf := (zfo a o).1) (wf := (zfo a o).2) (b := 0) hP1 (zRo_F hR hF (by omega) (by omega)) (zSt_0 rfl) (zRx_F hrx hF (by omega) (by omega)) h1 hfo.2 (fun M1 g1 g2 g3 => ?_)
  have hF1 := zF_tr hF g1
  have hP2 := zPk_F hP hF1
  have hpo : zPo (zpb q a o) := zpm_ok hv.1 hwn (zca_b (by decide)) hv.2.2.1
  have q3 : ((3 : Int32) * 1 + 0) = nI 3 := rfl
  have q4 : ((3 : Int32) * 1 + 1) = nI 4 := rfl
  simp only [w101_25, w101_26, w101_29, w101_30, w101_31, w101_34, w101_35, w101_38, w101_39, w101_40, c89, w89_0, w89_1, w89_2, w89_3, w89_4, w89_5, zk_sI, zk_sJ, zk_sP, zn_sI, zn_sJ, zn_sP, zI_sI, zI_sJ, zI_sP, zJ_sI, zJ_sJ, zJ_sP, zP_sI, zP_sJ, zP_sP, Option.toList_some, Option.toList_none, List.cons_append, List.nil_append, zk_of hP2.1, zn_of hP2.1, zix, ziN, ne_eq, reduceCtorEq, not_false_eq_true, true_and, and_true, Option.getD_some, Nat.reduceLeDiff, Nat.reduceLT, c_ofNat, zkd0, zp_0_0 hP2, zp_0_1 hP2, zp_0_2 hP2, zp_0_3 hP2, zp_0_4 hP2, zp_0_5 hP2, zp_0_6 hP2, zp_0_7 hP2, zkd1, zp_1_0 hP2, zkd4, zp_4_0 hP2, zp_4_1 hP2, zp_4_2 hP2, zp_4_3 hP2, zp_4_4 hP2, zp_4_5 hP2, zp_4_6 hP2]
  have tail : ∀ (M3 : zf_M), zF (fun c => 4 ≤ c ∧ c ≤ 11) M M3 → zSt (zcb q a o) M3 6 → zf_I M3 4 8 = nI (qL q).1 → zf_I M3 4 9 = (qL q).2.1 → zf_I M3 4 10 = (qL q).2.2 → zW X 101 66 [.val (.ref 0), .val (.int (nI a)), .val (.int (zvo o)), .val (.int l), .val (.int m), .unset] [] M3 Q := by
    intro M3 k1 k2 k3 k4 k5
    have hP3 := zPk_F hP k1
    have hFP := zSt_FP (am := (qL q).2.1) (st := (qL q).2.2) (r := (qL q).1) k2 k3 k4 k5
    simp only [w101_66, w101_67, w101_70, w101_71, w101_74, zk_sI, zk_sJ, zk_sP, zn_sI, zn_sJ, zn_sP, zI_sI, zI_sJ, zI_sP, zJ_sI, zJ_sJ, zJ_sP, zP_sI, zP_sJ, zP_sP, Option.toList_some, Option.toList_none, List.cons_append, List.nil_append, zk_of hP3.1, zn_of hP3.1, zix, ziN, ne_eq, reduceCtorEq, not_false_eq_true, true_and, and_true, Option.getD_some, Nat.reduceLeDiff, Nat.reduceLT, c_ofNat, zkd0, zp_0_0 hP3, zp_0_1 hP3, zp_0_2 hP3, zp_0_3 hP3, zp_0_4 hP3, zp_0_5 hP3, zp_0_6 hP3, zp_0_7 hP3, zkd4, zp_4_0 hP3, zp_4_1 hP3, zp_4_2 hP3, zp_4_3 hP3, zp_4_4 hP3, zp_4_5 hP3, zp_4_6 hP3, zkd12, zp_12_2 hP3, zp_12_3 hP3, zp_12_4 hP3]
    refine s27b hP3 hpo hFP (zLO_F hO k1 (fun c x y => by omega)) (fun M4 q1 q2 q3 => ?_)
    have hG4 : zG (fun c => 4 ≤ c ∧ c ≤ 25) M M4 := zG_tr (zG_F (zF_mo k1 (fun c hc => by omega))) (zG_mo q1 (fun c hc => by omega))
    have hP4 := zPk_G hP hG4
    have hC4 := zKC_G hC hG4 q2
    have u4 := zUp_G hP hG4 (fun c hc => by omega)
    have fin : zW X 101 92 [.val (.ref 0), .val (.int (nI a)), .val (.int (zvo o)), .val (.int l), .val (.int m), .unset] [.int (zchn (zpb q a o))] M4 Q := by
      have hW4 := hC4.2.2.2.2.2.1
      change cW W M4 at hW4
      unfold wStep at h
      have skip : ¬ zin (zchn (zpb q a o)) l m → Q none M4 := by
        intro g
        have := h M4 u4
        rw [if_neg g] at this
        exact this hC4
      have c27 : Int32.ofNat 27 = nI 27 := rfl
      simp only [w101_92, w101_94, w101_96, w101_97, w101_100, w101_102, w101_104, w101_107, w101_108, w101_111, w101_112, w101_115, w101_116, w101_119, w101_120, w101_123, w101_124, w101_127, zk_sI, zk_sJ, zk_sP, zn_sI, zn_sJ, zn_sP, zI_sI, zI_sJ, zI_sP, zJ_sI, zJ_sJ, zJ_sP, zP_sI, zP_sJ, zP_sP, Option.toList_some, Option.toList_none, List.cons_append, List.nil_append, zk_of hP4.1, zn_of hP4.1, zix, ziN, ne_eq, reduceCtorEq, not_false_eq_true, true_and, and_true, Option.getD_some, Nat.reduceLeDiff, Nat.reduceLT, c_ofNat, zkd0, zp_0_0 hP4, zp_0_1 hP4, zp_0_2 hP4, zp_0_3 hP4, zp_0_4 hP4, zp_0_5 hP4, zp_0_6 hP4, zp_0_7 hP4, zkd42, znd42, zfx42, hW4.1]
      have h160 : Q none M4 → ∀ ls, zW X 101 160 ls [] M4 Q := by
        intro g ls
        simp only [w101_160, zk_sI, zk_sJ, zk_sP, zn_sI, zn_sJ, zn_sP, zI_sI, zI_sJ, zI_sP, zJ_sI, zJ_sJ, zJ_sP, zP_sI, zP_sJ, zP_sP, Option.toList_some, Option.toList_none, List.cons_append, List.nil_append]
        exact g
      refine ⟨fun g => h160 (skip (fun z => Int32.not_lt.mpr z.1 g)) _, fun g1 => ⟨fun g => h160 (skip (fun z => Int32.not_lt.mpr z.2 g)) _, fun g2 => ⟨fun g => ?_, fun _ => ?_⟩⟩⟩
      · rw [n_le (by decide) (by omega)] at g
        omega
      · have hz : zin (zchn (zpb q a o)) l m := ⟨Int32.not_lt.mp g1, Int32.not_lt.mp g2⟩
        rw [if_pos hz] at h
        have hF5 : zF (fun c => c = 0 ∨ c = 42) M4 (zf_sI (zf_sI M4 42 W.1 (zcode a o)) 0 11 (nI (W.1 + 1))) := zF_sI (zF_sI (zF_rf _ _) (Or.inr rfl)) (Or.inl rfl)
        have last : Q none (zf_sI (zf_sI M4 42 W.1 (zcode a o)) 0 11 (nI (W.1 + 1))) := by
          refine h _ (zUp_tr u4 (zUp_F hP4 hF5 (fun c hc => by omega))) (zKC_W (q := uW q W) (x := (W.1 + 1, zud W.2 W.1 (zcode a o))) hC4 (zLO_F hC4.1 hF5 (fun c x y => by omega)) (fun c j kc k => ?_) ⟨zI_eq, fun i hi => ?_⟩)
          · rw [zI_ne (by omega), zI_ne (by omega)]
          · rw [zI_ne (by omega)]
            show _ = zud W.2 W.1 (zcode a o) i
            unfold zud
            by_cases e : i = W.1
            · rw [if_pos e, e, zI_eq]
            · rw [if_neg e, zI_ne (by omega)]
              exact hW4.2 i (by change i < W.1 + 1 at hi; omega)
        have x0 := n_cl (show W.1 < 2 ^ 31 by omega)
        have x1 := n_in hW (show 27 < 2 ^ 31 by decide)
        have e16 : (16 : Int32) * nI a = nI (16 * a) := pk_mul 16 a
        have e256 : ∀ a, (256 : Int32) + nI a = nI (256 + a) := fun a => nI_add 256 a
        cases o with
        | none =>
          have ev : zvo none = -1 := rfl
          have ec : zcode a none = nI (256 + 16 * a) := rfl
          rw [ec] at last
          rw [ev]
          simp only [w101_128, w101_129, w101_132, w101_135, w101_137, w101_138, w101_139, w101_140, w101_143, w101_145, w101_146, w101_147, w101_148, w101_149, w101_150, w101_151, w101_152, w101_155, w101_156, w101_157, w101_160, zk_sI, zk_sJ, zk_sP, zn_sI, zn_sJ, zn_sP, zI_sI, zI_sJ, zI_sP, zJ_sI, zJ_sJ, zJ_sP, zP_sI, zP_sJ, zP_sP, Option.toList_some, Option.toList_none, List.cons_append, List.nil_append, zk_of hP4.1, zn_of hP4.1, zix, ziN, ne_eq, reduceCtorEq, not_false_eq_true, true_and, and_true, Option.getD_some, Nat.reduceLeDiff, Nat.reduceLT, c_ofNat, zkd0, zp_0_0 hP4, zp_0_1 hP4, zp_0_2 hP4, zp_0_3 hP4, zp_0_4 hP4, zp_0_5 hP4, zp_0_6 hP4, zp_0_7 hP4, zkd42, znd42, zfx42, e16, e256, x0, x1, hW4.1, n_a1, Nat.reduceEqDiff, if_false, if_true, not_true_eq_false, false_implies, true_implies, and_true]
          exact last
        | some b =>
          have hbn := ho b rfl
          have ev : zvo (some b) = nI b := rfl
          have ec : zcode a (some b) = nI (16 * a + b) := rfl
          rw [ec] at last
          rw [ev]
          simp only [w101_128, w101_129, w101_132, w101_135, w101_137, w101_138, w101_139, w101_140, w101_143, w101_145, w101_146, w101_147, w101_148, w101_149, w101_150, w101_151, w101_152, w101_155, w101_156, w101_157, w101_160, zk_sI, zk_sJ, zk_sP, zn_sI, zn_sJ, zn_sP, zI_sI, zI_sJ, zI_sP, zJ_sI, zJ_sJ, zJ_sP, zP_sI, zP_sJ, zP_sP, Option.toList_some, Option.toList_none, List.cons_append, List.nil_append, zk_of hP4.1, zn_of hP4.1, zix, ziN, ne_eq, reduceCtorEq, not_false_eq_true, true_and, and_true, Option.getD_some, Nat.reduceLeDiff, Nat.reduceLT, c_ofNat, zkd0, zp_0_0 hP4, zp_0_1 hP4, zp_0_2 hP4, zp_0_3 hP4, zp_0_4 hP4, zp_0_5 hP4, zp_0_6 hP4, zp_0_7 hP4, zkd42, znd42, zfx42, e16, nI_add, x0, x1, hW4.1, n_a1, n_ne (show b < 2 ^ 31 by omega), Nat.reduceEqDiff, if_false, if_true, not_false_eq_true, not_true_eq_false, false_implies, true_implies, and_true, true_and]
          exact last
    simp only [w101_77, w101_80, w101_81, w101_84, w101_87, w101_90, zk_sI, zk_sJ, zk_sP, zn_sI, zn_sJ, zn_sP, zI_sI, zI_sJ, zI_sP, zJ_sI, zJ_sJ, zJ_sP, zP_sI, zP_sJ, zP_sP, Option.toList_some, Option.toList_none, List.cons_append, List.nil_append, zk_of hP4.1, zn_of hP4.1, zix, ziN, ne_eq, reduceCtorEq, not_false_eq_true, true_and, and_true, Option.getD_some, Nat.reduceLeDiff, Nat.reduceLT, c_ofNat, zkd0, zp_0_0 hP4, zp_0_1 hP4, zp_0_2 hP4, zp_0_3 hP4, zp_0_4 hP4, zp_0_5 hP4, zp_0_6 hP4, zp_0_7 hP4, zkd12, zp_12_2 hP4, zp_12_3 hP4, zp_12_4 hP4, zB_0]
    refine ⟨fun z => ?_, fun z => ?_⟩
    · rw [zchn, if_neg (show ¬ zrun (zpb q a o) from z)] at fin
      exact fin
    · have z := Decidable.not_not.mp z
      refine s29b (p := zpb q a o) hP4 hpo z (q3 z) ?_
      simp only [w101_87, zk_sI, zk_sJ, zk_sP, zn_sI, zn_sJ, zn_sP, zI_sI, zI_sJ, zI_sP, zJ_sI, zJ_sJ, zJ_sP, zP_sI, zP_sJ, zP_sP, Option.toList_some, Option.toList_none, List.cons_append, List.nil_append]
      exact fin
  have e0 : (0 : Int32) = nI ((zcb q a o).2.2 3) := rfl
  have hz0 : 0 < (zfo a o).1 := by
    cases o with
    | none => exact Nat.one_pos
    | some b => exact Nat.two_pos
  have hs3 : (zcb q a o).2.1 3 = some a := by
    have := (zca_f (nu := (qA q).2) (h := (qB q).1.1) (w := (qB q).1.2) (wf := (zfo a o).2) (b := 0) hz0).1
    have ea : (zfo a o).2 0 = a := by
      cases o with
      | none => rfl
      | some b => rfl
    rw [ea] at this
    exact this
  rw [q3, e0]
  refine s8c (c := zcb q a o) (j := 3) (f := a) hP2 (zRo_F hR hF1 (by omega) (by omega)) g2 (by decide) hs3 hwn (fun M2 k1 k2 k3 => ?_)
  have hF2 := zF_tr hF1 k1
  have hP3 := zPk_F hP hF2
  have y8 : zf_I M2 4 8 = nI (qL q).1 := by rw [k3 8 (by decide), g3 8 (by decide)]; rfl
  have y9 : zf_I M2 4 9 = (qL q).2.1 := by rw [k3 9 (by decide), g3 9 (by decide)]; rfl
  have y10 : zf_I M2 4 10 = (qL q).2.2 := by rw [k3 10 (by decide), g3 10 (by decide)]; rfl
  cases o with
  | none =>
    have ev : zvo none = -1 := rfl
    rw [ev] at tail ⊢
    simp only [w101_43, w101_44, w101_45, zk_sI, zk_sJ, zk_sP, zn_sI, zn_sJ, zn_sP, zI_sI, zI_sJ, zI_sP, zJ_sI, zJ_sJ, zJ_sP, zP_sI, zP_sJ, zP_sP, Option.toList_some, Option.toList_none, List.cons_append, List.nil_append]
    refine ⟨fun _ => tail M2 hF2 (zSt_skip (zSt_skip k2 (zca_fn (show 3 + 1 ≤ 4 by decide))) (zca_fn (show 3 + 1 ≤ 5 by decide))) y8 y9 y10, fun z => absurd trivial z⟩
  | some b =>
    have hbn := ho b rfl
    have ev : zvo (some b) = nI b := rfl
    rw [ev] at tail ⊢
    have nb := n_ne (show b < 2 ^ 31 by omega)
    simp only [w101_43, w101_44, w101_45, w101_48, w101_49, w101_52, w101_53, w101_54, w101_57, w101_58, w101_61, w101_62, w101_63, c89, w89_0, w89_1, w89_2, w89_3, w89_4, w89_5, zk_sI, zk_sJ, zk_sP, zn_sI, zn_sJ, zn_sP, zI_sI, zI_sJ, zI_sP, zJ_sI, zJ_sJ, zJ_sP, zP_sI, zP_sJ, zP_sP, Option.toList_some, Option.toList_none, List.cons_append, List.nil_append, zk_of hP3.1, zn_of hP3.1, zix, ziN, ne_eq, reduceCtorEq, not_false_eq_true, true_and, and_true, Option.getD_some, Nat.reduceLeDiff, Nat.reduceLT, c_ofNat, zkd0, zp_0_0 hP3, zp_0_1 hP3, zp_0_2 hP3, zp_0_3 hP3, zp_0_4 hP3, zp_0_5 hP3, zp_0_6 hP3, zp_0_7 hP3, zkd1, zp_1_0 hP3, zkd4, zp_4_0 hP3, zp_4_1 hP3, zp_4_2 hP3, zp_4_3 hP3, zp_4_4 hP3, zp_4_5 hP3, zp_4_6 hP3, nb, false_implies, not_false_eq_true, true_implies, true_and]
    have e0' : (0 : Int32) = nI ((zcb q a (some b)).2.2 4) := rfl
    have hs4 : (zcb q a (some b)).2.1 4 = some b := (zca_f (nu := (qA q).2) (h := (qB q).1.1) (w := (qB q).1.2) (wf := (zfo a (some b)).2) (hf := (zfo a (some b)).1) (b := 0) (j := 1) (by show 1 < 2; decide)).1
    rw [q4, e0']
    refine s8c (c := zcb q a (some b)) (j := 4) (f := b) hP3 (zRo_F hR hF2 (by omega) (by omega)) k2 (by decide) hs4 hwn (fun M3 z1 z2 z3 => ?_)
    exact tail M3 (zF_tr hF2 z1) (zSt_skip z2 (zca_fn (by show 3 + 2 ≤ 5; decide))) (by rw [z3 8 (by decide)]; exact y8) (by rw [z3 9 (by decide)]; exact y9) (by rw [z3 10 (by decide)]; exact y10)
/-- wish, the class's -/
theorem C72 {l m : Int32} (hv : vQ q) (hP : zPk M) (hC : zKC q M) (h : ∀ M1, zUp M M1 → zKC (nWish q l m) M1 → Q (some (.int (aWish q l m))) M1) : zC X 72 [.ref 0, .int l, .int m] M Q := by
  have h16 := hv.1.1
  have h3 := hv.2.1.1.1
  have hB := hC.2.2.1
  unfold nWish aWish at h
  have h0 : ¬ bWish l m → Q (some (.int (-2))) M := by
    intro g
    have := h M (zUp_rf hP)
    rw [if_neg g, if_neg g] at this
    exact this hC
  have z0 : (nI (qB q).1.1 = 0) = ((qB q).1.1 = 0) := by rw [c_0, n_eq (by omega) (by decide)]
  rw [c72]
  simp only [w72_0, w72_1, w72_4, w72_5, w72_7, w72_10, w72_11, w72_12, w72_15, w72_17, w72_18, w72_19, w72_22, w72_23, w72_24, w72_27, w72_30, w72_32, w72_33, w72_34, w72_35, w72_38, w72_39, w72_42, w72_45, zk_sI, zk_sJ, zk_sP, zn_sI, zn_sJ, zn_sP, zI_sI, zI_sJ, zI_sP, zJ_sI, zJ_sJ, zJ_sP, zP_sI, zP_sJ, zP_sP, Option.toList_some, Option.toList_none, List.cons_append, List.nil_append, zk_of hP.1, zn_of hP.1, zix, ziN, ne_eq, reduceCtorEq, not_false_eq_true, true_and, and_true, Option.getD_some, Nat.reduceLeDiff, Nat.reduceLT, c_ofNat, zkd0, zp_0_0 hP, zp_0_1 hP, zp_0_2 hP, zp_0_3 hP, zp_0_4 hP, zp_0_5 hP, zp_0_6 hP, zp_0_7 hP, zkd1, zp_1_0 hP, zkd3, znd3, zfx3, zp_3_0 hP, zp_3_1 hP, zkd46, zp_46_0 hP, in02, true_or, zp30 hP, hB.1, z0]
  refine ⟨fun g => h0 (fun z => Int32.not_lt.mpr z.1.1 g), fun g1 => ⟨fun g => h0 (fun z => Int32.not_lt.mpr z.2.2 g), fun g2 => ⟨fun g3 => ?_, fun g => h0 (fun z => g z.2.1)⟩⟩⟩
  have hb : bWish l m := ⟨⟨Int32.not_lt.mp g1, Int32.le_trans g3 (Int32.not_lt.mp g2)⟩, g3, Int32.not_lt.mp g2⟩
  rw [if_pos hb, if_pos hb] at h
  refine ⟨fun g4 => ?_, fun g4 => ?_⟩
  · rw [if_neg g4, if_neg g4] at h
    have hF : min (qA q).1 6 ≤ 6 := Nat.min_le_right _ _
    have hFn : min (qA q).1 6 ≤ (qA q).1 := Nat.min_le_left _ _
    have hmin : (if nI 6 < nI (qA q).1 then nI 6 else nI (qA q).1) = nI (min (qA q).1 6) := by
      have e := n_lt (a := 6) (b := (qA q).1) (by decide) (by omega)
      by_cases g : 6 < (qA q).1
      · rw [if_pos (e.mpr g), Nat.min_eq_right (by omega)]
      · rw [if_neg (fun z => g (e.mp z)), Nat.min_eq_left (by omega)]
    generalize min (qA q).1 6 = F at *
    have hF0 : zF (fun c => c = 0) M (zf_sI M 0 11 0) := zF_sI (zF_rf _ _) rfl
    have k0 : zKC (uW q (wOut q l m F 0)) (zf_sI M 0 11 0) := zKC_W hC (zLO_F hC.1 hF0 (fun c x y => by omega)) (fun c j _ k => zI_ne (by omega)) ⟨zI_eq, fun i hi => absurd hi (Nat.not_lt_zero i)⟩
    have u0 : zUp M (zf_sI M 0 11 0) := zUp_F hP hF0 (fun c hc => by omega)
    have outer : ∀ (mm a : Nat) (M1 : zf_M) (l5 : Slot), a + mm = F → zUp M M1 → zKC (uW q (wOut q l m F a)) M1 → zW X 72 54 [.val (.ref 0), .val (.int l), .val (.int m), .val (.int (nI F)), .val (.int (nI a)), l5] [] M1 Q := by
      intro mm
      induction mm with
      | zero =>
        intro a M1 l5 ha u1 k1
        obtain rfl : a = F := by omega
        have hP1 := u1.1
        have hW1 := k1.2.2.2.2.2.1
        change cW (wOut q l m a a) M1 at hW1
        rw [w72_54]
        simp only [w72_56, w72_57, w72_60, w72_61, w72_63, w72_64, w72_65, w72_66, w72_69, w72_71, w72_75, w72_76, w72_79, w72_80, w72_82, w72_84, w72_85, w72_86, w72_89, w72_92, w72_95, w72_98, w72_101, w72_102, w72_105, zk_sI, zk_sJ, zk_sP, zn_sI, zn_sJ, zn_sP, zI_sI, zI_sJ, zI_sP, zJ_sI, zJ_sJ, zJ_sP, zP_sI, zP_sJ, zP_sP, Option.toList_some, Option.toList_none, List.cons_append, List.nil_append, zk_of hP1.1, zn_of hP1.1, zix, ziN, ne_eq, reduceCtorEq, not_false_eq_true, true_and, and_true, Option.getD_some, Nat.reduceLeDiff, Nat.reduceLT, c_ofNat, zkd0, zp_0_0 hP1, zp_0_1 hP1, zp_0_2 hP1, zp_0_3 hP1, zp_0_4 hP1, zp_0_5 hP1, zp_0_6 hP1, zp_0_7 hP1, hW1.1, Int32.le_refl]
        exact ⟨fun _ => h M1 u1 k1, fun z => absurd trivial z⟩
      | succ mm ih =>
        intro a M1 l5 ha u1 k1
        have hP1 := u1.1
        have hwo := wOut_le q l m F a
        have htb := wTb_le F (by omega) (a + 1) (by omega) (by omega)
        rw [wTb] at htb
        have hst := wStep_le q l m (wOut q l m F a) a none
        rw [w72_54]
        simp only [w72_56, w72_57, w72_60, w72_61, w72_63, w72_64, w72_65, w72_66, zk_sI, zk_sJ, zk_sP, zn_sI, zn_sJ, zn_sP, zI_sI, zI_sJ, zI_sP, zJ_sI, zJ_sJ, zJ_sP, zP_sI, zP_sJ, zP_sP, Option.toList_some, Option.toList_none, List.cons_append, List.nil_append, zk_of hP1.1, zn_of hP1.1, zix, ziN, ne_eq, reduceCtorEq, not_false_eq_true, true_and, and_true, Option.getD_some, Nat.reduceLeDiff, Nat.reduceLT, c_ofNat, zkd0, zp_0_0 hP1, zp_0_1 hP1, zp_0_2 hP1, zp_0_3 hP1, zp_0_4 hP1, zp_0_5 hP1, zp_0_6 hP1, zp_0_7 hP1]
        rw [n_le (by omega) (by omega)]
        refine ⟨fun z => by omega, fun _ => ?_⟩
        refine C101 (o := none) (W := wOut q l m F a) hv hP1 k1 (by omega) (by omega) (fun b e => by cases e) (fun M2 u2 k2 => ?_)
        simp only [w72_69, w72_71, zk_sI, zk_sJ, zk_sP, zn_sI, zn_sJ, zn_sP, zI_sI, zI_sJ, zI_sP, zJ_sI, zJ_sJ, zJ_sP, zP_sI, zP_sJ, zP_sP, Option.toList_some, Option.toList_none, List.cons_append, List.nil_append]
        have nxt := fun M3 l5 u3 k3 => ih (a + 1) M3 l5 (by omega) u3 k3
        rw [wOut] at nxt
        have inner : ∀ (jj j : Nat) (M3 : zf_M), j + jj = F - a → zUp M M3 → zKC (uW q (wIn q l m a (wStep q l m (wOut q l m F a) a none) j)) M3 → zW X 72 73 [.val (.ref 0), .val (.int l), .val (.int m), .val (.int (nI F)), .val (.int (nI a)), .val (.int (nI (a + j)))] [] M3 Q := by
          intro jj
          induction jj with
          | zero =>
            intro j M3 hj u3 k3
            obtain rfl : j = F - a := by omega
            have eF : a + (F - a) = F := by omega
            rw [w72_73]
            simp only [w72_75, w72_76, w72_79, w72_80, w72_82, w72_84, w72_85, w72_86, w72_89, w72_92, w72_95, w72_98, zk_sI, zk_sJ, zk_sP, zn_sI, zn_sJ, zn_sP, zI_sI, zI_sJ, zI_sP, zJ_sI, zJ_sJ, zJ_sP, zP_sI, zP_sJ, zP_sP, Option.toList_some, Option.toList_none, List.cons_append, List.nil_append, eF, Int32.le_refl, n_a1]
            exact ⟨fun _ => nxt M3 _ u3 k3, fun z => absurd trivial z⟩
          | succ jj ih2 =>
            intro j M3 hj u3 k3
            have hP3 := u3.1
            have hin := wIn_le q l m a (wStep q l m (wOut q l m F a) a none) j
            rw [w72_73]
            simp only [w72_75, w72_76, w72_79, w72_80, w72_82, w72_84, w72_85, w72_86, zk_sI, zk_sJ, zk_sP, zn_sI, zn_sJ, zn_sP, zI_sI, zI_sJ, zI_sP, zJ_sI, zJ_sJ, zJ_sP, zP_sI, zP_sJ, zP_sP, Option.toList_some, Option.toList_none, List.cons_append, List.nil_append, zk_of hP3.1, zn_of hP3.1, zix, ziN, ne_eq, reduceCtorEq, not_false_eq_true, true_and, and_true, Option.getD_some, Nat.reduceLeDiff, Nat.reduceLT, c_ofNat, zkd0, zp_0_0 hP3, zp_0_1 hP3, zp_0_2 hP3, zp_0_3 hP3, zp_0_4 hP3, zp_0_5 hP3, zp_0_6 hP3, zp_0_7 hP3]
            rw [n_le (by omega) (by omega)]
            refine ⟨fun z => by omega, fun _ => ?_⟩
            refine C101 (o := some (a + j)) (W := wIn q l m a (wStep q l m (wOut q l m F a) a none) j) hv hP3 k3 (by omega) (by omega) (fun b e => by cases e; omega) (fun M4 u4 k4 => ?_)
            simp only [w72_89, w72_92, zk_sI, zk_sJ, zk_sP, zn_sI, zn_sJ, zn_sP, zI_sI, zI_sJ, zI_sP, zJ_sI, zJ_sJ, zJ_sP, zP_sI, zP_sJ, zP_sP, Option.toList_some, Option.toList_none, List.cons_append, List.nil_append, n_a1]
            exact ih2 (j + 1) M4 (by omega) (zUp_tr u3 u4) k4
        exact inner (F - a) 0 M2 (Nat.zero_add _) (zUp_tr u1 u2) k2
    have e11 : zf_I M 1 1 = nI (qA q).1 := hC.2.1.1
    rw [c_6]
    simp only [w72_47, w72_50, w72_51, w72_52, zk_sI, zk_sJ, zk_sP, zn_sI, zn_sJ, zn_sP, zI_sI, zI_sJ, zI_sP, zJ_sI, zJ_sJ, zJ_sP, zP_sI, zP_sJ, zP_sP, Option.toList_some, Option.toList_none, List.cons_append, List.nil_append, e11, Nat.reduceEqDiff, if_false]
    rw [hmin]
    exact outer F 0 _ _ (Nat.zero_add _) u0 k0
  · have g4 := Classical.not_not.mp g4
    have := h M (zUp_rf hP)
    rw [if_pos g4, if_pos g4] at this
    exact this hC
end ZWi
