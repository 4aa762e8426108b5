/-! ===== sheets: calls, the class's ===== -/
abbrev bSheet (s f n : Int32) : Prop := zin s 0 3 ∧ zin f 0 2 ∧ n ≤ 60
def aSheet (s f n : Int32) : Int32 := if bSheet s f n then (if n < 0 then -10 - 5 else n) else -2
def nSheet (q : tQ) (s f n : Int32) : tQ := if bSheet s f n then (if n < 0 then uF q 5 else uS q (zud (qS q).1 s.toNatClampNeg f, zud (qS q).2.1 s.toNatClampNeg n.toNatClampNeg, zud (qS q).2.2 s.toNatClampNeg (fun _ => 0))) else q
def zft (q : tQ) (s : Nat) (f i : Int32) : Int32 := if (qS q).1 s < 0 then 1 else if (qS q).1 s ≠ f then 3 else if vhas ((qS q).2.1 s) i then 0 else 2
abbrev bPut (s f : Int32) : Prop := zin s 0 3 ∧ zin f 0 2
def aPut (q : tQ) (s f i : Int32) : Int32 := if bPut s f then (if zft q s.toNatClampNeg f i = 0 then 1 else -10 - zft q s.toNatClampNeg f i) else -2
def nPut (q : tQ) (s f i v : Int32) : tQ := if bPut s f then (if zft q s.toNatClampNeg f i = 0 then uS q ((qS q).1, (qS q).2.1, zud (qS q).2.2 s.toNatClampNeg (zud ((qS q).2.2 s.toNatClampNeg) i.toNatClampNeg (zcv f v))) else uF q (zft q s.toNatClampNeg f i)) else q
theorem vQ_S {q : tQ} {x : tS} (hv : vQ q) (h : ∀ s, s < 4 → x.2.1 s ≤ 60 ∧ x.1 s ≤ 2) : vQ (uS q x) := ⟨hv.1, hv.2.1, hv.2.2.1, hv.2.2.2.1, hv.2.2.2.2.1, h⟩
theorem vQ_F {q : tQ} {x : Int32} (hv : vQ q) : vQ (uF q x) := hv
theorem vSheet {q : tQ} (s f n : Int32) (hv : vQ q) : vQ (nSheet q s f n) := by
  unfold nSheet
  split
  next g =>
    split
    · exact vQ_F hv
    next g2 =>
      refine vQ_S hv (fun t ht => ?_)
      obtain ⟨n', n1, rfl⟩ := zin_o (n := 60) rfl (by decide) ⟨Int32.not_lt.mp g2, g.2.2⟩
      have ho := hv.2.2.2.2.2 t ht
      show zud _ _ _ t ≤ 60 ∧ zud _ _ _ t ≤ 2
      unfold zud
      by_cases e : t = s.toNatClampNeg
      · rw [if_pos e, if_pos e, n_cl (by omega)]
        exact ⟨n1, g.2.1.2⟩
      · rw [if_neg e, if_neg e]
        exact ho
  next => exact hv
theorem vPut {q : tQ} (s f i v : Int32) (hv : vQ q) : vQ (nPut q s f i v) := by
  unfold nPut
  split
  · split
    · exact vQ_S hv hv.2.2.2.2.2
    · exact vQ_F hv
  · exact hv
theorem zud_eq {α : Type} {g : Nat → α} {i : Nat} {x : α} : zud g i x i = x := if_pos rfl
theorem zud_neq {α : Type} {g : Nat → α} {i j : Nat} {x : α} (h : j ≠ i) : zud g i x j = g j := if_neg h
section ZSk
variable {X : zf_X} {M : zf_M} {Q : Option Value → zf_M → Prop} {q : tQ}
theorem cS_up {M1 : zf_M} {x : tS} {y1 : Nat → Int32} {y2 : Nat → Nat} {y3 : Nat → Nat → Int32} {s : Nat} (h : cS x M) (e : ∀ c j, c ≠ 50 + 2 * s → c ≠ 50 + 2 * s + 1 → zf_I M1 c j = zf_I M c j) (hy : ∀ t, t ≠ s → y1 t = x.1 t ∧ y2 t = x.2.1 t ∧ y3 t = x.2.2 t) (h2 : zf_I M1 (50 + 2 * s) 2 = nI (y2 s)) (h3 : zf_I M1 (50 + 2 * s) 3 = zB (y1 s < 0)) (h1 : ¬ y1 s < 0 → zf_I M1 (50 + 2 * s) 1 = y1 s) (hi : ∀ j, j < y2 s → zf_I M1 (50 + 2 * s + 1) j = y3 s j) : cS (y1, y2, y3) M1 := by
  intro t ht
  show zf_I M1 (50 + 2 * t) 2 = nI (y2 t) ∧ zf_I M1 (50 + 2 * t) 3 = zB (y1 t < 0) ∧ (¬ y1 t < 0 → zf_I M1 (50 + 2 * t) 1 = y1 t) ∧ ∀ j, j < y2 t → zf_I M1 (50 + 2 * t + 1) j = y3 t j
  by_cases et : t = s
  · subst et
    exact ⟨h2, h3, h1, hi⟩
  · obtain ⟨a1, a2, a3⟩ := hy t et
    obtain ⟨b1, b2, b3, b4⟩ := h t ht
    rw [a1, a2, a3, e _ _ (by omega) (by omega), e _ _ (by omega) (by omega), e _ _ (by omega) (by omega)]
    exact ⟨b1, b2, b3, fun j hj => by rw [e _ _ (by omega) (by omega)]; exact b4 j hj⟩
theorem zKC_f {v : Int32} (hP : zPk M) (hC : zKC q M) : zUp M (zf_sI M 0 12 v) ∧ zKC (uF q v) (zf_sI M 0 12 v) := by
  have hF : zF (fun c => c = 0) M (zf_sI M 0 12 v) := zF_sI (zF_rf _ _) rfl
  exact ⟨zUp_F hP hF (fun c hc => by omega), zKC_F hC (zLO_F hC.1 hF (fun c x y => by omega)) (fun c j _ k => zI_ne (by omega)) zI_eq⟩
theorem C76 {s f n : Int32} (hv : vQ q) (hP : zPk M) (hC : zKC q M) (h : ∀ M1, zUp M M1 → zKC (nSheet q s f n) M1 → Q (some (.int (aSheet s f n))) M1) : zC X 76 [.ref 0, .int s, .int f, .int n] M Q := by
  unfold nSheet aSheet at h
  have h0 : ¬ bSheet s f n → Q (some (.int (-2))) M := by
    intro g
    have := h M (zUp_rf hP)
    rw [if_neg g, if_neg g] at this
    exact this hC
  have nn : ∀ {x : Prop}, ¬ ¬ x → x := Classical.not_not.mp
  rw [c76]
  simp only [w76_0, w76_1, zk_sI, zk_sJ, zk_sP, zn_sI, zn_sJ, zn_sP, zI_sI, zI_sJ, zI_sP, zJ_sI, zJ_sJ, zJ_sP, zP_sI, zP_sJ, zP_sP, Option.toList_some, Option.toList_none, List.cons_append, List.nil_append]
  refine s87 ?_
  simp only [w76_4, w76_7, w76_8, w76_20, w76_22, zk_sI, zk_sJ, zk_sP, zn_sI, zn_sJ, zn_sP, zI_sI, zI_sJ, zI_sP, zJ_sI, zJ_sJ, zJ_sP, zP_sI, zP_sJ, zP_sP, Option.toList_some, Option.toList_none, List.cons_append, List.nil_append, zB_0]
  refine ⟨fun g => h0 (fun z => g z.1), fun g1 => ?_⟩
  refine s88 ?_
  simp only [w76_11, w76_14, w76_15, w76_17, w76_20, w76_22, w76_23, w76_24, w76_27, w76_28, w76_29, zk_sI, zk_sJ, zk_sP, zn_sI, zn_sJ, zn_sP, zI_sI, zI_sJ, zI_sP, zJ_sI, zJ_sJ, zJ_sP, zP_sI, zP_sJ, zP_sP, Option.toList_some, Option.toList_none, List.cons_append, List.nil_append, zk_of hP.1, zn_of hP.1, zix, ziN, ne_eq, reduceCtorEq, not_false_eq_true, true_and, and_true, Option.getD_some, Nat.reduceLeDiff, Nat.reduceLT, c_ofNat, zkd0, zp_0_0 hP, zp_0_1 hP, zp_0_2 hP, zp_0_3 hP, zp_0_4 hP, zp_0_5 hP, zp_0_6 hP, zp_0_7 hP, zB_0]
  refine ⟨fun g => h0 (fun z => g z.2.1), fun g2 => ⟨fun g3 => ?_, fun g => h0 (fun z => g z.2.2)⟩⟩
  have hb : bSheet s f n := ⟨nn g1, nn g2, g3⟩
  rw [if_pos hb, if_pos hb] at h
  refine ⟨fun g4 => ?_, fun g4 => ?_⟩
  · rw [if_neg (Int32.not_lt.mpr g4), if_neg (Int32.not_lt.mpr g4)] at h
    obtain ⟨s', s1, rfl⟩ := zin_o (n := 3) rfl (by decide) hb.1
    obtain ⟨n', n1, rfl⟩ := zin_o (n := 60) rfl (by decide) ⟨g4, g3⟩
    rw [n_cl (by omega), n_cl (by omega)] at h
    obtain ⟨hw, h45⟩ := zSw_of hP (show s' < 4 by omega)
    have hzk := hw.2.1
    have c60 : (60 : Nat) < 2 ^ 31 := by decide
    simp only [w76_33, w76_34, w76_37, w76_38, w76_39, w76_40, w76_41, zk_sI, zk_sJ, zk_sP, zn_sI, zn_sJ, zn_sP, zI_sI, zI_sJ, zI_sP, zJ_sI, zJ_sJ, zJ_sP, zP_sI, zP_sJ, zP_sP, Option.toList_some, Option.toList_none, List.cons_append, List.nil_append, zk_of hP.1, zn_of hP.1, zix, ziN, ne_eq, reduceCtorEq, not_false_eq_true, true_and, and_true, Option.getD_some, Nat.reduceLeDiff, Nat.reduceLT, c_ofNat, zkd0, zp_0_0 hP, zp_0_1 hP, zp_0_2 hP, zp_0_3 hP, zp_0_4 hP, zp_0_5 hP, zp_0_6 hP, zp_0_7 hP, zkd45, znd45, zfx45, zp_45_0 hP, zp_45_1 hP, zp_45_2 hP, zp_45_3 hP, h45, hzk, n_cl (show s' < 2 ^ 31 by omega), n_in (show s' < 4 by omega) (show 4 < 2 ^ 31 by decide), or_true, true_or]
    have hzd : zkd (50 + 2 * s') = 7 := by rw [← zk_of hP.1]; exact hzk
    refine ⟨hzd, s44 hw (fun M1 k1 k2 k3 k4 k5 => ?_)⟩
    simp only [w76_44, w76_45, zk_sI, zk_sJ, zk_sP, zn_sI, zn_sJ, zn_sP, zI_sI, zI_sJ, zI_sP, zJ_sI, zJ_sJ, zJ_sP, zP_sI, zP_sJ, zP_sP, Option.toList_some, Option.toList_none, List.cons_append, List.nil_append]
    have hcS := hC.2.2.2.2.2.2.2.1
    have hn0 : ¬ f < 0 := Int32.not_lt.mpr (nn g2).1
    refine h M1 (zUp_F hP k1 (fun c hc => by omega)) (zKC_S hC (zLO_F hC.1 k1 (fun c x y => by omega)) (fun c j _ k => (k1.2.1 c (by omega) j).1) (cS_up (s := s') hcS (fun c j x y => (k1.2.1 c (fun z => z.elim x y) j).1) (fun t ht => ⟨zud_neq ht, zud_neq ht, zud_neq ht⟩) ?_ ?_ (fun _ => ?_) (fun j hj => ?_)))
    · rw [zud_eq]
      exact k3
    · rw [zud_eq, zB_f hn0]
      exact k4
    · rw [zud_eq]
      exact k2
    · rw [zud_eq] at hj ⊢
      exact k5 j (by omega)
  · have g4 := Int32.not_le.mp g4
    rw [if_pos g4, if_pos g4] at h
    refine s93 hP ?_
    simp only [w76_32, zk_sI, zk_sJ, zk_sP, zn_sI, zn_sJ, zn_sP, zI_sI, zI_sJ, zI_sP, zJ_sI, zJ_sJ, zJ_sP, zP_sI, zP_sJ, zP_sP, Option.toList_some, Option.toList_none, List.cons_append, List.nil_append]
    obtain ⟨x1, x2⟩ := zKC_f (v := 5) hP hC
    exact h _ x1 x2
/-- itemFault -/
theorem s94 {s : Nat} {f i : Int32} (hv : vQ q) (hP : zPk M) (hC : zKC q M) (hs : s < 4) (h : Q (some (.int (zft q s f i))) M) : zC X 94 [.ref (50 + 2 * s), .int f, .int i] M Q := by
  obtain ⟨hw, h45⟩ := zSw_of hP hs
  have hzd : zkd (50 + 2 * s) = 7 := by rw [← zk_of hP.1]; exact hw.2.1
  have hcS := hC.2.2.2.2.2.2.2.1
  obtain ⟨b1, b2, b3, b4⟩ := hcS s hs
  have h60 := (hv.2.2.2.2.2 s hs).1
  unfold zft at h
  rw [c94]
  simp only [w94_0, w94_1, w94_4, w94_7, w94_8, w94_9, w94_10, w94_13, w94_14, w94_17, w94_18, zk_sI, zk_sJ, zk_sP, zn_sI, zn_sJ, zn_sP, zI_sI, zI_sJ, zI_sP, zJ_sI, zJ_sJ, zJ_sP, zP_sI, zP_sJ, zP_sP, Option.toList_some, Option.toList_none, List.cons_append, List.nil_append, zk_of hP.1, zn_of hP.1, zix, ziN, ne_eq, reduceCtorEq, not_false_eq_true, true_and, and_true, Option.getD_some, Nat.reduceLeDiff, Nat.reduceLT, c_ofNat, zkd0, zp_0_0 hP, zp_0_1 hP, zp_0_2 hP, zp_0_3 hP, zp_0_4 hP, zp_0_5 hP, zp_0_6 hP, zp_0_7 hP, hzd, b2, zB_0]
  refine ⟨fun g => ?_, fun g => ?_⟩
  · rw [if_neg g] at h
    simp only [b3 g]
    refine ⟨fun g2 => ?_, fun g2 => ?_⟩
    · rw [if_neg (fun z => z g2)] at h
      simp only [w94_19, w94_20, w94_21, zk_sI, zk_sJ, zk_sP, zn_sI, zn_sJ, zn_sP, zI_sI, zI_sJ, zI_sP, zJ_sI, zJ_sJ, zJ_sP, zP_sI, zP_sJ, zP_sP, Option.toList_some, Option.toList_none, List.cons_append, List.nil_append, zk_of hP.1, zn_of hP.1, zix, ziN, ne_eq, reduceCtorEq, not_false_eq_true, true_and, and_true, Option.getD_some, Nat.reduceLeDiff, Nat.reduceLT, c_ofNat, zkd0, zp_0_0 hP, zp_0_1 hP, zp_0_2 hP, zp_0_3 hP, zp_0_4 hP, zp_0_5 hP, zp_0_6 hP, zp_0_7 hP, hzd]
      refine s45 hw b1 h60 ?_
      simp only [w94_24, w94_27, w94_28, w94_31, w94_32, zk_sI, zk_sJ, zk_sP, zn_sI, zn_sJ, zn_sP, zI_sI, zI_sJ, zI_sP, zJ_sI, zJ_sJ, zJ_sP, zP_sI, zP_sJ, zP_sP, Option.toList_some, Option.toList_none, List.cons_append, List.nil_append, zB_0]
      refine ⟨fun g3 => ?_, fun g3 => ?_⟩
      · rw [if_neg g3] at h
        exact h
      · rw [if_pos (Classical.not_not.mp g3)] at h
        exact h
    · rw [if_pos g2] at h
      exact h
  · rw [if_pos (Classical.not_not.mp g)] at h
    exact h
theorem zft_ok {s : Nat} {f i : Int32} (h : zft q s f i = 0) : ¬ (qS q).1 s < 0 ∧ (qS q).1 s = f ∧ vhas ((qS q).2.1 s) i := by
  unfold zft at h
  by_cases g : (qS q).1 s < 0
  · rw [if_pos g] at h
    exact absurd h (by decide)
  · rw [if_neg g] at h
    by_cases g2 : (qS q).1 s = f
    · rw [if_neg (fun z => z g2)] at h
      by_cases g3 : vhas ((qS q).2.1 s) i
      · exact ⟨g, g2, g3⟩
      · rw [if_neg g3] at h
        exact absurd h (by decide)
    · rw [if_pos g2] at h
      exact absurd h (by decide)
theorem C78 {s f i v : Int32} (hv : vQ q) (hP : zPk M) (hC : zKC q M) (h : ∀ M1, zUp M M1 → zKC (nPut q s f i v) M1 → Q (some (.int (aPut q s f i))) M1) : zC X 78 [.ref 0, .int s, .int f, .int i, .int v] M Q := by
  unfold nPut aPut at h
  have h0 : ¬ bPut s f → Q (some (.int (-2))) M := by
    intro g
    have := h M (zUp_rf hP)
    rw [if_neg g, if_neg g] at this
    exact this hC
  have nn : ∀ {x : Prop}, ¬ ¬ x → x := Classical.not_not.mp
  rw [c78]
  simp only [w78_0, w78_1, zk_sI, zk_sJ, zk_sP, zn_sI, zn_sJ, zn_sP, zI_sI, zI_sJ, zI_sP, zJ_sI, zJ_sJ, zJ_sP, zP_sI, zP_sJ, zP_sP, Option.toList_some, Option.toList_none, List.cons_append, List.nil_append]
  refine s87 ?_
  simp only [w78_4, w78_7, w78_8, w78_14, w78_16, zk_sI, zk_sJ, zk_sP, zn_sI, zn_sJ, zn_sP, zI_sI, zI_sJ, zI_sP, zJ_sI, zJ_sJ, zJ_sP, zP_sI, zP_sJ, zP_sP, Option.toList_some, Option.toList_none, List.cons_append, List.nil_append, zB_0]
  refine ⟨fun g => h0 (fun z => g z.1), fun g1 => ?_⟩
  refine s88 ?_
  simp only [w78_11, w78_14, w78_16, w78_17, w78_18, w78_21, w78_22, zk_sI, zk_sJ, zk_sP, zn_sI, zn_sJ, zn_sP, zI_sI, zI_sJ, zI_sP, zJ_sI, zJ_sJ, zJ_sP, zP_sI, zP_sJ, zP_sP, Option.toList_some, Option.toList_none, List.cons_append, List.nil_append, zk_of hP.1, zn_of hP.1, zix, ziN, ne_eq, reduceCtorEq, not_false_eq_true, true_and, and_true, Option.getD_some, Nat.reduceLeDiff, Nat.reduceLT, c_ofNat, zkd0, zp_0_0 hP, zp_0_1 hP, zp_0_2 hP, zp_0_3 hP, zp_0_4 hP, zp_0_5 hP, zp_0_6 hP, zp_0_7 hP, zkd45, znd45, zfx45, zp_45_0 hP, zp_45_1 hP, zp_45_2 hP, zp_45_3 hP, zB_0]
  refine ⟨fun g2 => ?_, fun g => h0 (fun z => g (fun y => y z.2))⟩
  have hb : bPut s f := ⟨nn g1, nn g2⟩
  rw [if_pos hb, if_pos hb] at h
  obtain ⟨s', s1, rfl⟩ := zin_o (n := 3) rfl (by decide) hb.1
  rw [n_cl (by omega)] at h
  obtain ⟨hw, h45⟩ := zSw_of hP (show s' < 4 by omega)
  have hzd : zkd (50 + 2 * s') = 7 := by rw [← zk_of hP.1]; exact hw.2.1
  have hcS := hC.2.2.2.2.2.2.2.1
  obtain ⟨b1, b2, b3, b4⟩ := hcS s' (by omega)
  have h60 := (hv.2.2.2.2.2 s' (by omega)).1
  have x0 := n_cl (show s' < 2 ^ 31 by omega)
  have x1 := n_in (show s' < 4 by omega) (show 4 < 2 ^ 31 by decide)
  simp only [w78_22, w78_23, w78_24, w78_25, zk_sI, zk_sJ, zk_sP, zn_sI, zn_sJ, zn_sP, zI_sI, zI_sJ, zI_sP, zJ_sI, zJ_sJ, zJ_sP, zP_sI, zP_sJ, zP_sP, Option.toList_some, Option.toList_none, List.cons_append, List.nil_append, zk_of hP.1, zn_of hP.1, zix, ziN, ne_eq, reduceCtorEq, not_false_eq_true, true_and, and_true, Option.getD_some, Nat.reduceLeDiff, Nat.reduceLT, c_ofNat, zkd0, zp_0_0 hP, zp_0_1 hP, zp_0_2 hP, zp_0_3 hP, zp_0_4 hP, zp_0_5 hP, zp_0_6 hP, zp_0_7 hP, zkd45, znd45, zfx45, zp_45_0 hP, zp_45_1 hP, zp_45_2 hP, zp_45_3 hP, h45, hzd, x0, x1, or_true, true_or]
  refine s94 hv hP hC (by omega) ?_
  by_cases hz : zft q s' f i = 0
  · obtain ⟨w1, w2, w3⟩ := zft_ok hz
    obtain ⟨i', i1, rfl⟩ := vhas_oN w3 (by omega)
    rw [if_pos hz, if_pos hz, n_cl (by omega)] at h
    rw [hz]
    simp only [w78_28, w78_30, w78_32, w78_35, w78_36, w78_38, w78_41, w78_42, w78_43, w78_46, w78_47, w78_48, w78_49, w78_51, w78_54, w78_55, zk_sI, zk_sJ, zk_sP, zn_sI, zn_sJ, zn_sP, zI_sI, zI_sJ, zI_sP, zJ_sI, zJ_sJ, zJ_sP, zP_sI, zP_sJ, zP_sP, Option.toList_some, Option.toList_none, List.cons_append, List.nil_append, zk_of hP.1, zn_of hP.1, zix, ziN, ne_eq, reduceCtorEq, not_false_eq_true, true_and, and_true, Option.getD_some, Nat.reduceLeDiff, Nat.reduceLT, c_ofNat, zkd0, zp_0_0 hP, zp_0_1 hP, zp_0_2 hP, zp_0_3 hP, zp_0_4 hP, zp_0_5 hP, zp_0_6 hP, zp_0_7 hP, zkd45, znd45, zfx45, zp_45_0 hP, zp_45_1 hP, zp_45_2 hP, zp_45_3 hP, h45, hzd, x0, x1, or_true, true_or, true_implies, not_true_eq_false, false_implies, and_true]
    refine s48 hw b1 h60 i1 ?_
    simp only [w78_54, w78_55, zk_sI, zk_sJ, zk_sP, zn_sI, zn_sJ, zn_sP, zI_sI, zI_sJ, zI_sP, zJ_sI, zJ_sJ, zJ_sP, zP_sI, zP_sJ, zP_sP, Option.toList_some, Option.toList_none, List.cons_append, List.nil_append]
    rw [b3 w1, w2]
    have hF : zF (fun c => c = 50 + 2 * s' + 1) M (zf_sI M (50 + 2 * s' + 1) i' (zcv f v)) := zF_sI (zF_rf _ _) rfl
    refine h _ (zUp_F hP hF (fun c hc => by omega)) (zKC_S hC (zLO_F hC.1 hF (fun c x y => by omega)) (fun c j _ k => (hF.2.1 c (by omega) j).1) (cS_up (s := s') hcS (fun c j x y => (hF.2.1 c y j).1) (fun t ht => ⟨rfl, rfl, zud_neq ht⟩) ?_ ?_ (fun z => ?_) (fun j hj => ?_)))
    · rw [zI_ne (by omega)]
      exact b1
    · rw [zI_ne (by omega)]
      exact b2
    · rw [zI_ne (by omega)]
      exact b3 z
    · rw [zud_eq]
      by_cases e : j = i'
      · rw [e, zI_eq, zud_eq]
      · rw [zI_ne (by omega), zud_neq e]
        exact b4 j hj
  · rw [if_neg hz, if_neg hz] at h
    simp only [w78_28, w78_30, w78_32, w78_35, w78_36, w78_38, zk_sI, zk_sJ, zk_sP, zn_sI, zn_sJ, zn_sP, zI_sI, zI_sJ, zI_sP, zJ_sI, zJ_sJ, zJ_sP, zP_sI, zP_sJ, zP_sP, Option.toList_some, Option.toList_none, List.cons_append, List.nil_append, zk_of hP.1, zn_of hP.1, zix, ziN, ne_eq, reduceCtorEq, not_false_eq_true, true_and, and_true, Option.getD_some, Nat.reduceLeDiff, Nat.reduceLT, c_ofNat, zkd0, zp_0_0 hP, zp_0_1 hP, zp_0_2 hP, zp_0_3 hP, zp_0_4 hP, zp_0_5 hP, zp_0_6 hP, zp_0_7 hP, hz, not_false_eq_true, true_implies, false_implies, true_and]
    refine s93 hP ?_
    simp only [w78_41, zk_sI, zk_sJ, zk_sP, zn_sI, zn_sJ, zn_sP, zI_sI, zI_sJ, zI_sP, zJ_sI, zJ_sJ, zJ_sP, zP_sI, zP_sJ, zP_sP, Option.toList_some, Option.toList_none, List.cons_append, List.nil_append]
    obtain ⟨x1, x2⟩ := zKC_f (v := zft q s' f i) hP hC
    exact h _ x1 x2
end ZSk

