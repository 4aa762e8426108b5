/-! ===== copy: the class's ===== -/
def zfc (q : tQ) (s t : Nat) (i j n : Int32) : Int32 := if (qS q).1 s < 0 ∨ (qS q).1 t < 0 then 1 else if (qS q).1 s ≠ (qS q).1 t then 4 else if (0 ≤ i ∧ 0 ≤ n ∧ i.toInt + n.toInt ≤ ((qS q).2.1 s : Int)) ∧ (0 ≤ j ∧ 0 ≤ n ∧ j.toInt + n.toInt ≤ ((qS q).2.1 t : Int)) then 0 else 2
def zcy (f g : Nat → Int32) (i j n : Nat) : Nat → Int32 := fun x => if j ≤ x ∧ x < j + n then f (i + (x - j)) else g x
abbrev bCopy (s t : Int32) : Prop := zin s 0 3 ∧ zin t 0 3
def aCopy (q : tQ) (s i t j n : Int32) : Int32 := if bCopy s t then (if zfc q s.toNatClampNeg t.toNatClampNeg i j n = 0 then 1 else -10 - zfc q s.toNatClampNeg t.toNatClampNeg i j n) else -2
def nCopy (q : tQ) (s i t j n : Int32) : tQ := if bCopy s t then (if zfc q s.toNatClampNeg t.toNatClampNeg i j n = 0 then uS q ((qS q).1, (qS q).2.1, zud (qS q).2.2 t.toNatClampNeg (zcy ((qS q).2.2 s.toNatClampNeg) ((qS q).2.2 t.toNatClampNeg) i.toNatClampNeg j.toNatClampNeg n.toNatClampNeg)) else uF q (zfc q s.toNatClampNeg t.toNatClampNeg i j n)) else q
theorem vCopy {q : tQ} (s i t j n : Int32) (hv : vQ q) : vQ (nCopy q s i t j n) := by
  unfold nCopy
  split
  · split
    · exact vQ_S hv hv.2.2.2.2.2
    · exact vQ_F hv
  · exact hv
theorem zI_cpy {M : zf_M} {a b i j n c x : Nat} : zf_I (zf_cpy M a b i j n) c x = if c = b then zcy (fun y => zf_I M a y) (fun y => zf_I M b y) i j n x else zf_I M c x := by
  show zf_r M.2.1 b (va_cpy (M.2.1 a) (M.2.1 b) i j n) c x = _
  unfold zf_r
  by_cases e : c = b
  · rw [if_pos e, if_pos e]
    rfl
  · rw [if_neg e, if_neg e]
    rfl
theorem zF_cpy {M : zf_M} {a b i j n : Nat} : zF (fun c => c = b) M (zf_cpy M a b i j n) := ⟨rfl, fun c hc x => ⟨by rw [zI_cpy, if_neg hc], rfl⟩, fun _ _ => rfl⟩
section ZCy
variable {X : zf_X} {M : zf_M} {Q : Option Value → zf_M → Prop} {q : tQ}
theorem zfc_e {s t : Nat} {i j n : Int32} : zfc q s t i j n = 1 ∧ ((qS q).1 s < 0 ∨ (qS q).1 t < 0) ∨ zfc q s t i j n = 4 ∧ ¬ ((qS q).1 s < 0 ∨ (qS q).1 t < 0) ∧ (qS q).1 s ≠ (qS q).1 t ∨ (¬ ((qS q).1 s < 0 ∨ (qS q).1 t < 0) ∧ (qS q).1 s = (qS q).1 t) ∧ (zfc q s t i j n = 0 ∧ (0 ≤ i ∧ 0 ≤ n ∧ i.toInt + n.toInt ≤ ((qS q).2.1 s : Int)) ∧ (0 ≤ j ∧ 0 ≤ n ∧ j.toInt + n.toInt ≤ ((qS q).2.1 t : Int)) ∨ zfc q s t i j n = 2 ∧ ¬ ((0 ≤ i ∧ 0 ≤ n ∧ i.toInt + n.toInt ≤ ((qS q).2.1 s : Int)) ∧ (0 ≤ j ∧ 0 ≤ n ∧ j.toInt + n.toInt ≤ ((qS q).2.1 t : Int)))) := by
  unfold zfc
  by_cases g : (qS q).1 s < 0 ∨ (qS q).1 t < 0
  · rw [if_pos g]
    exact Or.inl ⟨rfl, g⟩
  · rw [if_neg g]
    by_cases g2 : (qS q).1 s = (qS q).1 t
    · rw [if_neg (fun z => z g2)]
      by_cases g3 : (0 ≤ i ∧ 0 ≤ n ∧ i.toInt + n.toInt ≤ ((qS q).2.1 s : Int)) ∧ (0 ≤ j ∧ 0 ≤ n ∧ j.toInt + n.toInt ≤ ((qS q).2.1 t : Int))
      · rw [if_pos g3]
        exact Or.inr (Or.inr ⟨⟨g, g2⟩, Or.inl ⟨rfl, g3⟩⟩)
      · rw [if_neg g3]
        exact Or.inr (Or.inr ⟨⟨g, g2⟩, Or.inr ⟨rfl, g3⟩⟩)
    · rw [if_pos g2]
      exact Or.inr (Or.inl ⟨rfl, g, g2⟩)
/-- places of a run -/
theorem run_o {i n : Int32} {z : Nat} (hz : z ≤ 60) (h : 0 ≤ i ∧ 0 ≤ n ∧ i.toInt + n.toInt ≤ (z : Int)) : ∃ i' n', i = nI i' ∧ n = nI n' ∧ i' + n' ≤ z := by
  obtain ⟨h1, h2, h3⟩ := h
  obtain ⟨i', i1, rfl⟩ := nI_of (Int32.not_lt.mpr h1)
  obtain ⟨n', n1, rfl⟩ := nI_of (Int32.not_lt.mpr h2)
  rw [nI_toInt i1, nI_toInt n1] at h3
  exact ⟨i', n', rfl, rfl, by omega⟩
theorem C80 {s i t j n : Int32} (hv : vQ q) (hP : zPk M) (hC : zKC q M) (h : ∀ M1, zUp M M1 → zKC (nCopy q s i t j n) M1 → Q (some (.int (aCopy q s i t j n))) M1) : zC X 80 [.ref 0, .int s, .int i, .int t, .int j, .int n] M Q := by
  unfold nCopy aCopy at h
  have h0 : ¬ bCopy s t → Q (some (.int (-2))) M := by
    intro g
    have := h M (zUp_rf hP)
    rw [if_neg g, if_neg g] at this
    exact this hC
  have nn : ∀ {x : Prop}, ¬ ¬ x → x := Classical.not_not.mp
  rw [c80]
  simp only [w80_0, w80_1, zk_sI, zk_sJ, zk_sP, zn_sI, zn_sJ, zn_sP, zI_sI, zI_sJ, zI_sP, zJ_sI, zJ_sJ, zJ_sP, zP_sI, zP_sJ, zP_sP, Option.toList_some, Option.toList_none, List.cons_append, List.nil_append]
  refine s87 ?_
  simp only [w80_4, w80_7, w80_8, w80_14, w80_16, zk_sI, zk_sJ, zk_sP, zn_sI, zn_sJ, zn_sP, zI_sI, zI_sJ, zI_sP, zJ_sI, zJ_sJ, zJ_sP, zP_sI, zP_sJ, zP_sP, Option.toList_some, Option.toList_none, List.cons_append, List.nil_append, zB_0]
  refine ⟨fun g => h0 (fun z => g z.1), fun g1 => ?_⟩
  refine s87 ?_
  simp only [w80_11, w80_14, w80_16, w80_17, w80_18, w80_21, w80_22, zk_sI, zk_sJ, zk_sP, zn_sI, zn_sJ, zn_sP, zI_sI, zI_sJ, zI_sP, zJ_sI, zJ_sJ, zJ_sP, zP_sI, zP_sJ, zP_sP, Option.toList_some, Option.toList_none, List.cons_append, List.nil_append, zk_of hP.1, zn_of hP.1, zix, ziN, ne_eq, reduceCtorEq, not_false_eq_true, true_and, and_true, Option.getD_some, Nat.reduceLeDiff, Nat.reduceLT, c_ofNat, zkd0, zp_0_0 hP, zp_0_1 hP, zp_0_2 hP, zp_0_3 hP, zp_0_4 hP, zp_0_5 hP, zp_0_6 hP, zp_0_7 hP, zkd45, znd45, zfx45, zp_45_0 hP, zp_45_1 hP, zp_45_2 hP, zp_45_3 hP, zB_0]
  refine ⟨fun g2 => ?_, fun g => h0 (fun z => g (fun y => y z.2))⟩
  have hb : bCopy s t := ⟨nn g1, nn g2⟩
  rw [if_pos hb, if_pos hb] at h
  obtain ⟨s', s1, rfl⟩ := zin_o (n := 3) rfl (by decide) hb.1
  obtain ⟨t', t1, rfl⟩ := zin_o (n := 3) rfl (by decide) hb.2
  rw [n_cl (by omega), n_cl (by omega)] at h
  obtain ⟨hws, h45s⟩ := zSw_of hP (show s' < 4 by omega)
  obtain ⟨hwt, h45t⟩ := zSw_of hP (show t' < 4 by omega)
  have hzds : zkd (50 + 2 * s') = 7 := by rw [← zk_of hP.1]; exact hws.2.1
  have hzdt : zkd (50 + 2 * t') = 7 := by rw [← zk_of hP.1]; exact hwt.2.1
  have hcS := hC.2.2.2.2.2.2.2.1
  obtain ⟨b1, b2, b3, b4⟩ := hcS s' (by omega)
  obtain ⟨d1, d2, d3, d4⟩ := hcS t' (by omega)
  have hvs := (hv.2.2.2.2.2 s' (by omega)).1
  have hvt := (hv.2.2.2.2.2 t' (by omega)).1
  have x0 := n_cl (show s' < 2 ^ 31 by omega)
  have x1 := n_in (show s' < 4 by omega) (show 4 < 2 ^ 31 by decide)
  have y0 := n_cl (show t' < 2 ^ 31 by omega)
  have y1 := n_in (show t' < 4 by omega) (show 4 < 2 ^ 31 by decide)
  have fl : ∀ v, zfc q s' t' i j n = v → v ≠ 0 → ∀ pc ls, (∀ M1, zW X 80 pc ls [.int (-10 - v)] M1 Q ↔ Q (some (.int (-10 - v))) M1) → zC X 93 [.ref 0, .int v] M (fun w M2 => zW X 80 pc ls (w.toList ++ []) M2 Q) := by
    intro v hvv hv0 pc ls hpc
    refine s93 hP ?_
    show zW X 80 pc ls (.int (-10 - v) :: []) _ Q
    rw [hpc]
    rw [hvv, if_neg hv0, if_neg hv0] at h
    obtain ⟨x1, x2⟩ := zKC_f (v := v) hP hC
    exact h _ x1 x2
  simp only [w80_22, w80_23, w80_25, w80_26, w80_29, w80_30, w80_31, w80_33, w80_35, w80_38, w80_41, w80_43, w80_46, zk_sI, zk_sJ, zk_sP, zn_sI, zn_sJ, zn_sP, zI_sI, zI_sJ, zI_sP, zJ_sI, zJ_sJ, zJ_sP, zP_sI, zP_sJ, zP_sP, Option.toList_some, Option.toList_none, List.cons_append, List.nil_append, zk_of hP.1, zn_of hP.1, zix, ziN, ne_eq, reduceCtorEq, not_false_eq_true, true_and, and_true, Option.getD_some, Nat.reduceLeDiff, Nat.reduceLT, c_ofNat, zkd0, zp_0_0 hP, zp_0_1 hP, zp_0_2 hP, zp_0_3 hP, zp_0_4 hP, zp_0_5 hP, zp_0_6 hP, zp_0_7 hP, zkd45, znd45, zfx45, zp_45_0 hP, zp_45_1 hP, zp_45_2 hP, zp_45_3 hP, h45s, h45t, hzds, hzdt, x0, x1, y0, y1, or_true, true_or, b2, d2, zB_0]
  have F1 : ((qS q).1 s' < 0 ∨ (qS q).1 t' < 0) → ∀ l1 l2 l3 l4 l5 l6 l7, zW X 80 49 [.val (.ref 0), l1, l2, l3, l4, l5, l6, l7] [] M Q := by
    intro g l1 l2 l3 l4 l5 l6 l7
    simp only [w80_49, w80_50, w80_51, zk_sI, zk_sJ, zk_sP, zn_sI, zn_sJ, zn_sP, zI_sI, zI_sJ, zI_sP, zJ_sI, zJ_sJ, zJ_sP, zP_sI, zP_sJ, zP_sP, Option.toList_some, Option.toList_none, List.cons_append, List.nil_append, zk_of hP.1, zn_of hP.1, zix, ziN, ne_eq, reduceCtorEq, not_false_eq_true, true_and, and_true, Option.getD_some, Nat.reduceLeDiff, Nat.reduceLT, c_ofNat, zkd0, zp_0_0 hP, zp_0_1 hP, zp_0_2 hP, zp_0_3 hP, zp_0_4 hP, zp_0_5 hP, zp_0_6 hP, zp_0_7 hP]
    exact fl 1 (by unfold zfc; rw [if_pos g]) (by decide) 54 _ (fun _ => w80_54)
  have F2 : ¬ ((qS q).1 s' < 0 ∨ (qS q).1 t' < 0) → zW X 80 55 [.val (.ref 0), .val (.int (nI s')), .val (.int i), .val (.int (nI t')), .val (.int j), .val (.int n), .val (.ref (50 + 2 * s')), .val (.ref (50 + 2 * t'))] [] M Q := by
    intro g
    have gs : ¬ (qS q).1 s' < 0 := fun z => g (Or.inl z)
    have gt : ¬ (qS q).1 t' < 0 := fun z => g (Or.inr z)
    have F4 : ¬ ((0 ≤ i ∧ 0 ≤ n ∧ i.toInt + n.toInt ≤ ((qS q).2.1 s' : Int)) ∧ (0 ≤ j ∧ 0 ≤ n ∧ j.toInt + n.toInt ≤ ((qS q).2.1 t' : Int))) → (qS q).1 s' = (qS q).1 t' → ∀ l1 l2 l3 l4 l5 l6 l7, zW X 80 97 [.val (.ref 0), l1, l2, l3, l4, l5, l6, l7] [] M Q := by
      intro g3 g4 l1 l2 l3 l4 l5 l6 l7
      simp only [w80_97, w80_98, w80_99, zk_sI, zk_sJ, zk_sP, zn_sI, zn_sJ, zn_sP, zI_sI, zI_sJ, zI_sP, zJ_sI, zJ_sJ, zJ_sP, zP_sI, zP_sJ, zP_sP, Option.toList_some, Option.toList_none, List.cons_append, List.nil_append, zk_of hP.1, zn_of hP.1, zix, ziN, ne_eq, reduceCtorEq, not_false_eq_true, true_and, and_true, Option.getD_some, Nat.reduceLeDiff, Nat.reduceLT, c_ofNat, zkd0, zp_0_0 hP, zp_0_1 hP, zp_0_2 hP, zp_0_3 hP, zp_0_4 hP, zp_0_5 hP, zp_0_6 hP, zp_0_7 hP]
      exact fl 2 (by unfold zfc; rw [if_neg g, if_neg (fun z => z g4), if_neg g3]) (by decide) 102 _ (fun _ => w80_102)
    simp only [w80_55, w80_57, w80_60, w80_62, w80_65, w80_68, w80_69, w80_70, w80_73, zk_sI, zk_sJ, zk_sP, zn_sI, zn_sJ, zn_sP, zI_sI, zI_sJ, zI_sP, zJ_sI, zJ_sJ, zJ_sP, zP_sI, zP_sJ, zP_sP, Option.toList_some, Option.toList_none, List.cons_append, List.nil_append, zk_of hP.1, zn_of hP.1, zix, ziN, ne_eq, reduceCtorEq, not_false_eq_true, true_and, and_true, Option.getD_some, Nat.reduceLeDiff, Nat.reduceLT, c_ofNat, zkd0, zp_0_0 hP, zp_0_1 hP, zp_0_2 hP, zp_0_3 hP, zp_0_4 hP, zp_0_5 hP, zp_0_6 hP, zp_0_7 hP, hzds, hzdt, b3 gs, d3 gt]
    refine ⟨fun g2 => ?_, fun g2 => fl 4 (by unfold zfc; rw [if_neg g, if_pos g2]) (by decide) 73 _ (fun _ => w80_73)⟩
    simp only [w80_74, w80_76, w80_77, w80_79, zk_sI, zk_sJ, zk_sP, zn_sI, zn_sJ, zn_sP, zI_sI, zI_sJ, zI_sP, zJ_sI, zJ_sJ, zJ_sP, zP_sI, zP_sJ, zP_sP, Option.toList_some, Option.toList_none, List.cons_append, List.nil_append, zk_of hP.1, zn_of hP.1, zix, ziN, ne_eq, reduceCtorEq, not_false_eq_true, true_and, and_true, Option.getD_some, Nat.reduceLeDiff, Nat.reduceLT, c_ofNat, zkd0, zp_0_0 hP, zp_0_1 hP, zp_0_2 hP, zp_0_3 hP, zp_0_4 hP, zp_0_5 hP, zp_0_6 hP, zp_0_7 hP, hzds, hzdt]
    refine s46 hws b1 hvs ?_
    simp only [w80_82, w80_85, w80_87, w80_89, w80_91, zk_sI, zk_sJ, zk_sP, zn_sI, zn_sJ, zn_sP, zI_sI, zI_sJ, zI_sP, zJ_sI, zJ_sJ, zJ_sP, zP_sI, zP_sJ, zP_sP, Option.toList_some, Option.toList_none, List.cons_append, List.nil_append, zk_of hP.1, zn_of hP.1, zix, ziN, ne_eq, reduceCtorEq, not_false_eq_true, true_and, and_true, Option.getD_some, Nat.reduceLeDiff, Nat.reduceLT, c_ofNat, zkd0, zp_0_0 hP, zp_0_1 hP, zp_0_2 hP, zp_0_3 hP, zp_0_4 hP, zp_0_5 hP, zp_0_6 hP, zp_0_7 hP, hzds, hzdt, zB_0]
    refine ⟨fun g3 => F4 (fun z => g3 z.1) g2 _ _ _ _ _ _ _, fun g3 => ?_⟩
    have g3 := nn g3
    refine s46 hwt d1 hvt ?_
    simp only [w80_94, zk_sI, zk_sJ, zk_sP, zn_sI, zn_sJ, zn_sP, zI_sI, zI_sJ, zI_sP, zJ_sI, zJ_sJ, zJ_sP, zP_sI, zP_sJ, zP_sP, Option.toList_some, Option.toList_none, List.cons_append, List.nil_append, zk_of hP.1, zn_of hP.1, zix, ziN, ne_eq, reduceCtorEq, not_false_eq_true, true_and, and_true, Option.getD_some, Nat.reduceLeDiff, Nat.reduceLT, c_ofNat, zkd0, zp_0_0 hP, zp_0_1 hP, zp_0_2 hP, zp_0_3 hP, zp_0_4 hP, zp_0_5 hP, zp_0_6 hP, zp_0_7 hP, hzds, hzdt, zB_0]
    refine ⟨fun g4 => ?_, fun g4 => F4 (fun z => g4 (fun y => y z.2)) g2 _ _ _ _ _ _ _⟩
    have g4 := nn g4
    have hz : zfc q s' t' i j n = 0 := by
      unfold zfc
      rw [if_neg g, if_neg (fun z => z g2), if_pos ⟨g3, g4⟩]
    rw [if_pos hz, if_pos hz] at h
    obtain ⟨i', n', rfl, rfl, hin⟩ := run_o hvs g3
    obtain ⟨j', n2, rfl, e2, hjn⟩ := run_o hvt g4
    have en : n' = n2 := by
      have := congrArg Int32.toNatClampNeg e2
      rw [n_cl (by omega), n_cl (by omega)] at this
      exact this
    subst en
    rw [n_cl (by omega), n_cl (by omega), n_cl (by omega)] at h
    obtain ⟨-, -, ps, ns, ks⟩ := hws
    obtain ⟨-, -, pt, nt, kt⟩ := hwt
    simp only [w80_103, w80_105, w80_108, w80_109, w80_111, w80_114, w80_116, w80_118, w80_121, w80_122, zk_sI, zk_sJ, zk_sP, zn_sI, zn_sJ, zn_sP, zI_sI, zI_sJ, zI_sP, zJ_sI, zJ_sJ, zJ_sP, zP_sI, zP_sJ, zP_sP, Option.toList_some, Option.toList_none, List.cons_append, List.nil_append, zk_of hP.1, zn_of hP.1, zix, ziN, ne_eq, reduceCtorEq, not_false_eq_true, true_and, and_true, Option.getD_some, Nat.reduceLeDiff, Nat.reduceLT, c_ofNat, zkd0, zp_0_0 hP, zp_0_1 hP, zp_0_2 hP, zp_0_3 hP, zp_0_4 hP, zp_0_5 hP, zp_0_6 hP, zp_0_7 hP, hzds, hzdt, ps, pt, ns, nt, ks, kt, n_cl (show i' < 2 ^ 31 by omega), n_cl (show j' < 2 ^ 31 by omega), n_cl (show n' < 2 ^ 31 by omega), eq_false (nI_pos (show i' < 2 ^ 31 by omega)), eq_false (nI_pos (show j' < 2 ^ 31 by omega)), eq_false (nI_pos (show n' < 2 ^ 31 by omega))]
    have zns : znd 10 (50 + 2 * s' + 1) = 60 := by rw [← zn_of hP.1]; exact ns
    have znt : znd 10 (50 + 2 * t' + 1) = 60 := by rw [← zn_of hP.1]; exact nt
    have zks : zkd (50 + 2 * s' + 1) = 10 := by rw [← zk_of hP.1]; exact ks
    have zkt : zkd (50 + 2 * t' + 1) = 10 := by rw [← zk_of hP.1]; exact kt
    rw [zns, znt]
    refine ⟨⟨by omega, by omega, zks, zkt⟩, ?_⟩
    have hF : zF (fun c => c = 50 + 2 * t' + 1) M (zf_cpy M (50 + 2 * s' + 1) (50 + 2 * t' + 1) i' j' n') := zF_cpy
    refine h _ (zUp_F hP hF (fun c hc => by omega)) (zKC_S hC (zLO_F hC.1 hF (fun c x y => by omega)) (fun c j _ k => (hF.2.1 c (by omega) j).1) (cS_up (s := t') hcS (fun c j x y => (hF.2.1 c y j).1) (fun u hu => ⟨rfl, rfl, zud_neq hu⟩) ?_ ?_ (fun z => ?_) (fun x hx => ?_)))
    · rw [(hF.2.1 _ (by omega) 2).1]
      exact d1
    · rw [(hF.2.1 _ (by omega) 3).1]
      exact d2
    · rw [(hF.2.1 _ (by omega) 1).1]
      exact d3 z
    · rw [zud_eq, zI_cpy, if_pos rfl]
      unfold zcy
      by_cases e : j' ≤ x ∧ x < j' + n'
      · rw [if_pos e, if_pos e]
        exact b4 _ (by omega)
      · rw [if_neg e, if_neg e]
        exact d4 x hx
  exact ⟨fun g => F1 (Or.inl (nn g)) _ _ _ _ _ _ _, fun g => ⟨fun g2 => F2 (fun z => z.elim (fun y => g (fun w => w y)) g2), fun g2 => F1 (Or.inr (nn g2)) _ _ _ _ _ _ _⟩⟩
end ZCy
