/-! ===== laws, side ===== -/
abbrev bRow (n : Nat) (a b c : Int32) : Prop := (a = -1 ∨ vhas n a) ∧ (b = -1 ∨ vhas n b) ∧ (c = -1 ∨ vhas n c) ∧ (a = -1 → b = -1) ∧ (b = -1 → c = -1)
def rSize (a b c : Int32) : Nat := if a = -1 then 0 else if b = -1 then 1 else if c = -1 then 2 else 3
def rRow (a b c : Int32) : Nat × (Nat → Nat) := (rSize a b c, fun j => if j = 0 then a.toNatClampNeg else if j = 1 then b.toNatClampNeg else c.toNatClampNeg)
theorem rSize_le (a b c : Int32) : rSize a b c ≤ 3 := by
  unfold rSize
  split
  · decide
  · split
    · decide
    · split <;> decide
theorem vhas_c {n : Nat} {a : Int32} (h : vhas n a) (hn : n ≤ 16) : a = nI a.toNatClampNeg ∧ a.toNatClampNeg < n ∧ a ≠ -1 := by
  obtain ⟨k, k1, rfl⟩ := vhas_o h hn
  rw [n_cl (by omega)]
  refine ⟨rfl, k1, fun z => ?_⟩
  rw [n_ne (by omega)] at z
  exact z
theorem rRow_e {n : Nat} {a b c : Int32} (h : bRow n a b c) (hn : n ≤ 16) : vRow n (rRow a b c) ∧ zvo (zat (rRow a b c) 0) = a ∧ zvo (zat (rRow a b c) 1) = b ∧ zvo (zat (rRow a b c) 2) = c := by
  obtain ⟨ha, hb, hc, h1, h2⟩ := h
  by_cases ea : a = -1
  · have eb := h1 ea
    have ec := h2 eb
    subst ea eb ec
    exact ⟨⟨by decide, fun j hj => by change j < 0 at hj; omega⟩, rfl, rfl, rfl⟩
  · have va := vhas_c (ha.resolve_left ea) hn
    by_cases eb : b = -1
    · have ec := h2 eb
      have hs : rSize a b c = 1 := by unfold rSize; rw [if_neg ea, if_pos eb]
      have e : ∀ j, zat (rRow a b c) j = if j < 1 then some ((rRow a b c).2 j) else none := fun j => by
        show (if j < rSize a b c then _ else _) = _
        rw [hs]
      refine ⟨⟨rSize_le _ _ _, fun j hj => ?_⟩, ?_, ?_, ?_⟩
      · change j < rSize a b c at hj
        rw [hs] at hj
        obtain rfl : j = 0 := by omega
        exact va.2.1
      · rw [e]
        exact va.1.symm
      · rw [e]
        exact eb.symm
      · rw [e]
        exact ec.symm
    · have vb := vhas_c (hb.resolve_left eb) hn
      by_cases ec : c = -1
      · have hs : rSize a b c = 2 := by unfold rSize; rw [if_neg ea, if_neg eb, if_pos ec]
        have e : ∀ j, zat (rRow a b c) j = if j < 2 then some ((rRow a b c).2 j) else none := fun j => by
          show (if j < rSize a b c then _ else _) = _
          rw [hs]
        refine ⟨⟨rSize_le _ _ _, fun j hj => ?_⟩, ?_, ?_, ?_⟩
        · change j < rSize a b c at hj
          rw [hs] at hj
          rcases (show j = 0 ∨ j = 1 by omega) with rfl | rfl
          · exact va.2.1
          · exact vb.2.1
        · rw [e]
          exact va.1.symm
        · rw [e]
          exact vb.1.symm
        · rw [e]
          exact ec.symm
      · have vc := vhas_c (hc.resolve_left ec) hn
        have hs : rSize a b c = 3 := by unfold rSize; rw [if_neg ea, if_neg eb, if_neg ec]
        have e : ∀ j, zat (rRow a b c) j = if j < 3 then some ((rRow a b c).2 j) else none := fun j => by
          show (if j < rSize a b c then _ else _) = _
          rw [hs]
        refine ⟨⟨rSize_le _ _ _, fun j hj => ?_⟩, ?_, ?_, ?_⟩
        · change j < rSize a b c at hj
          rw [hs] at hj
          rcases (show j = 0 ∨ j = 1 ∨ j = 2 by omega) with rfl | rfl | rfl
          · exact va.2.1
          · exact vb.2.1
          · exact vc.2.1
        · rw [e]
          exact va.1.symm
        · rw [e]
          exact vb.1.symm
        · rw [e]
          exact vc.1.symm
abbrev bLaws (n b w : Int32) : Prop := zin n 1 6 ∧ zin b 0 1 ∧ zin w (-1) 1
def aLaws (n b w : Int32) : Int32 := if bLaws n b w then 1 else -2
def nLaws (q : tQ) (n b w : Int32) : tQ := if bLaws n b w then uL q (n.toNatClampNeg, b, w) else q
theorem zin_16 {n : Int32} {lo : Int32} {h : Nat} (hlo : 0 ≤ lo) (hh : h < 2 ^ 31) (g : zin n lo (nI h)) : ∃ k, k ≤ h ∧ n = nI k ∧ lo ≤ nI k := by
  obtain ⟨k, k1, rfl⟩ := zin_o (n := h) rfl hh ⟨Int32.le_trans hlo g.1, g.2⟩
  exact ⟨k, k1, rfl, g.1⟩
theorem vLaws {q : tQ} (n b w : Int32) (hv : vQ q) : vQ (nLaws q n b w) := by
  unfold nLaws
  split
  next g =>
    obtain ⟨k, k1, rfl, k2⟩ := zin_16 (h := 6) (by decide) (by decide) g.1
    rw [c_1, n_le (by decide) (by omega)] at k2
    refine ⟨hv.1, hv.2.1, ?_, hv.2.2.2⟩
    show 1 ≤ (nI k).toNatClampNeg ∧ (nI k).toNatClampNeg ≤ 6
    rw [n_cl (by omega)]
    exact ⟨k2, k1⟩
  next => exact hv
section ZSd
variable {X : zf_X} {M : zf_M} {Q : Option Value → zf_M → Prop} {q : tQ}
theorem s85 {s : Int32} (h : Q (some (.int (zB (zin s (-1) 1)))) M) : zC X 85 [.int s] M Q := by
  have e : zin s (-1) 1 ↔ (s = -1 ∨ (s = 0 ∨ s = 1)) := by
    show (-1 ≤ s ∧ s ≤ 1) ↔ _
    rw [Int32.le_iff_toInt_le, Int32.le_iff_toInt_le, ← Int32.toInt_inj, ← Int32.toInt_inj, ← Int32.toInt_inj, t_0, t_1, t_m1]
    omega
  rw [c85]
  simp only [w85_0, w85_1, w85_2, w85_5, w85_6, w85_9, w85_12, w85_13, w85_16, w85_17, zk_sI, zk_sJ, zk_sP, zn_sI, zn_sJ, zn_sP, zI_sI, zI_sJ, zI_sP, zJ_sI, zJ_sJ, zJ_sP, zP_sI, zP_sJ, zP_sP, Option.toList_some, Option.toList_none, List.cons_append, List.nil_append]
  refine ⟨fun g => zB_1 (e.mpr (Or.inl g)) h, fun g => s84 ?_⟩
  simp only [w85_0, w85_1, w85_2, w85_5, w85_6, w85_9, w85_12, w85_13, w85_16, w85_17, zk_sI, zk_sJ, zk_sP, zn_sI, zn_sJ, zn_sP, zI_sI, zI_sJ, zI_sP, zJ_sI, zJ_sJ, zJ_sP, zP_sI, zP_sJ, zP_sP, Option.toList_some, Option.toList_none, List.cons_append, List.nil_append, zB_0]
  exact ⟨fun g2 => zB_2 (fun z => (e.mp z).elim g g2) h, fun g2 => zB_1 (e.mpr (Or.inr (Classical.not_not.mp g2))) h⟩
theorem C55 {n b w : Int32} (hP : zPk M) (hC : zKC q M) (h : ∀ M1, zUp M M1 → zKC (nLaws q n b w) M1 → Q (some (.int (aLaws n b w))) M1) : zC X 55 [.ref 0, .int n, .int b, .int w] M Q := by
  unfold nLaws aLaws at h
  have h0 : ¬ bLaws n b w → zW X 55 34 [.val (.ref 0), .val (.int n), .val (.int b), .val (.int w), .val (.int 0)] [] M Q := by
    intro g
    have := h M (zUp_rf hP)
    rw [if_neg g, if_neg g] at this
    simp only [w55_34, w55_36, w55_39, w55_41, zk_sI, zk_sJ, zk_sP, zn_sI, zn_sJ, zn_sP, zI_sI, zI_sJ, zI_sP, zJ_sI, zJ_sJ, zJ_sP, zP_sI, zP_sJ, zP_sP, Option.toList_some, Option.toList_none, List.cons_append, List.nil_append, true_implies, not_true_eq_false, not_false_eq_true, false_implies, and_true, true_and]
    exact this hC
  have h1 : zin n 1 6 → zin b 0 1 → zC X 85 [.int w] M (fun v M2 => zW X 55 24 [.val (.ref 0), .val (.int n), .val (.int b), .val (.int w), .unset] (v.toList ++ []) M2 Q) := by
    intro g1 g2
    refine s85 ?_
    simp only [w55_24, w55_27, w55_28, w55_31, w55_32, zk_sI, zk_sJ, zk_sP, zn_sI, zn_sJ, zn_sP, zI_sI, zI_sJ, zI_sP, zJ_sI, zJ_sJ, zJ_sP, zP_sI, zP_sJ, zP_sP, Option.toList_some, Option.toList_none, List.cons_append, List.nil_append, zB_0]
    refine ⟨fun g3 => h0 (fun z => g3 z.2.2), fun g3 => ?_⟩
    have hb : bLaws n b w := ⟨g1, g2, Classical.not_not.mp g3⟩
    rw [if_pos hb, if_pos hb] at h
    obtain ⟨k, k1, e1, -⟩ := zin_16 (h := 6) (by decide) (by decide) hb.1
    have n10 : ¬ (1 : Int32) = 0 := by decide
    simp only [w55_34, w55_36, w55_39, w55_41, w55_42, w55_43, w55_44, w55_47, w55_48, w55_49, w55_52, w55_53, w55_54, w55_57, w55_58, zk_sI, zk_sJ, zk_sP, zn_sI, zn_sJ, zn_sP, zI_sI, zI_sJ, zI_sP, zJ_sI, zJ_sJ, zJ_sP, zP_sI, zP_sJ, zP_sP, Option.toList_some, Option.toList_none, List.cons_append, List.nil_append, zk_of hP.1, zn_of hP.1, zix, ziN, ne_eq, reduceCtorEq, not_false_eq_true, true_and, and_true, Option.getD_some, Nat.reduceLeDiff, Nat.reduceLT, c_ofNat, zkd0, zp_0_0 hP, zp_0_1 hP, zp_0_2 hP, zp_0_3 hP, zp_0_4 hP, zp_0_5 hP, zp_0_6 hP, zp_0_7 hP, n10, true_implies, not_true_eq_false, not_false_eq_true, false_implies, and_true, true_and]
    have hF : zF (fun c => c = 0) M (zf_sI (zf_sI (zf_sI M 0 8 n) 0 9 b) 0 10 w) := zF_sI (zF_sI (zF_sI (zF_rf _ _) rfl) rfl) rfl
    refine h _ (zUp_F hP hF (fun c hc => by omega)) (zKC_L hC (zLO_F hC.1 hF (fun c x y => by omega)) (fun c j _ k => ?_) ⟨?_, ?_, zI_eq⟩)
    · rw [zI_ne (by omega), zI_ne (by omega), zI_ne (by omega)]
    · rw [zI_ne (by omega), zI_ne (by omega), zI_eq]
      show n = nI n.toNatClampNeg
      rw [e1, n_cl (by omega)]
    · rw [zI_ne (by omega), zI_eq]
  rw [c55]
  simp only [w55_0, w55_1, w55_2, w55_5, w55_6, w55_8, w55_11, w55_12, w55_15, w55_16, w55_17, w55_20, w55_21, w55_31, w55_32, zk_sI, zk_sJ, zk_sP, zn_sI, zn_sJ, zn_sP, zI_sI, zI_sJ, zI_sP, zJ_sI, zJ_sJ, zJ_sP, zP_sI, zP_sJ, zP_sP, Option.toList_some, Option.toList_none, List.cons_append, List.nil_append]
  refine ⟨fun g => h0 (fun z => Int32.not_lt.mpr z.1.1 g), fun g => ⟨fun g2 => h0 (fun z => Int32.not_lt.mpr z.1.2 g2), fun g2 => ?_⟩⟩
  have hn : zin n 1 6 := ⟨Int32.not_lt.mp g, Int32.not_lt.mp g2⟩
  exact ⟨fun g3 => h1 hn (side_in.mp (Or.inl g3)), fun g3 => ⟨fun g4 => h0 (fun z => (side_in.mpr z.2.1).elim g3 g4), fun g4 => h1 hn (side_in.mp (Or.inr (Classical.not_not.mp g4)))⟩⟩
end ZSd

