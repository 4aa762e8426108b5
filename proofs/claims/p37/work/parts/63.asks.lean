/-! ===== FairFight: what is asked of a fight ===== -/
/-- the class's numbers of a fight as it is -/
def zKx (n : Nat) (nu : Nat → Nat) (h : Nat) (w : Nat → Nat) (hf : Nat) (wf : Nat → Nat) (r : Nat) (am su : Int32) (M : zf_M) : Prop := zPk M ∧ zRo n nu M ∧ zLw r am su M ∧ zRx M 46 h w ∧ zRx M 48 hf wf ∧ (∀ j, j < h → w j < n) ∧ (∀ j, j < hf → wf j < n) ∧ zLO M
section ZAs
variable {X : zf_X} {M : zf_M} {Q : Option Value → zf_M → Prop} {n : Nat} {nu : Nat → Nat} {h : Nat} {w : Nat → Nat} {hf : Nat} {wf : Nat → Nat} {r : Nat} {am su : Int32}
theorem zKx_G {M1 : zf_M} (hK : zKx n nu h w hf wf r am su M) (hG : zG (fun c => 4 ≤ c ∧ c ≤ 25) M M1) (hO : zLO M1) : zKx n nu h w hf wf r am su M1 := by
  obtain ⟨hP, hR, hL, hrx, hry, h1, h2, -⟩ := hK
  have e : ∀ c, c < 4 ∨ 25 < c → ∀ j, zf_I M1 c j = zf_I M c j := fun c hc j => (hG.2.1 c (by omega) j).1
  refine ⟨zPk_G hP hG, ⟨hR.1, by rw [e 1 (by omega)]; exact hR.2.1, fun i hi => by rw [e 2 (by omega)]; exact hR.2.2 i hi⟩, ⟨hL.1, by rw [e 0 (by omega)]; exact hL.2.1, by rw [e 0 (by omega)]; exact hL.2.2.1, by rw [e 0 (by omega)]; exact hL.2.2.2⟩, ⟨hrx.1, by rw [e 46 (by omega)]; exact hrx.2.1, fun j hj => by rw [e _ (by omega)]; exact hrx.2.2 j hj⟩, ⟨hry.1, by rw [e 48 (by omega)]; exact hry.2.1, fun j hj => by rw [e _ (by omega)]; exact hry.2.2 j hj⟩, h1, h2, hO⟩
theorem s98b (hK : zKx n nu h w hf wf r am su M)
    (hQ : ∀ M1, zG (fun c => 4 ≤ c ∧ c ≤ 25) M M1 → zKx n nu h w hf wf r am su M1 → (zrun (zpm (zca nu h w hf wf 0) am su r) → zOut (zpm (zca nu h w hf wf 0) am su r) M1) → Q (some (.int (zB (zrun (zpm (zca nu h w hf wf 0) am su r))))) M1) : zC X 98 [.ref 0] M Q := by
  obtain ⟨hP, hR, hL, hrx, hry, h1, h2, hO⟩ := hK
  exact s98 hP hR hL hrx hry h1 h2 hO (fun M1 g1 g2 g3 => hQ M1 g1 (zKx_G ⟨hP, hR, hL, hrx, hry, h1, h2, hO⟩ g1 g2) g3)
/-- refusal -/
theorem s92 {v : Int32} (h : Q (some (.long (-9223372036854775808 - v.toInt64))) M) : zC X 92 [.int v] M Q := by
  rw [c92]
  simp only [w92_0, w92_3, w92_4, w92_5, w92_6, zk_sI, zk_sJ, zk_sP, zn_sI, zn_sJ, zn_sP, zI_sI, zI_sJ, zI_sP, zJ_sI, zJ_sJ, zJ_sP, zP_sI, zP_sJ, zP_sP, Option.toList_some, Option.toList_none, List.cons_append, List.nil_append]
  exact h
def zall' (p : zPm) : Int64 := if zrun p then lN (6 ^ (pr p * pn p)) else -9223372036854775808 - (-5 : Int32).toInt64
def zend' (p : zPm) (e : Nat) : Int64 := if zrun p then lN ((zrk p).2.1.1 e) else -9223372036854775808 - (-5 : Int32).toInt64
def zrnd' (p : zPm) (e : Nat) : Int64 := if zrun p then lN ((zrk p).2.1.2.1 e) else -9223372036854775808 - (-5 : Int32).toInt64
def zlft' (p : zPm) (e : Nat) : Int64 := if zrun p then lN ((zrk p).2.1.2.2 e) else -9223372036854775808 - (-5 : Int32).toInt64
def zwid' (p : zPm) : Int32 := if zrun p then nI (zrk p).2.2 else -5
/-- all -/
theorem s57 (hK : zKx n nu h w hf wf r am su M) (hQ : ∀ M1, zG (fun c => 4 ≤ c ∧ c ≤ 25) M M1 → zKx n nu h w hf wf r am su M1 → Q (some (.long (zall' (zpm (zca nu h w hf wf 0) am su r)))) M1) : zC X 57 [.ref 0] M Q := by
  rw [c57]
  have hP := hK.1
  simp only [w57_0, w57_1, w57_4, w57_7, w57_8, w57_11, w57_14, w57_17, w57_19, w57_22, zk_sI, zk_sJ, zk_sP, zn_sI, zn_sJ, zn_sP, zI_sI, zI_sJ, zI_sP, zJ_sI, zJ_sJ, zJ_sP, zP_sI, zP_sJ, zP_sP, Option.toList_some, Option.toList_none, List.cons_append, List.nil_append, zk_of hP.1, zn_of hP.1, zix, ziN, ne_eq, reduceCtorEq, not_false_eq_true, true_and, and_true, Option.getD_some, Nat.reduceLeDiff, Nat.reduceLT, c_ofNat, zkd0, zp_0_0 hP, zp_0_1 hP, zp_0_2 hP, zp_0_3 hP, zp_0_4 hP, zp_0_5 hP, zp_0_6 hP, zp_0_7 hP, zkd12, zp_12_2 hP, zp_12_3 hP, zp_12_4 hP]
  refine s98b hK (fun M1 g1 g2 g3 => ?_)
  have hfin := hQ M1 g1 g2
  have hP1 := g2.1
  unfold zall' at hfin
  generalize zpm (zca nu h w hf wf 0) am su r = p at *
  simp only [w57_0, w57_1, w57_4, w57_7, w57_8, w57_11, w57_14, w57_17, w57_19, w57_22, zk_sI, zk_sJ, zk_sP, zn_sI, zn_sJ, zn_sP, zI_sI, zI_sJ, zI_sP, zJ_sI, zJ_sJ, zJ_sP, zP_sI, zP_sJ, zP_sP, Option.toList_some, Option.toList_none, List.cons_append, List.nil_append, zk_of hP1.1, zn_of hP1.1, zix, ziN, ne_eq, reduceCtorEq, not_false_eq_true, true_and, and_true, Option.getD_some, Nat.reduceLeDiff, Nat.reduceLT, c_ofNat, zkd0, zp_0_0 hP1, zp_0_1 hP1, zp_0_2 hP1, zp_0_3 hP1, zp_0_4 hP1, zp_0_5 hP1, zp_0_6 hP1, zp_0_7 hP1, zkd12, zp_12_2 hP1, zp_12_3 hP1, zp_12_4 hP1, zB_0]
  refine ⟨fun z => s92 ?_, fun z => ?_⟩
  · rw [if_neg z] at hfin
    simp only [w57_0, w57_1, w57_4, w57_7, w57_8, w57_11, w57_14, w57_17, w57_19, w57_22, zk_sI, zk_sJ, zk_sP, zn_sI, zn_sJ, zn_sP, zI_sI, zI_sJ, zI_sP, zJ_sI, zJ_sJ, zJ_sP, zP_sI, zP_sJ, zP_sP, Option.toList_some, Option.toList_none, List.cons_append, List.nil_append]
    exact hfin
  · have z := Decidable.not_not.mp z
    rw [if_pos z] at hfin
    rw [(g3 z).2.1]
    exact hfin
/-- states -/
theorem s61 (hK : zKx n nu h w hf wf r am su M) (hQ : ∀ M1, zG (fun c => 4 ≤ c ∧ c ≤ 25) M M1 → zKx n nu h w hf wf r am su M1 → Q (some (.int (zwid' (zpm (zca nu h w hf wf 0) am su r)))) M1) : zC X 61 [.ref 0] M Q := by
  rw [c61]
  have hP := hK.1
  simp only [w61_0, w61_1, w61_4, w61_7, w61_8, w61_11, w61_14, w61_17, w61_19, zk_sI, zk_sJ, zk_sP, zn_sI, zn_sJ, zn_sP, zI_sI, zI_sJ, zI_sP, zJ_sI, zJ_sJ, zJ_sP, zP_sI, zP_sJ, zP_sP, Option.toList_some, Option.toList_none, List.cons_append, List.nil_append, zk_of hP.1, zn_of hP.1, zix, ziN, ne_eq, reduceCtorEq, not_false_eq_true, true_and, and_true, Option.getD_some, Nat.reduceLeDiff, Nat.reduceLT, c_ofNat, zkd0, zp_0_0 hP, zp_0_1 hP, zp_0_2 hP, zp_0_3 hP, zp_0_4 hP, zp_0_5 hP, zp_0_6 hP, zp_0_7 hP, zkd12, zp_12_2 hP, zp_12_3 hP, zp_12_4 hP]
  refine s98b hK (fun M1 g1 g2 g3 => ?_)
  have hfin := hQ M1 g1 g2
  have hP1 := g2.1
  unfold zwid' at hfin
  generalize zpm (zca nu h w hf wf 0) am su r = p at *
  simp only [w61_0, w61_1, w61_4, w61_7, w61_8, w61_11, w61_14, w61_17, w61_19, zk_sI, zk_sJ, zk_sP, zn_sI, zn_sJ, zn_sP, zI_sI, zI_sJ, zI_sP, zJ_sI, zJ_sJ, zJ_sP, zP_sI, zP_sJ, zP_sP, Option.toList_some, Option.toList_none, List.cons_append, List.nil_append, zk_of hP1.1, zn_of hP1.1, zix, ziN, ne_eq, reduceCtorEq, not_false_eq_true, true_and, and_true, Option.getD_some, Nat.reduceLeDiff, Nat.reduceLT, c_ofNat, zkd0, zp_0_0 hP1, zp_0_1 hP1, zp_0_2 hP1, zp_0_3 hP1, zp_0_4 hP1, zp_0_5 hP1, zp_0_6 hP1, zp_0_7 hP1, zkd12, zp_12_2 hP1, zp_12_3 hP1, zp_12_4 hP1, zB_0]
  refine ⟨fun z => ?_, fun z => ?_⟩
  · rw [if_neg z] at hfin
    exact hfin
  · have z := Decidable.not_not.mp z
    rw [if_pos z] at hfin
    rw [(g3 z).2.2]
    exact hfin
/-- ways -/
theorem s58 {e : Int32} (hK : zKx n nu h w hf wf r am su M) (hbad : ¬ (0 ≤ e ∧ e ≤ 2) → Q (some (.long (-9223372036854775808 - (-2 : Int32).toInt64))) M) (hQ : ∀ k, e = nI k → k ≤ 2 → ∀ M1, zG (fun c => 4 ≤ c ∧ c ≤ 25) M M1 → zKx n nu h w hf wf r am su M1 → Q (some (.long (zend' (zpm (zca nu h w hf wf 0) am su r) k))) M1) : zC X 58 [.ref 0, .int e] M Q := by
  rw [c58]
  have hP := hK.1
  simp only [w58_0, w58_1, w58_4, w58_5, w58_6, w58_9, w58_11, w58_14, w58_15, w58_16, w58_19, w58_22, w58_23, w58_26, w58_29, w58_30, w58_31, w58_34, w58_36, w58_39, zk_sI, zk_sJ, zk_sP, zn_sI, zn_sJ, zn_sP, zI_sI, zI_sJ, zI_sP, zJ_sI, zJ_sJ, zJ_sP, zP_sI, zP_sJ, zP_sP, Option.toList_some, Option.toList_none, List.cons_append, List.nil_append, zk_of hP.1, zn_of hP.1, zix, ziN, ne_eq, reduceCtorEq, not_false_eq_true, true_and, and_true, Option.getD_some, Nat.reduceLeDiff, Nat.reduceLT, c_ofNat, zkd0, zp_0_0 hP, zp_0_1 hP, zp_0_2 hP, zp_0_3 hP, zp_0_4 hP, zp_0_5 hP, zp_0_6 hP, zp_0_7 hP, zkd12, zp_12_2 hP, zp_12_3 hP, zp_12_4 hP]
  refine ⟨fun z => ?_, fun z => ⟨fun z2 => ?_, fun z2 => ?_⟩⟩
  · refine s92 ?_
    simp only [w58_0, w58_1, w58_4, w58_5, w58_6, w58_9, w58_11, w58_14, w58_15, w58_16, w58_19, w58_22, w58_23, w58_26, w58_29, w58_30, w58_31, w58_34, w58_36, w58_39, zk_sI, zk_sJ, zk_sP, zn_sI, zn_sJ, zn_sP, zI_sI, zI_sJ, zI_sP, zJ_sI, zJ_sJ, zJ_sP, zP_sI, zP_sJ, zP_sP, Option.toList_some, Option.toList_none, List.cons_append, List.nil_append]
    exact hbad (fun g => Int32.not_lt.mpr g.1 z)
  · obtain ⟨k, k1, rfl⟩ := nI_of2 (M := 2) (n := 2) rfl z z2
    refine s98b hK (fun M1 g1 g2 g3 => ?_)
    have hfin := hQ k rfl k1 M1 g1 g2
    have hP1 := g2.1
    unfold zend' at hfin
    generalize zpm (zca nu h w hf wf 0) am su r = p at *
    simp only [w58_0, w58_1, w58_4, w58_5, w58_6, w58_9, w58_11, w58_14, w58_15, w58_16, w58_19, w58_22, w58_23, w58_26, w58_29, w58_30, w58_31, w58_34, w58_36, w58_39, zk_sI, zk_sJ, zk_sP, zn_sI, zn_sJ, zn_sP, zI_sI, zI_sJ, zI_sP, zJ_sI, zJ_sJ, zJ_sP, zP_sI, zP_sJ, zP_sP, Option.toList_some, Option.toList_none, List.cons_append, List.nil_append, zk_of hP1.1, zn_of hP1.1, zix, ziN, ne_eq, reduceCtorEq, not_false_eq_true, true_and, and_true, Option.getD_some, Nat.reduceLeDiff, Nat.reduceLT, c_ofNat, zkd0, zp_0_0 hP1, zp_0_1 hP1, zp_0_2 hP1, zp_0_3 hP1, zp_0_4 hP1, zp_0_5 hP1, zp_0_6 hP1, zp_0_7 hP1, zkd12, zp_12_2 hP1, zp_12_3 hP1, zp_12_4 hP1, zkd13, znd13, zfx13, zB_0, n_cl (show k < 2 ^ 31 by omega), n_in (show k < 3 by omega) (show 3 < 2 ^ 31 by decide)]
    refine ⟨fun z => s92 ?_, fun z => ?_⟩
    · rw [if_neg z] at hfin
      simp only [w58_0, w58_1, w58_4, w58_5, w58_6, w58_9, w58_11, w58_14, w58_15, w58_16, w58_19, w58_22, w58_23, w58_26, w58_29, w58_30, w58_31, w58_34, w58_36, w58_39, zk_sI, zk_sJ, zk_sP, zn_sI, zn_sJ, zn_sP, zI_sI, zI_sJ, zI_sP, zJ_sI, zJ_sJ, zJ_sP, zP_sI, zP_sJ, zP_sP, Option.toList_some, Option.toList_none, List.cons_append, List.nil_append]
      exact hfin
    · have z := Decidable.not_not.mp z
      rw [if_pos z] at hfin
      rw [(g3 z).1.1 k (by omega)]
      exact hfin
  · refine s92 ?_
    simp only [w58_0, w58_1, w58_4, w58_5, w58_6, w58_9, w58_11, w58_14, w58_15, w58_16, w58_19, w58_22, w58_23, w58_26, w58_29, w58_30, w58_31, w58_34, w58_36, w58_39, zk_sI, zk_sJ, zk_sP, zn_sI, zn_sJ, zn_sP, zI_sI, zI_sJ, zI_sP, zJ_sI, zJ_sJ, zJ_sP, zP_sI, zP_sJ, zP_sP, Option.toList_some, Option.toList_none, List.cons_append, List.nil_append]
    exact hbad (fun g => z2 g.2)
/-- ends -/
theorem s62 {e : Int32} (hK : zKx n nu h w hf wf r am su M) (hbad : ¬ (0 ≤ e ∧ e ≤ nI r) → Q (some (.long (-9223372036854775808 - (-2 : Int32).toInt64))) M) (hQ : ∀ k, e = nI k → k ≤ r → ∀ M1, zG (fun c => 4 ≤ c ∧ c ≤ 25) M M1 → zKx n nu h w hf wf r am su M1 → Q (some (.long (zrnd' (zpm (zca nu h w hf wf 0) am su r) k))) M1) : zC X 62 [.ref 0, .int e] M Q := by
  rw [c62]
  have hP := hK.1
  have hL := hK.2.2.1
  simp only [w62_0, w62_1, w62_4, w62_5, w62_6, w62_9, w62_12, w62_14, w62_17, w62_18, w62_19, w62_22, w62_25, w62_26, w62_29, w62_32, w62_33, w62_34, w62_37, w62_39, w62_42, zk_sI, zk_sJ, zk_sP, zn_sI, zn_sJ, zn_sP, zI_sI, zI_sJ, zI_sP, zJ_sI, zJ_sJ, zJ_sP, zP_sI, zP_sJ, zP_sP, Option.toList_some, Option.toList_none, List.cons_append, List.nil_append, zk_of hP.1, zn_of hP.1, zix, ziN, ne_eq, reduceCtorEq, not_false_eq_true, true_and, and_true, Option.getD_some, Nat.reduceLeDiff, Nat.reduceLT, c_ofNat, zkd0, zp_0_0 hP, zp_0_1 hP, zp_0_2 hP, zp_0_3 hP, zp_0_4 hP, zp_0_5 hP, zp_0_6 hP, zp_0_7 hP, zkd12, zp_12_2 hP, zp_12_3 hP, zp_12_4 hP, hL.2.1]
  refine ⟨fun z => ?_, fun z => ⟨fun z2 => ?_, fun z2 => ?_⟩⟩
  · refine s92 ?_
    simp only [w62_0, w62_1, w62_4, w62_5, w62_6, w62_9, w62_12, w62_14, w62_17, w62_18, w62_19, w62_22, w62_25, w62_26, w62_29, w62_32, w62_33, w62_34, w62_37, w62_39, w62_42, zk_sI, zk_sJ, zk_sP, zn_sI, zn_sJ, zn_sP, zI_sI, zI_sJ, zI_sP, zJ_sI, zJ_sJ, zJ_sP, zP_sI, zP_sJ, zP_sP, Option.toList_some, Option.toList_none, List.cons_append, List.nil_append]
    exact hbad (fun g => Int32.not_lt.mpr g.1 z)
  · obtain ⟨k, k1, rfl⟩ := nI_of2 (M := nI r) (n := r) (nI_toInt (by have := hL.1.2; omega)) z z2
    have hr6 := hL.1.2
    refine s98b hK (fun M1 g1 g2 g3 => ?_)
    have hfin := hQ k rfl k1 M1 g1 g2
    have hP1 := g2.1
    unfold zrnd' at hfin
    generalize zpm (zca nu h w hf wf 0) am su r = p at *
    simp only [w62_0, w62_1, w62_4, w62_5, w62_6, w62_9, w62_12, w62_14, w62_17, w62_18, w62_19, w62_22, w62_25, w62_26, w62_29, w62_32, w62_33, w62_34, w62_37, w62_39, w62_42, zk_sI, zk_sJ, zk_sP, zn_sI, zn_sJ, zn_sP, zI_sI, zI_sJ, zI_sP, zJ_sI, zJ_sJ, zJ_sP, zP_sI, zP_sJ, zP_sP, Option.toList_some, Option.toList_none, List.cons_append, List.nil_append, zk_of hP1.1, zn_of hP1.1, zix, ziN, ne_eq, reduceCtorEq, not_false_eq_true, true_and, and_true, Option.getD_some, Nat.reduceLeDiff, Nat.reduceLT, c_ofNat, zkd0, zp_0_0 hP1, zp_0_1 hP1, zp_0_2 hP1, zp_0_3 hP1, zp_0_4 hP1, zp_0_5 hP1, zp_0_6 hP1, zp_0_7 hP1, zkd12, zp_12_2 hP1, zp_12_3 hP1, zp_12_4 hP1, zkd14, znd14, zfx14, zB_0, n_cl (show k < 2 ^ 31 by omega), n_in (show k < 7 by omega) (show 7 < 2 ^ 31 by decide)]
    refine ⟨fun z => s92 ?_, fun z => ?_⟩
    · rw [if_neg z] at hfin
      simp only [w62_0, w62_1, w62_4, w62_5, w62_6, w62_9, w62_12, w62_14, w62_17, w62_18, w62_19, w62_22, w62_25, w62_26, w62_29, w62_32, w62_33, w62_34, w62_37, w62_39, w62_42, zk_sI, zk_sJ, zk_sP, zn_sI, zn_sJ, zn_sP, zI_sI, zI_sJ, zI_sP, zJ_sI, zJ_sJ, zJ_sP, zP_sI, zP_sJ, zP_sP, Option.toList_some, Option.toList_none, List.cons_append, List.nil_append]
      exact hfin
    · have z := Decidable.not_not.mp z
      rw [if_pos z] at hfin
      rw [(g3 z).1.2.1 k (by omega)]
      exact hfin
  · refine s92 ?_
    simp only [w62_0, w62_1, w62_4, w62_5, w62_6, w62_9, w62_12, w62_14, w62_17, w62_18, w62_19, w62_22, w62_25, w62_26, w62_29, w62_32, w62_33, w62_34, w62_37, w62_39, w62_42, zk_sI, zk_sJ, zk_sP, zn_sI, zn_sJ, zn_sP, zI_sI, zI_sJ, zI_sP, zJ_sI, zJ_sJ, zJ_sP, zP_sI, zP_sJ, zP_sP, Option.toList_some, Option.toList_none, List.cons_append, List.nil_append]
    exact hbad (fun g => z2 g.2)
end ZAs

