/-! ===== FairFight: fights reckoned ===== -/
/-- heroes w (h of them, each with b more), foes wf (hf of them) -/
def zca (nu : Nat → Nat) (h : Nat) (w : Nat → Nat) (hf : Nat) (wf : Nat → Nat) (b : Nat) : zCs := (nu, fun k => if k < 3 then (if k < h then some (w k) else none) else if k < 3 + hf then some (wf (k - 3)) else none, fun k => if k < 3 then b else 0)
theorem zca_n {nu : Nat → Nat} {h : Nat} {w : Nat → Nat} {hf : Nat} {wf : Nat → Nat} {b n : Nat} (h1 : ∀ j, j < h → w j < n) (h2 : ∀ j, j < hf → wf j < n) : ∀ k f, (zca nu h w hf wf b).2.1 k = some f → f < n := by
  intro k f hk
  change (if k < 3 then (if k < h then some (w k) else none) else if k < 3 + hf then some (wf (k - 3)) else none) = some f at hk
  split at hk
  · split at hk
    · cases hk
      exact h1 k (by omega)
    · cases hk
  · split at hk
    · cases hk
      exact h2 _ (by omega)
    · cases hk
theorem zca_h {nu : Nat → Nat} {h : Nat} {w : Nat → Nat} {hf : Nat} {wf : Nat → Nat} {b k : Nat} (hk : k < h) (h3 : h ≤ 3) : (zca nu h w hf wf b).2.1 k = some (w k) ∧ (zca nu h w hf wf b).2.2 k = b := ⟨by show (if k < 3 then _ else _) = _; rw [if_pos (by omega), if_pos hk], if_pos (by omega)⟩
theorem zca_hn {nu : Nat → Nat} {h : Nat} {w : Nat → Nat} {hf : Nat} {wf : Nat → Nat} {b k : Nat} (hk : h ≤ k) (h3 : k < 3) : (zca nu h w hf wf b).2.1 k = none := by
  show (if k < 3 then _ else _) = _
  rw [if_pos h3, if_neg (by omega)]
theorem zca_f {nu : Nat → Nat} {h : Nat} {w : Nat → Nat} {hf : Nat} {wf : Nat → Nat} {b j : Nat} (hj : j < hf) : (zca nu h w hf wf b).2.1 (3 + j) = some (wf j) ∧ (zca nu h w hf wf b).2.2 (3 + j) = 0 := by
  refine ⟨?_, if_neg (by omega)⟩
  show (if 3 + j < 3 then _ else _) = _
  rw [if_neg (by omega), if_pos (by omega), Nat.add_sub_cancel_left]
theorem zca_fn {nu : Nat → Nat} {h : Nat} {w : Nat → Nat} {hf : Nat} {wf : Nat → Nat} {b k : Nat} (hk : 3 + hf ≤ k) : (zca nu h w hf wf b).2.1 k = none := by
  show (if k < 3 then _ else _) = _
  rw [if_neg (by omega), if_neg (by omega)]
/-- a reckoning that is not too wide -/
abbrev zrun (p : zPm) : Prop := pr p * pn p ≤ 22 ∧ (zrk p).1 = true
def zOut (p : zPm) (M : zf_M) : Prop := zAM M (zrk p).2.1 ∧ zf_J M 12 0 = lN (6 ^ (pr p * pn p)) ∧ zf_I M 12 1 = nI (zrk p).2.2
theorem zLO_F {S : Nat → Prop} {M M1 : zf_M} (h : zLO M) (hF : zF S M M1) (hS : ∀ c, 16 ≤ c → c ≤ 25 → ¬ S c) : zLO M1 := by
  obtain ⟨a, b, n, m, hab, h5, h6, h1, h2⟩ := h
  exact ⟨a, b, n, m, hab, by rw [hF.2.2]; exact h5, by rw [hF.2.2]; exact h6, zLI_F h1 hF (fun c x y => hS c (by omega) (by omega)), zLI_F h2 hF (fun c x y => hS c (by omega) (by omega))⟩
theorem zG_mo {S S2 : Nat → Prop} {M M1 : zf_M} (h : zG S M M1) (hs : ∀ b, S b → S2 b) : zG S2 M M1 := ⟨h.1, fun b hb => h.2.1 b (fun z => hb (hs b z)), h.2.2⟩
theorem zca_b {nu : Nat → Nat} {h : Nat} {w : Nat → Nat} {hf : Nat} {wf : Nat → Nat} {b : Nat} (hb : b ≤ 9) : ∀ k, (zca nu h w hf wf b).2.2 k ≤ 9 := by
  intro k
  show (if k < 3 then b else 0) ≤ 9
  split <;> omega
section ZFi
variable {X : zf_X} {M : zf_M} {Q : Option Value → zf_M → Prop} {n : Nat} {p : zPm}
theorem s27b (hP : zPk M) (hp : zPo p) (hFP : zFP p M) (hL : zLO M) (h : ∀ M1, zG (fun c => 12 ≤ c ∧ c ≤ 25) M M1 → zLO M1 → (zrun p → zOut p M1) → Q (some (.int (zB (zrun p)))) M1) : zC X 27 [.ref 12, .ref 4] M Q := by
  refine s27 hP hp hFP hL (fun g => ?_) (fun g1 g2 M1 g3 g4 g5 g6 g7 => ?_) (fun g1 g2 M1 g3 g4 => ?_)
  · have hn : ¬ zrun p := fun z => by have := z.1; omega
    have := h M (zG_F (zF_rf _ _)) hL (fun z => absurd z hn)
    rw [zB_f hn] at this
    exact this
  · have := h M1 g3 g4 (fun _ => ⟨g5, g6, g7⟩)
    rw [zB_t ⟨g1, g2⟩] at this
    exact this
  · have hn : ¬ zrun p := fun z => by have := z.2; rw [g2] at this; exact absurd this (by decide)
    have := h M1 g3 g4 (fun z => absurd z hn)
    rw [zB_f hn] at this
    exact this
/-- the laws in the class's memory -/
def zLw (r : Nat) (am su : Int32) (M : zf_M) : Prop := (1 ≤ r ∧ r ≤ 6) ∧ zf_I M 0 8 = nI r ∧ zf_I M 0 9 = am ∧ zf_I M 0 10 = su
/-- all heroes seated -/
theorem s96a {nu w wf : Nat → Nat} {h hf b : Nat} (hP : zPk M) (hR : zRo n nu M) (hS : zSt (zca nu h w hf wf b) M 0) (hrx : zRx M 46 h w) (h1 : ∀ j, j < h → w j < n) (h2 : ∀ j, j < hf → wf j < n)
    (hQ : ∀ M1, zF (fun c => 4 ≤ c ∧ c ≤ 11) M M1 → zSt (zca nu h w hf wf b) M1 3 → (∀ i, i ≠ 7 → zf_I M1 4 i = zf_I M 4 i) → Q none M1) : zC X 96 [.ref 0, .int (-1), .int (nI b)] M Q := by
  have h3 := hrx.1
  refine s96 (c := zca nu h w hf wf b) (sx := fun i => i) hP hR hS hrx (zca_n h1 h2) rfl (fun i hi => ⟨fun z => ?_, fun _ => ⟨rfl, zca_h hi h3⟩⟩) (fun i => Nat.le_refl _) (fun k hk hk3 => zca_hn hk hk3) hQ
  rw [n_ne (by omega)] at z
  exact absurd z (fun z => z)
/-- seatFight -/
theorem s95 {nu w wf : Nat → Nat} {h hf r : Nat} {am su : Int32} (hP : zPk M) (hR : zRo n nu M) (hL : zLw r am su M) (hrx : zRx M 46 h w) (hry : zRx M 48 hf wf) (h1 : ∀ j, j < h → w j < n) (h2 : ∀ j, j < hf → wf j < n)
    (hQ : ∀ M1, zF (fun c => 4 ≤ c ∧ c ≤ 11) M M1 → zFP (zpm (zca nu h w hf wf 0) am su r) M1 → Q none M1) : zC X 95 [.ref 0] M Q := by
  rw [c95]
  obtain ⟨l0, l1, l2, l3⟩ := hL
  simp only [w95_0, w95_1, w95_4, w95_5, w95_8, w95_9, w95_12, w95_13, w95_16, w95_19, w95_20, w95_21, w95_22, w95_25, w95_26, w95_27, w95_30, w95_31, w95_32, w95_35, zk_sI, zk_sJ, zk_sP, zn_sI, zn_sJ, zn_sP, zI_sI, zI_sJ, zI_sP, zJ_sI, zJ_sJ, zJ_sP, zP_sI, zP_sJ, zP_sP, Option.toList_some, Option.toList_none, List.cons_append, List.nil_append, zk_of hP.1, zn_of hP.1, zix, ziN, ne_eq, reduceCtorEq, not_false_eq_true, true_and, and_true, Option.getD_some, Nat.reduceLeDiff, Nat.reduceLT, c_ofNat, zkd0, zp_0_0 hP, zp_0_1 hP, zp_0_2 hP, zp_0_3 hP, zp_0_4 hP, zp_0_5 hP, zp_0_6 hP, zp_0_7 hP, zkd3, znd3, zfx3, zp_3_0 hP, zp_3_1 hP, zkd4, zp_4_0 hP, zp_4_1 hP, zp_4_2 hP, zp_4_3 hP, zp_4_4 hP, zp_4_5 hP, zp_4_6 hP, l1, l2, l3]
  refine s7 hP ?_
  have hF : zF (fun c => 4 ≤ c ∧ c ≤ 11) M (zf_sI (zf_sI (zf_sI (zf_sI M 4 8 (nI r)) 4 9 am) 4 10 su) 4 7 0) := zF_sI (zF_sI (zF_sI (zF_sI (zF_rf _ _) ⟨by omega, by omega⟩) ⟨by omega, by omega⟩) ⟨by omega, by omega⟩) ⟨by omega, by omega⟩
  have hP1 := zPk_F hP hF
  simp only [w95_0, w95_1, w95_4, w95_5, w95_8, w95_9, w95_12, w95_13, w95_16, w95_19, w95_20, w95_21, w95_22, w95_25, w95_26, w95_27, w95_30, w95_31, w95_32, w95_35, zk_sI, zk_sJ, zk_sP, zn_sI, zn_sJ, zn_sP, zI_sI, zI_sJ, zI_sP, zJ_sI, zJ_sJ, zJ_sP, zP_sI, zP_sJ, zP_sP, Option.toList_some, Option.toList_none, List.cons_append, List.nil_append, zk_of hP.1, zn_of hP.1, zix, ziN, ne_eq, reduceCtorEq, not_false_eq_true, true_and, and_true, Option.getD_some, Nat.reduceLeDiff, Nat.reduceLT, c_ofNat, zkd0, zp_0_0 hP, zp_0_1 hP, zp_0_2 hP, zp_0_3 hP, zp_0_4 hP, zp_0_5 hP, zp_0_6 hP, zp_0_7 hP, zkd3, znd3, zfx3, zp_3_0 hP, zp_3_1 hP, zkd4, zp_4_0 hP, zp_4_1 hP, zp_4_2 hP, zp_4_3 hP, zp_4_4 hP, zp_4_5 hP, zp_4_6 hP]
  refine s96a (b := 0) hP1 (zRo_F hR hF (by omega) (by omega)) (zSt_0 rfl) (zRx_F hrx hF (by omega) (by omega)) h1 h2 (fun M1 g1 g2 g3 => ?_)
  have hF1 := zF_tr hF g1
  have hP2 := zPk_F hP hF1
  simp only [w95_0, w95_1, w95_4, w95_5, w95_8, w95_9, w95_12, w95_13, w95_16, w95_19, w95_20, w95_21, w95_22, w95_25, w95_26, w95_27, w95_30, w95_31, w95_32, w95_35, zk_sI, zk_sJ, zk_sP, zn_sI, zn_sJ, zn_sP, zI_sI, zI_sJ, zI_sP, zJ_sI, zJ_sJ, zJ_sP, zP_sI, zP_sJ, zP_sP, Option.toList_some, Option.toList_none, List.cons_append, List.nil_append, zk_of hP2.1, zn_of hP2.1, zix, ziN, ne_eq, reduceCtorEq, not_false_eq_true, true_and, and_true, Option.getD_some, Nat.reduceLeDiff, Nat.reduceLT, c_ofNat, zkd0, zp_0_0 hP2, zp_0_1 hP2, zp_0_2 hP2, zp_0_3 hP2, zp_0_4 hP2, zp_0_5 hP2, zp_0_6 hP2, zp_0_7 hP2, zkd3, znd3, zfx3, zp_3_0 hP2, zp_3_1 hP2, zkd4, zp_4_0 hP2, zp_4_1 hP2, zp_4_2 hP2, zp_4_3 hP2, zp_4_4 hP2, zp_4_5 hP2, zp_4_6 hP2, in12, true_or, zp31 hP2, zkd48]
  refine s97 (a := 48) hP2 (zRo_F hR hF1 (by omega) (by omega)) g2 (zRw_of hP2 (Or.inr (Or.inl rfl))) (by decide) (zRx_F hry hF1 (by omega) (by omega)) (zca_n h1 h2) (fun j hj => zca_f hj) (fun k hk _ => zca_fn hk) (fun M2 k1 k2 k3 => ?_)
  simp only [w95_0, w95_1, w95_4, w95_5, w95_8, w95_9, w95_12, w95_13, w95_16, w95_19, w95_20, w95_21, w95_22, w95_25, w95_26, w95_27, w95_30, w95_31, w95_32, w95_35, zk_sI, zk_sJ, zk_sP, zn_sI, zn_sJ, zn_sP, zI_sI, zI_sJ, zI_sP, zJ_sI, zJ_sJ, zJ_sP, zP_sI, zP_sJ, zP_sP, Option.toList_some, Option.toList_none, List.cons_append, List.nil_append]
  refine hQ M2 (zF_tr hF1 k1) (zSt_FP k2 ?_ ?_ ?_)
  · rw [k3 8 (by decide), g3 8 (by decide)]
    rfl
  · rw [k3 9 (by decide), g3 9 (by decide)]
    rfl
  · rw [k3 10 (by decide), g3 10 (by decide)]
    rfl
/-- reckonFight -/
theorem s98 {nu w wf : Nat → Nat} {h hf r : Nat} {am su : Int32} (hP : zPk M) (hR : zRo n nu M) (hL : zLw r am su M) (hrx : zRx M 46 h w) (hry : zRx M 48 hf wf) (h1 : ∀ j, j < h → w j < n) (h2 : ∀ j, j < hf → wf j < n) (hO : zLO M)
    (hQ : ∀ M1, zG (fun c => 4 ≤ c ∧ c ≤ 25) M M1 → zLO M1 → (zrun (zpm (zca nu h w hf wf 0) am su r) → zOut (zpm (zca nu h w hf wf 0) am su r) M1) → Q (some (.int (zB (zrun (zpm (zca nu h w hf wf 0) am su r))))) M1) : zC X 98 [.ref 0] M Q := by
  rw [c98]
  simp only [w98_0, w98_1, w98_4, w98_5, w98_8, w98_9, w98_12, w98_15, zk_sI, zk_sJ, zk_sP, zn_sI, zn_sJ, zn_sP, zI_sI, zI_sJ, zI_sP, zJ_sI, zJ_sJ, zJ_sP, zP_sI, zP_sJ, zP_sP, Option.toList_some, Option.toList_none, List.cons_append, List.nil_append, zk_of hP.1, zn_of hP.1, zix, ziN, ne_eq, reduceCtorEq, not_false_eq_true, true_and, and_true, Option.getD_some, Nat.reduceLeDiff, Nat.reduceLT, c_ofNat, zkd0, zp_0_0 hP, zp_0_1 hP, zp_0_2 hP, zp_0_3 hP, zp_0_4 hP, zp_0_5 hP, zp_0_6 hP, zp_0_7 hP, zkd3, znd3, zfx3, zp_3_0 hP, zp_3_1 hP, zkd4, zp_4_0 hP, zp_4_1 hP, zp_4_2 hP, zp_4_3 hP, zp_4_4 hP, zp_4_5 hP, zp_4_6 hP]
  refine s95 hP hR hL hrx hry h1 h2 (fun M1 g1 g2 => ?_)
  have hP1 := zPk_F hP g1
  simp only [w98_0, w98_1, w98_4, w98_5, w98_8, w98_9, w98_12, w98_15, zk_sI, zk_sJ, zk_sP, zn_sI, zn_sJ, zn_sP, zI_sI, zI_sJ, zI_sP, zJ_sI, zJ_sJ, zJ_sP, zP_sI, zP_sJ, zP_sP, Option.toList_some, Option.toList_none, List.cons_append, List.nil_append, zk_of hP1.1, zn_of hP1.1, zix, ziN, ne_eq, reduceCtorEq, not_false_eq_true, true_and, and_true, Option.getD_some, Nat.reduceLeDiff, Nat.reduceLT, c_ofNat, zkd0, zp_0_0 hP1, zp_0_1 hP1, zp_0_2 hP1, zp_0_3 hP1, zp_0_4 hP1, zp_0_5 hP1, zp_0_6 hP1, zp_0_7 hP1, zkd3, znd3, zfx3, zp_3_0 hP1, zp_3_1 hP1, zkd4, zp_4_0 hP1, zp_4_1 hP1, zp_4_2 hP1, zp_4_3 hP1, zp_4_4 hP1, zp_4_5 hP1, zp_4_6 hP1]
  refine ⟨rfl, s27b hP1 (zpm_ok hR.1 (zca_n h1 h2) (zca_b (by decide)) hL.1) g2 (zLO_F hO g1 (fun c x y => by omega)) (fun M2 k1 k2 k3 => ?_)⟩
  simp only [w98_0, w98_1, w98_4, w98_5, w98_8, w98_9, w98_12, w98_15, zk_sI, zk_sJ, zk_sP, zn_sI, zn_sJ, zn_sP, zI_sI, zI_sJ, zI_sP, zJ_sI, zJ_sJ, zJ_sP, zP_sI, zP_sJ, zP_sP, Option.toList_some, Option.toList_none, List.cons_append, List.nil_append]
  exact ⟨zB_nar, hQ M2 (zG_tr (zG_F (zF_mo g1 (fun c hc => by omega))) (zG_mo k1 (fun c hc => by omega))) k2 k3⟩
end ZFi

