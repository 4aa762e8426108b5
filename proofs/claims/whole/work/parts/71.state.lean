/-! ===== the model: a state ===== -/
/-- a state in the model's memory -/
def zSM (M : zf_M) (N : Nat) : Prop := ∀ k, k < 6 → zf_I M 64 k = nI (dg N k % 32) ∧ zf_I M 65 k = zB (32 ≤ dg N k)
theorem zSM_F {S : Nat → Prop} {M M1 : zf_M} {N : Nat} (h : zSM M N) (hF : zF S M M1) (h1 : ¬ S 64) (h2 : ¬ S 65) : zSM M1 N := fun k hk => by
  rw [(hF.2.1 64 h1 k).1, (hF.2.1 65 h2 k).1]
  exact h k hk
/-- who won, as the model says it -/
def zwm (N : Nat) : Int32 := if zwin N = -1 then 2 else zwin N
section ZMs
variable {X : zf_X} {M : zf_M} {Q : Option Value → zf_M → Prop} {N k : Nat}
/-- winner -/
theorem s117 (hP : zPk M) (hS : zSM M N) (h : Q (some (.int (zwm N))) M) : zC X 117 [.ref 58] M Q := by
  rw [c117]
  have e0 := (hS 0 (by decide)).2
  have e1 := (hS 1 (by decide)).2
  have e2 := (hS 2 (by decide)).2
  have e3 := (hS 3 (by decide)).2
  have e4 := (hS 4 (by decide)).2
  have e5 := (hS 5 (by decide)).2
  have c0 : Int32.toNatClampNeg 0 = 0 := rfl
  have c1 : Int32.toNatClampNeg 1 = 1 := rfl
  have c2 : Int32.toNatClampNeg 2 = 2 := rfl
  have c3 : Int32.toNatClampNeg 3 = 3 := rfl
  have c4 : Int32.toNatClampNeg 4 = 4 := rfl
  have c5 : Int32.toNatClampNeg 5 = 5 := rfl
  have v : ∀ j, j < 6 → vp_in (nI j) 6 = True := fun j hj => n_in hj (by decide)
  have v0 : vp_in 0 6 = True := v 0 (by decide)
  have v1 : vp_in 1 6 = True := v 1 (by decide)
  have v2 : vp_in 2 6 = True := v 2 (by decide)
  have v3 : vp_in 3 6 = True := v 3 (by decide)
  have v4 : vp_in 4 6 = True := v 4 (by decide)
  have v5 : vp_in 5 6 = True := v 5 (by decide)
  simp only [w117_0, w117_1, w117_4, w117_5, w117_6, w117_9, w117_10, w117_13, w117_14, w117_15, w117_18, w117_19, w117_22, w117_23, w117_24, w117_27, w117_28, w117_29, w117_30, w117_33, w117_34, w117_35, w117_38, w117_39, w117_42, w117_43, w117_44, w117_47, w117_48, w117_51, w117_52, w117_53, w117_56, w117_57, w117_60, w117_61, zk_sI, zk_sJ, zk_sP, zn_sI, zn_sJ, zn_sP, zI_sI, zI_sJ, zI_sP, zJ_sI, zJ_sJ, zJ_sP, zP_sI, zP_sJ, zP_sP, Option.toList_some, Option.toList_none, List.cons_append, List.nil_append, zk_of hP.1, zn_of hP.1, zix, ziN, ne_eq, reduceCtorEq, not_false_eq_true, true_and, and_true, Option.getD_some, Nat.reduceLeDiff, Nat.reduceLT, c_ofNat, zkd58, zp_58_1 hP, zp_58_2 hP, zp_58_6 hP, zp_58_7 hP, zp_58_10 hP, zp_58_11 hP, zp_58_12 hP, zp_58_14 hP, zp_58_15 hP, zp_58_17 hP, zp_58_18 hP, zp_58_19 hP, zp_58_20 hP, zp_58_21 hP, zp_58_22 hP, zp_58_24 hP, zp_58_26 hP, zp_58_29 hP, zp_58_32 hP, zp_58_33 hP, zp_58_34 hP, zp_58_35 hP, zp_58_36 hP, zp_58_37 hP, zp_58_38 hP, zp_58_39 hP, zkd59, znd59, zfx59, zkd60, znd60, zfx60, zkd61, znd61, zfx61, zkd62, znd62, zfx62, zkd63, znd63, zfx63, zkd64, znd64, zfx64, zkd65, znd65, zfx65, c0, c1, c2, c3, c4, c5, e0, e1, e2, e3, e4, e5, v0, v1, v2, v3, v4, v5, zB_0, Decidable.not_not]
  have A1 : (32 ≤ dg N 0 ∨ 32 ≤ dg N 1 ∨ 32 ≤ dg N 2) → (32 ≤ dg N 3 ∨ 32 ≤ dg N 4 ∨ 32 ≤ dg N 5) → Q (some (.int 2)) M := by
    intro h1 h2
    have e : zwin N = -1 := by rw [zwin, if_pos h1, if_pos h2]
    rw [zwm, if_pos e] at h
    exact h
  have A2 : (32 ≤ dg N 0 ∨ 32 ≤ dg N 1 ∨ 32 ≤ dg N 2) → ¬ (32 ≤ dg N 3 ∨ 32 ≤ dg N 4 ∨ 32 ≤ dg N 5) → Q (some (.int 0)) M := by
    intro h1 h2
    have e : zwin N = 0 := by rw [zwin, if_pos h1, if_neg h2]
    rw [zwm, e] at h
    exact h
  have A3 : ¬ (32 ≤ dg N 0 ∨ 32 ≤ dg N 1 ∨ 32 ≤ dg N 2) → Q (some (.int 1)) M := by
    intro h1
    have e : zwin N = 1 := by rw [zwin, if_neg h1]
    rw [zwm, e] at h
    exact h
  have B : (32 ≤ dg N 0 ∨ 32 ≤ dg N 1 ∨ 32 ≤ dg N 2) → (32 ≤ dg N 3 → Q (some (.int 2)) M) ∧ (¬ 32 ≤ dg N 3 → (32 ≤ dg N 4 → Q (some (.int 2)) M) ∧ (¬ 32 ≤ dg N 4 → (32 ≤ dg N 5 → Q (some (.int 2)) M) ∧ (¬ 32 ≤ dg N 5 → Q (some (.int 0)) M))) := fun g =>
    ⟨fun z => A1 g (Or.inl z), fun z1 => ⟨fun z => A1 g (Or.inr (Or.inl z)), fun z2 => ⟨fun z => A1 g (Or.inr (Or.inr z)), fun z3 => A2 g (by omega)⟩⟩⟩
  exact ⟨fun z => B (Or.inl z), fun z1 => ⟨fun z => B (Or.inr (Or.inl z)), fun z2 => ⟨fun z => B (Or.inr (Or.inr z)), fun z3 => A3 (by omega)⟩⟩⟩
/-- hurts -/
theorem s118 {f : Nat} (hP : zPk M) (hS : zSM M N) (hk : k < 6) (hf : f < 64) (hu : 32 ≤ dg N k) (h : ∀ M1, zF (fun b => b = 64 ∨ b = 65) M M1 → zSM M1 (sd N k (zstr (dg N k) f)) → Q none M1) : zC X 118 [.ref 58, .int (nI k), .int (nI f)] M Q := by
  rw [c118]
  have hd := dg_lt N k
  obtain ⟨e1, e2⟩ := hS k hk
  simp only [w118_0, w118_1, w118_4, w118_5, w118_6, w118_9, w118_10, w118_11, w118_12, w118_15, w118_16, w118_19, w118_20, w118_21, w118_22, w118_23, w118_26, w118_27, w118_28, w118_29, w118_32, w118_33, w118_34, w118_37, w118_38, w118_39, w118_42, w118_43, w118_46, w118_47, w118_48, zk_sI, zk_sJ, zk_sP, zn_sI, zn_sJ, zn_sP, zI_sI, zI_sJ, zI_sP, zJ_sI, zJ_sJ, zJ_sP, zP_sI, zP_sJ, zP_sP, Option.toList_some, Option.toList_none, List.cons_append, List.nil_append, zk_of hP.1, zn_of hP.1, zix, ziN, ne_eq, reduceCtorEq, not_false_eq_true, true_and, and_true, Option.getD_some, Nat.reduceLeDiff, Nat.reduceLT, c_ofNat, zkd58, zp_58_1 hP, zp_58_2 hP, zp_58_6 hP, zp_58_7 hP, zp_58_10 hP, zp_58_11 hP, zp_58_12 hP, zp_58_14 hP, zp_58_15 hP, zp_58_17 hP, zp_58_18 hP, zp_58_19 hP, zp_58_20 hP, zp_58_21 hP, zp_58_22 hP, zp_58_24 hP, zp_58_26 hP, zp_58_29 hP, zp_58_32 hP, zp_58_33 hP, zp_58_34 hP, zp_58_35 hP, zp_58_36 hP, zp_58_37 hP, zp_58_38 hP, zp_58_39 hP, zkd59, znd59, zfx59, zkd60, znd60, zfx60, zkd61, znd61, zfx61, zkd62, znd62, zfx62, zkd63, znd63, zfx63, zkd64, znd64, zfx64, zkd65, znd65, zfx65, n_cl (show k < 2 ^ 31 by omega), n_in hk (show 6 < 2 ^ 31 by decide), e1, e2]
  have fin : ∀ D, D = zstr (dg N k) f → ∀ v u : Int32, v = nI (D % 32) → u = zB (32 ≤ D) → Q none (zf_sI (zf_sI M 64 k v) 65 k u) := by
    intro D hD v u hv hu2
    have hD64 : D < 64 := by rw [hD]; exact zstr_lt _ _ hd
    refine h _ (zF_sI (zF_sI (zF_rf _ _) (Or.inl rfl)) (Or.inr rfl)) (fun j hj => ?_)
    simp only [zI_sI, Nat.reduceEqDiff, if_false, if_true]
    rw [← hD]
    by_cases e : j = k
    · rw [if_pos e, if_pos e, e, dg_sd hk hD64]
      exact ⟨hv, hu2⟩
    · rw [if_neg e, if_neg e, dg_sd_ne hk hj hD64 e]
      exact hS j hj
  simp only [if_true]
  rw [n_le (by omega) (by omega)]
  refine ⟨fun g => ⟨fun _ => ⟨rfl, ?_⟩, fun z => absurd (Int32.le_refl _) z⟩, fun g => ?_⟩
  · refine fin 0 ?_ _ _ rfl rfl
    rw [zstr, if_pos g]
  · have es : nI (dg N k % 32) - nI f = nI (dg N k % 32 - f) := pk_sub (by omega)
    rw [es, c_0, n_le (by omega) (by decide)]
    refine ⟨fun z => by omega, fun _ => ⟨rfl, ?_⟩⟩
    refine fin (dg N k - f) ?_ _ _ ?_ ?_
    · rw [zstr, if_neg g]
    · congr 1
      omega
    · rw [zB_t (by omega)]
/-- hasTurn -/
theorem s120 {r : Nat} (hP : zPk M) (hS : zSM M N) (hk : k < 6) (hr : r < 7) (h : Q (some (.int (zB (32 ≤ dg N k ∧ ¬ (nI (r + 1) = 1 ∧ nI (k / 3) = zf_I M 58 8))))) M) : zC X 120 [.ref 58, .int (nI k), .int (nI r)] M Q := by
  rw [c120]
  obtain ⟨e1, e2⟩ := hS k hk
  have e3 : nI k / 3 = nI (k / 3) := pk_div (by omega) (by decide) (by decide)
  simp only [w120_0, w120_1, w120_4, w120_5, w120_6, w120_9, w120_10, w120_13, w120_14, w120_17, w120_18, w120_19, w120_20, w120_23, w120_24, w120_27, w120_28, zk_sI, zk_sJ, zk_sP, zn_sI, zn_sJ, zn_sP, zI_sI, zI_sJ, zI_sP, zJ_sI, zJ_sJ, zJ_sP, zP_sI, zP_sJ, zP_sP, Option.toList_some, Option.toList_none, List.cons_append, List.nil_append, zk_of hP.1, zn_of hP.1, zix, ziN, ne_eq, reduceCtorEq, not_false_eq_true, true_and, and_true, Option.getD_some, Nat.reduceLeDiff, Nat.reduceLT, c_ofNat, zkd58, zp_58_1 hP, zp_58_2 hP, zp_58_6 hP, zp_58_7 hP, zp_58_10 hP, zp_58_11 hP, zp_58_12 hP, zp_58_14 hP, zp_58_15 hP, zp_58_17 hP, zp_58_18 hP, zp_58_19 hP, zp_58_20 hP, zp_58_21 hP, zp_58_22 hP, zp_58_24 hP, zp_58_26 hP, zp_58_29 hP, zp_58_32 hP, zp_58_33 hP, zp_58_34 hP, zp_58_35 hP, zp_58_36 hP, zp_58_37 hP, zp_58_38 hP, zp_58_39 hP, zkd59, znd59, zfx59, zkd60, znd60, zfx60, zkd61, znd61, zfx61, zkd62, znd62, zfx62, zkd63, znd63, zfx63, zkd64, znd64, zfx64, zkd65, znd65, zfx65, n_cl (show k < 2 ^ 31 by omega), n_in hk (show 6 < 2 ^ 31 by decide), e1, e2, e3, zB_0]
  have e4 : (nI r = 0) ↔ (nI (r + 1) = 1) := by
    rw [c_0, c_1, n_eq (by omega) (by decide), n_eq (by omega) (by decide)]
    omega
  refine ⟨fun z => zB_2 (fun g => z g.1) h, fun z => ⟨fun z2 => zB_1 ⟨Decidable.not_not.mp z, fun g => z2 (e4.mpr g.1)⟩ h, fun z2 => ⟨by decide, fun z3 => zB_2 (fun g => g.2 ⟨e4.mp (Decidable.not_not.mp z2), z3.symm⟩) h, fun z3 => zB_1 ⟨Decidable.not_not.mp z, fun g => z3 g.2.symm⟩ h⟩⟩⟩
/-- target -/
theorem s119 {d : Nat} {y : Bool} {b : Int32} (hP : zPk M) (hS : zSM M N) (hd : d < 2) (hy : b ≠ 0 ↔ y = true) (h : Q (some (.int (zch y N (3 * d) 3).1)) M) : zC X 119 [.ref 58, .int (nI (3 * d)), .int b] M Q := by
  rw [c119]
  simp only [w119_0, w119_1, w119_2, w119_3, w119_7, w119_8, w119_9, w119_10, w119_13, w119_14, w119_17, w119_19, w119_20, w119_23, w119_24, w119_25, w119_28, w119_29, w119_32, w119_33, w119_36, w119_38, w119_39, w119_40, w119_43, w119_44, w119_45, w119_48, w119_50, w119_51, w119_54, w119_57, w119_58, zk_sI, zk_sJ, zk_sP, zn_sI, zn_sJ, zn_sP, zI_sI, zI_sJ, zI_sP, zJ_sI, zJ_sJ, zJ_sP, zP_sI, zP_sJ, zP_sP, Option.toList_some, Option.toList_none, List.cons_append, List.nil_append, zk_of hP.1, zn_of hP.1, zix, ziN, ne_eq, reduceCtorEq, not_false_eq_true, true_and, and_true, Option.getD_some, Nat.reduceLeDiff, Nat.reduceLT, c_ofNat, zkd58, zp_58_1 hP, zp_58_2 hP, zp_58_6 hP, zp_58_7 hP, zp_58_10 hP, zp_58_11 hP, zp_58_12 hP, zp_58_14 hP, zp_58_15 hP, zp_58_17 hP, zp_58_18 hP, zp_58_19 hP, zp_58_20 hP, zp_58_21 hP, zp_58_22 hP, zp_58_24 hP, zp_58_26 hP, zp_58_29 hP, zp_58_32 hP, zp_58_33 hP, zp_58_34 hP, zp_58_35 hP, zp_58_36 hP, zp_58_37 hP, zp_58_38 hP, zp_58_39 hP, zkd59, znd59, zfx59, zkd60, znd60, zfx60, zkd61, znd61, zfx61, zkd62, znd62, zfx62, zkd63, znd63, zfx63, zkd64, znd64, zfx64, zkd65, znd65, zfx65]
  have hpart : ∀ n, (zch y N (3 * d) n).1 = -1 ∨ ∃ i, i < n ∧ (zch y N (3 * d) n).1 = nI (3 * d + i) ∧ (zch y N (3 * d) n).2 = nI (dg N (3 * d + i)) ∧ 32 ≤ dg N (3 * d + i) := by
    intro n
    induction n with
    | zero => exact Or.inl rfl
    | succ n ih =>
      rw [zch]
      split
      next g => exact Or.inr ⟨n, by omega, rfl, rfl, g.1⟩
      next =>
        rcases ih with g | ⟨i, g1, g2, g3, g4⟩
        · exact Or.inl g
        · exact Or.inr ⟨i, by omega, g2, g3, g4⟩
  have loop : ∀ (m n : Nat), n + m = 3 → zW X 119 5 [.val (.ref 58), .val (.int (nI (3 * d))), .val (.int b), .val (.int (zch y N (3 * d) n).1), .val (.int (nI (3 * d + n)))] [] M Q := by
    intro m
    induction m with
    | zero =>
      intro n hn
      obtain rfl : n = 3 := by omega
      rw [w119_5]
      simp only [w119_0, w119_1, w119_2, w119_3, w119_7, w119_8, w119_9, w119_10, w119_13, w119_14, w119_17, w119_19, w119_20, w119_23, w119_24, w119_25, w119_28, w119_29, w119_32, w119_33, w119_36, w119_38, w119_39, w119_40, w119_43, w119_44, w119_45, w119_48, w119_50, w119_51, w119_54, w119_57, w119_58, zk_sI, zk_sJ, zk_sP, zn_sI, zn_sJ, zn_sP, zI_sI, zI_sJ, zI_sP, zJ_sI, zJ_sJ, zJ_sP, zP_sI, zP_sJ, zP_sP, Option.toList_some, Option.toList_none, List.cons_append, List.nil_append, zk_of hP.1, zn_of hP.1, zix, ziN, ne_eq, reduceCtorEq, not_false_eq_true, true_and, and_true, Option.getD_some, Nat.reduceLeDiff, Nat.reduceLT, c_ofNat, zkd58, zp_58_1 hP, zp_58_2 hP, zp_58_6 hP, zp_58_7 hP, zp_58_10 hP, zp_58_11 hP, zp_58_12 hP, zp_58_14 hP, zp_58_15 hP, zp_58_17 hP, zp_58_18 hP, zp_58_19 hP, zp_58_20 hP, zp_58_21 hP, zp_58_22 hP, zp_58_24 hP, zp_58_26 hP, zp_58_29 hP, zp_58_32 hP, zp_58_33 hP, zp_58_34 hP, zp_58_35 hP, zp_58_36 hP, zp_58_37 hP, zp_58_38 hP, zp_58_39 hP, zkd59, znd59, zfx59, zkd60, znd60, zfx60, zkd61, znd61, zfx61, zkd62, znd62, zfx62, zkd63, znd63, zfx63, zkd64, znd64, zfx64, zkd65, znd65, zfx65, n_a3]
      exact ⟨fun _ => h, fun z => absurd (Int32.le_refl _) z⟩
    | succ m ih =>
      intro n hn
      obtain ⟨e1, e2⟩ := hS (3 * d + n) (by omega)
      have step : ∀ v, v = (zch y N (3 * d) (n + 1)).1 → zW X 119 5 [.val (.ref 58), .val (.int (nI (3 * d))), .val (.int b), .val (.int v), .val (.int (nI (3 * d + n) + 1))] [] M Q := by
        intro v hv
        rw [hv, n_a1]
        exact ih (n + 1) (by omega)
      have e0 : (zch y N (3 * d) (n + 1)) = if 32 ≤ dg N (3 * d + n) ∧ ((zch y N (3 * d) n).1 = -1 ∨ (y = true ∧ nI (dg N (3 * d + n)) < (zch y N (3 * d) n).2)) then (nI (3 * d + n), nI (dg N (3 * d + n))) else zch y N (3 * d) n := rfl
      rw [e0] at step
      rw [w119_5]
      rcases hpart n with g | ⟨i, g1, g2, g3, g4⟩
      · rw [g] at step ⊢
        simp only [w119_0, w119_1, w119_2, w119_3, w119_7, w119_8, w119_9, w119_10, w119_13, w119_14, w119_17, w119_19, w119_20, w119_23, w119_24, w119_25, w119_28, w119_29, w119_32, w119_33, w119_36, w119_38, w119_39, w119_40, w119_43, w119_44, w119_45, w119_48, w119_50, w119_51, w119_54, w119_57, w119_58, zk_sI, zk_sJ, zk_sP, zn_sI, zn_sJ, zn_sP, zI_sI, zI_sJ, zI_sP, zJ_sI, zJ_sJ, zJ_sP, zP_sI, zP_sJ, zP_sP, Option.toList_some, Option.toList_none, List.cons_append, List.nil_append, zk_of hP.1, zn_of hP.1, zix, ziN, ne_eq, reduceCtorEq, not_false_eq_true, true_and, and_true, Option.getD_some, Nat.reduceLeDiff, Nat.reduceLT, c_ofNat, zkd58, zp_58_1 hP, zp_58_2 hP, zp_58_6 hP, zp_58_7 hP, zp_58_10 hP, zp_58_11 hP, zp_58_12 hP, zp_58_14 hP, zp_58_15 hP, zp_58_17 hP, zp_58_18 hP, zp_58_19 hP, zp_58_20 hP, zp_58_21 hP, zp_58_22 hP, zp_58_24 hP, zp_58_26 hP, zp_58_29 hP, zp_58_32 hP, zp_58_33 hP, zp_58_34 hP, zp_58_35 hP, zp_58_36 hP, zp_58_37 hP, zp_58_38 hP, zp_58_39 hP, zkd59, znd59, zfx59, zkd60, znd60, zfx60, zkd61, znd61, zfx61, zkd62, znd62, zfx62, zkd63, znd63, zfx63, zkd64, znd64, zfx64, zkd65, znd65, zfx65, n_a3, e1, e2, zB_0, n_cl (show 3 * d + n < 2 ^ 31 by omega), n_in (show 3 * d + n < 6 by omega) (show 6 < 2 ^ 31 by decide)]
        rw [n_le (by omega) (by omega)]
        refine ⟨fun z => by omega, fun _ => ⟨fun z => step _ ?_, fun z => ⟨fun _ => step _ ?_, fun z2 => absurd trivial z2⟩⟩⟩
        · rw [if_neg (fun x => z x.1), g]
        · rw [if_pos ⟨Decidable.not_not.mp z, Or.inl rfl⟩]
      · obtain ⟨e3, e4⟩ := hS (3 * d + i) (by omega)
        rw [g2, g3] at step
        rw [g2]
        simp only [w119_0, w119_1, w119_2, w119_3, w119_7, w119_8, w119_9, w119_10, w119_13, w119_14, w119_17, w119_19, w119_20, w119_23, w119_24, w119_25, w119_28, w119_29, w119_32, w119_33, w119_36, w119_38, w119_39, w119_40, w119_43, w119_44, w119_45, w119_48, w119_50, w119_51, w119_54, w119_57, w119_58, zk_sI, zk_sJ, zk_sP, zn_sI, zn_sJ, zn_sP, zI_sI, zI_sJ, zI_sP, zJ_sI, zJ_sJ, zJ_sP, zP_sI, zP_sJ, zP_sP, Option.toList_some, Option.toList_none, List.cons_append, List.nil_append, zk_of hP.1, zn_of hP.1, zix, ziN, ne_eq, reduceCtorEq, not_false_eq_true, true_and, and_true, Option.getD_some, Nat.reduceLeDiff, Nat.reduceLT, c_ofNat, zkd58, zp_58_1 hP, zp_58_2 hP, zp_58_6 hP, zp_58_7 hP, zp_58_10 hP, zp_58_11 hP, zp_58_12 hP, zp_58_14 hP, zp_58_15 hP, zp_58_17 hP, zp_58_18 hP, zp_58_19 hP, zp_58_20 hP, zp_58_21 hP, zp_58_22 hP, zp_58_24 hP, zp_58_26 hP, zp_58_29 hP, zp_58_32 hP, zp_58_33 hP, zp_58_34 hP, zp_58_35 hP, zp_58_36 hP, zp_58_37 hP, zp_58_38 hP, zp_58_39 hP, zkd59, znd59, zfx59, zkd60, znd60, zfx60, zkd61, znd61, zfx61, zkd62, znd62, zfx62, zkd63, znd63, zfx63, zkd64, znd64, zfx64, zkd65, znd65, zfx65, n_a3, e1, e2, e3, zB_0, n_cl (show 3 * d + n < 2 ^ 31 by omega), n_in (show 3 * d + n < 6 by omega) (show 6 < 2 ^ 31 by decide), n_cl (show 3 * d + i < 2 ^ 31 by omega), n_in (show 3 * d + i < 6 by omega) (show 6 < 2 ^ 31 by decide)]
        rw [n_le (by omega) (by omega)]
        have hdn := dg_lt N (3 * d + n)
        have hdi := dg_lt N (3 * d + i)
        have hne : ¬ nI (3 * d + i) = -1 := by
          rw [n_ne (by omega)]
          exact fun z => z
        refine ⟨fun z => by omega, fun _ => ⟨fun z => step _ ?_, fun z => ⟨fun z2 => absurd z2 hne, fun _ => ⟨fun z3 => step _ ?_, fun z3 => ⟨fun z4 => step _ ?_, fun z4 => step _ ?_⟩⟩⟩⟩⟩
        · rw [if_neg (fun x => z x.1), g2]
        · rw [if_neg, g2]
          rintro ⟨-, x | ⟨x, -⟩⟩
          · exact hne x
          · exact absurd z3 (hy.mpr x)
        · have z := Decidable.not_not.mp z
          rw [n_le (by omega) (by omega)] at z4
          rw [if_neg, g2]
          rintro ⟨-, x | ⟨-, x⟩⟩
          · exact hne x
          · rw [n_lt (by omega) (by omega)] at x
            omega
        · have z := Decidable.not_not.mp z
          rw [n_le (by omega) (by omega)] at z4
          have hlt : nI (dg N (3 * d + n)) < nI (dg N (3 * d + i)) := by
            rw [n_lt (by omega) (by omega)]
            omega
          rw [if_pos ⟨z, Or.inr ⟨hy.mp z3, hlt⟩⟩]
  exact loop 3 0 rfl
end ZMs
