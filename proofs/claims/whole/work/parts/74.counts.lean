/-! ===== the model: states as numbers, and what is counted ===== -/
theorem zpk_dg (N : Nat) {k : Nat} (hk : k < 6) : zpk N 6 / 64 ^ (5 - k) % 64 = zdm (dg N k) := by
  have h0 := zdm_lt (dg N 0)
  have h1 := zdm_lt (dg N 1)
  have h2 := zdm_lt (dg N 2)
  have h3 := zdm_lt (dg N 3)
  have h4 := zdm_lt (dg N 4)
  have h5 := zdm_lt (dg N 5)
  have e : zpk N 6 = 64 * (64 * (64 * (64 * (64 * (64 * 0 + zdm (dg N 0)) + zdm (dg N 1)) + zdm (dg N 2)) + zdm (dg N 3)) + zdm (dg N 4)) + zdm (dg N 5) := rfl
  rw [e]
  rcases k6 hk with rfl | rfl | rfl | rfl | rfl | rfl
  all_goals simp only [Nat.reduceSub, Nat.reducePow]
  all_goals omega
theorem zdm_inj {a b : Nat} (ha : a < 64) (hb : b < 64) (h : zdm a = zdm b) : a = b := by
  unfold zdm at h
  split at h <;> split at h <;> omega
theorem zpk_inj {N N2 : Nat} (h1 : N < 64 ^ 6) (h2 : N2 < 64 ^ 6) (h : zpk N 6 = zpk N2 6) : N = N2 := by
  refine dg_ext h1 h2 (fun k hk => zdm_inj (dg_lt _ _) (dg_lt _ _) ?_)
  rw [← zpk_dg N hk, ← zpk_dg N2 hk, h]
section ZMc
variable {X : zf_X} {M : zf_M} {Q : Option Value → zf_M → Prop} {N : Nat}
/-- unpack, of a packed state -/
theorem s124b (hP : zPk M) (h : ∀ M1, zF (fun b => b = 64 ∨ b = 65) M M1 → zSM M1 N → Q none M1) : zC X 124 [.ref 58, .long (lN (zpk N 6))] M Q := by
  refine s124 hP (zpk_lt N 6) (fun M1 g1 g2 => h M1 g1 (fun k hk => ?_))
  obtain ⟨x1, x2⟩ := g2 k hk
  have e := zpk_dg N hk
  have hd := dg_lt N k
  have e2 : zpk N 6 / 64 ^ (5 - k) % 2 = zdm (dg N k) % 2 := by rw [← e]; omega
  rw [x1, x2, e, e2]
  unfold zdm
  by_cases g : 32 ≤ dg N k
  · rw [if_pos g, zB_t g, zB_t (by omega)]
    refine ⟨?_, rfl⟩
    congr 1
    omega
  · rw [if_neg g, zB_f g, zB_f (by omega)]
    refine ⟨?_, rfl⟩
    congr 1
    omega
/-- the model's counters -/
def zAN (M : zf_M) (A : zA) (on : Nat → Prop) : Prop := (∀ i, i < 3 → zf_J M 71 i = lN (A.1 i)) ∧ (∀ i, i < 7 → zf_J M 72 i = lN (A.2.1 i)) ∧ (∀ k l u, k < 6 → on k → l < 21 → u < 2 → zf_J M 73 (42 * k + 2 * l + u) = lN (A.2.2 (64 * k + l + 32 * u)))
/-- counts -/
theorem s125 {od : Nat → Nat} {n e r w : Nat} {A : zA} (hP : zPk M) (hS : zSM M N) (hl : ∀ k, k < 6 → dg N k % 32 ≤ 20) (hA : zAN M A (fun k => ∃ q, q < n ∧ od q = k)) (he : e < 3) (hr : r < 7)
    (h : ∀ M1, zF (fun b => b = 71 ∨ b = 72 ∨ b = 73) M M1 → zAN M1 (ztl od n A N w e r) (fun k => ∃ q, q < n ∧ od q = k) → Q none M1) : zC X 125 [.ref 58, .int (nI e), .int (nI r), .long (lN w)] M Q := by
  rw [c125]
  have loop : ∀ (m k : Nat) (M1 : zf_M), k + m = 6 → zF (fun b => b = 71 ∨ b = 72 ∨ b = 73) M M1 → (∀ i, i < 3 → zf_J M1 71 i = lN ((ztl od n A N w e r).1 i)) → (∀ i, i < 7 → zf_J M1 72 i = lN ((ztl od n A N w e r).2.1 i)) → (∀ j l u, j < 6 → (∃ q, q < n ∧ od q = j) → l < 21 → u < 2 → zf_J M1 73 (42 * j + 2 * l + u) = if j < k then lN ((ztl od n A N w e r).2.2 (64 * j + l + 32 * u)) else lN (A.2.2 (64 * j + l + 32 * u))) → zW X 125 28 [.val (.ref 58), .val (.int (nI e)), .val (.int (nI r)), .val (.long (lN w)), .second, .val (.int (nI k))] [] M1 Q := by
    intro m
    induction m with
    | zero =>
      intro k M1 hk hF h1 h2 h3
      obtain rfl : k = 6 := by omega
      rw [w125_28]
      simp only [w125_0, w125_1, w125_4, w125_5, w125_6, w125_7, w125_8, w125_9, w125_10, w125_11, w125_12, w125_15, w125_16, w125_19, w125_20, w125_21, w125_22, w125_23, w125_24, w125_25, w125_26, w125_30, w125_32, w125_35, w125_36, w125_39, w125_41, w125_43, w125_44, w125_45, w125_46, w125_49, w125_51, w125_52, w125_53, w125_54, w125_55, w125_58, w125_60, w125_61, w125_64, w125_65, w125_68, w125_69, w125_70, w125_71, w125_72, w125_73, w125_74, w125_75, w125_78, w125_81, zk_sI, zk_sJ, zk_sP, zn_sI, zn_sJ, zn_sP, zI_sI, zI_sJ, zI_sP, zJ_sI, zJ_sJ, zJ_sP, zP_sI, zP_sJ, zP_sP, Option.toList_some, Option.toList_none, List.cons_append, List.nil_append]
      exact ⟨fun _ => h M1 hF ⟨h1, h2, fun j l u hj ho hl hu => by have := h3 j l u hj ho hl hu; rw [if_pos hj] at this; exact this⟩, fun z => absurd (by decide) z⟩
    | succ m ih =>
      intro k M1 hk hF h1 h2 h3
      have hP1 := zPk_F hP hF
      obtain ⟨e1, e2⟩ := zSM_F hS hF (by omega) (by omega) k (by omega)
      have hd := dg_lt N k
      have hlk := hl k (by omega)
      have e42 : (42 : Int32) * nI k = nI (42 * k) := pk_mul 42 k
      have e22 : (2 : Int32) * nI (dg N k % 32) = nI (2 * (dg N k % 32)) := pk_mul 2 _
      have ey : ∀ a b, nI a + nI b = nI (a + b) := fun a b => nI_add a b
      have ey0 : ∀ a, nI a + 0 = nI (a + 0) := fun a => nI_add a 0
      have fin : ∀ u, u < 2 → (32 ≤ dg N k ↔ u = 1) → zW X 125 28 [.val (.ref 58), .val (.int (nI e)), .val (.int (nI r)), .val (.long (lN w)), .second, .val (.int (nI (k + 1)))] [] (zf_sJ M1 73 (42 * k + 2 * (dg N k % 32) + u) (zf_J M1 73 (42 * k + 2 * (dg N k % 32) + u) + lN w)) Q := by
        intro u0 hu0 hud
        refine ih (k + 1) _ (by omega) (zF_sJ hF (by omega)) (fun i hi => ?_) (fun i hi => ?_) (fun j l u hj ho hl3 hu => ?_)
        · rw [zJ_sJ, if_neg (by decide)]
          exact h1 i hi
        · rw [zJ_sJ, if_neg (by decide)]
          exact h2 i hi
        · rw [zJ_sJ, if_pos rfl]
          have hcond : (∃ q, q < n ∧ 64 * j + l + 32 * u = 64 * od q + dg N (od q)) ↔ dg N j = l + 32 * u := by
            constructor
            · rintro ⟨q, q1, q2⟩
              have := dg_lt N (od q)
              have hq : od q = j := by omega
              rw [hq] at q2
              omega
            · intro g
              obtain ⟨q, q1, q2⟩ := ho
              exact ⟨q, q1, by rw [q2, g]; omega⟩
          have ht : (ztl od n A N w e r).2.2 (64 * j + l + 32 * u) = A.2.2 (64 * j + l + 32 * u) + if ∃ q, q < n ∧ 64 * j + l + 32 * u = 64 * od q + dg N (od q) then w else 0 := rfl
          have h4 := h3 j l u hj ho hl3 hu
          by_cases hjk : j = k
          · subst hjk
            rw [if_neg (show ¬ j < j by omega)] at h4
            rw [if_pos (show j < j + 1 by omega)]
            by_cases g : dg N j = l + 32 * u
            · have gi : 42 * j + 2 * l + u = 42 * j + 2 * (dg N j % 32) + u0 := by omega
              rw [if_pos gi, ← gi, h4, lN_add, ht, if_pos (hcond.mpr g)]
            · have gi : ¬ 42 * j + 2 * l + u = 42 * j + 2 * (dg N j % 32) + u0 := by omega
              rw [if_neg gi, h4, ht, if_neg (fun z => g (hcond.mp z))]
              rfl
          · have gi : ¬ 42 * j + 2 * l + u = 42 * k + 2 * (dg N k % 32) + u0 := by omega
            rw [if_neg gi, h4]
            by_cases g : j < k
            · rw [if_pos g, if_pos (show j < k + 1 by omega)]
            · rw [if_neg g, if_neg (show ¬ j < k + 1 by omega)]
      rw [w125_28]
      simp only [w125_0, w125_1, w125_4, w125_5, w125_6, w125_7, w125_8, w125_9, w125_10, w125_11, w125_12, w125_15, w125_16, w125_19, w125_20, w125_21, w125_22, w125_23, w125_24, w125_25, w125_26, w125_30, w125_32, w125_35, w125_36, w125_39, w125_41, w125_43, w125_44, w125_45, w125_46, w125_49, w125_51, w125_52, w125_53, w125_54, w125_55, w125_58, w125_60, w125_61, w125_64, w125_65, w125_68, w125_69, w125_70, w125_71, w125_72, w125_73, w125_74, w125_75, w125_78, w125_81, zk_sI, zk_sJ, zk_sP, zn_sI, zn_sJ, zn_sP, zI_sI, zI_sJ, zI_sP, zJ_sI, zJ_sJ, zJ_sP, zP_sI, zP_sJ, zP_sP, Option.toList_some, Option.toList_none, List.cons_append, List.nil_append, zk_of hP1.1, zn_of hP1.1, zix, ziN, ne_eq, reduceCtorEq, not_false_eq_true, true_and, and_true, Option.getD_some, Nat.reduceLeDiff, Nat.reduceLT, c_ofNat, zkd58, zp_58_1 hP1, zp_58_2 hP1, zp_58_6 hP1, zp_58_7 hP1, zp_58_10 hP1, zp_58_11 hP1, zp_58_12 hP1, zp_58_14 hP1, zp_58_15 hP1, zp_58_17 hP1, zp_58_18 hP1, zp_58_19 hP1, zp_58_20 hP1, zp_58_21 hP1, zp_58_22 hP1, zp_58_24 hP1, zp_58_26 hP1, zp_58_29 hP1, zp_58_32 hP1, zp_58_33 hP1, zp_58_34 hP1, zp_58_35 hP1, zp_58_36 hP1, zp_58_37 hP1, zp_58_38 hP1, zp_58_39 hP1, zkd59, znd59, zfx59, zkd60, znd60, zfx60, zkd61, znd61, zfx61, zkd62, znd62, zfx62, zkd63, znd63, zfx63, zkd64, znd64, zfx64, zkd65, znd65, zfx65, zkd66, znd66, zfx66, zkd67, znd67, zfx67, zkd68, znd68, zfx68, zkd69, znd69, zfx69, zkd70, znd70, zfx70, zkd71, znd71, zfx71, zkd72, znd72, zfx72, zkd73, znd73, zfx73, zkd74, znd74, zfx74, e1, e2, e42, e22, ey, zB_0, n_cl (show k < 2 ^ 31 by omega), n_in (show k < 6 by omega) (show 6 < 2 ^ 31 by decide)]
      have a0 : nI (42 * k + 2 * (dg N k % 32)) + 0 = nI (42 * k + 2 * (dg N k % 32) + 0) := nI_add _ 0
      have a1 : nI (42 * k + 2 * (dg N k % 32)) + 1 = nI (42 * k + 2 * (dg N k % 32) + 1) := nI_add _ 1
      rw [a0, a1, n_a1, c_6, n_le (by decide) (by omega), n_cl (show 42 * k + 2 * (dg N k % 32) + 0 < 2 ^ 31 by omega), n_cl (show 42 * k + 2 * (dg N k % 32) + 1 < 2 ^ 31 by omega)]
      refine ⟨fun z => by omega, fun _ => ⟨fun z => ?_, fun z => ?_⟩⟩
      · have hv : vp_in (nI (42 * k + 2 * (dg N k % 32) + 0)) 252 := vp_in_nI (by omega) (by decide)
        exact ⟨hv, hv, fin 0 (by decide) ⟨fun g => absurd g z, fun g => absurd g (by decide)⟩⟩
      · have hv : vp_in (nI (42 * k + 2 * (dg N k % 32) + 1)) 252 := vp_in_nI (by omega) (by decide)
        exact ⟨hv, hv, fin 1 (by decide) ⟨fun _ => rfl, fun _ => Decidable.not_not.mp z⟩⟩
  simp only [w125_0, w125_1, w125_4, w125_5, w125_6, w125_7, w125_8, w125_9, w125_10, w125_11, w125_12, w125_15, w125_16, w125_19, w125_20, w125_21, w125_22, w125_23, w125_24, w125_25, w125_26, w125_30, w125_32, w125_35, w125_36, w125_39, w125_41, w125_43, w125_44, w125_45, w125_46, w125_49, w125_51, w125_52, w125_53, w125_54, w125_55, w125_58, w125_60, w125_61, w125_64, w125_65, w125_68, w125_69, w125_70, w125_71, w125_72, w125_73, w125_74, w125_75, w125_78, w125_81, zk_sI, zk_sJ, zk_sP, zn_sI, zn_sJ, zn_sP, zI_sI, zI_sJ, zI_sP, zJ_sI, zJ_sJ, zJ_sP, zP_sI, zP_sJ, zP_sP, Option.toList_some, Option.toList_none, List.cons_append, List.nil_append, zk_of hP.1, zn_of hP.1, zix, ziN, ne_eq, reduceCtorEq, not_false_eq_true, true_and, and_true, Option.getD_some, Nat.reduceLeDiff, Nat.reduceLT, c_ofNat, zkd58, zp_58_1 hP, zp_58_2 hP, zp_58_6 hP, zp_58_7 hP, zp_58_10 hP, zp_58_11 hP, zp_58_12 hP, zp_58_14 hP, zp_58_15 hP, zp_58_17 hP, zp_58_18 hP, zp_58_19 hP, zp_58_20 hP, zp_58_21 hP, zp_58_22 hP, zp_58_24 hP, zp_58_26 hP, zp_58_29 hP, zp_58_32 hP, zp_58_33 hP, zp_58_34 hP, zp_58_35 hP, zp_58_36 hP, zp_58_37 hP, zp_58_38 hP, zp_58_39 hP, zkd59, znd59, zfx59, zkd60, znd60, zfx60, zkd61, znd61, zfx61, zkd62, znd62, zfx62, zkd63, znd63, zfx63, zkd64, znd64, zfx64, zkd65, znd65, zfx65, zkd66, znd66, zfx66, zkd67, znd67, zfx67, zkd68, znd68, zfx68, zkd69, znd69, zfx69, zkd70, znd70, zfx70, zkd71, znd71, zfx71, zkd72, znd72, zfx72, zkd73, znd73, zfx73, zkd74, znd74, zfx74, n_cl (show e < 2 ^ 31 by omega), n_in he (show 3 < 2 ^ 31 by decide), n_cl (show r < 2 ^ 31 by omega), n_in hr (show 7 < 2 ^ 31 by decide), hA.1 e he, lN_add]
  have h3 : ∀ (M1 : zf_M), (∀ j, zf_J M1 73 j = zf_J M 73 j) → ∀ j l u, j < 6 → (∃ q, q < n ∧ od q = j) → l < 21 → u < 2 → zf_J M1 73 (42 * j + 2 * l + u) = if j < 0 then lN ((ztl od n A N w e r).2.2 (64 * j + l + 32 * u)) else lN (A.2.2 (64 * j + l + 32 * u)) := by
    intro M1 g j l u hj ho hl3 hu
    rw [if_neg (Nat.not_lt_zero j), g]
    exact hA.2.2 j l u hj ho hl3 hu
  rw [c_2, n_le (by decide) (by omega)]
  refine ⟨fun h2 => loop 6 0 _ (by omega) (zF_sJ (zF_rf _ _) (by omega)) (fun j hj => ?_) (fun j hj => ?_) (h3 _ (fun j => ?_)), fun h2 => loop 6 0 _ (by omega) (zF_sJ (zF_sJ (zF_rf _ _) (by omega)) (by omega)) (fun j hj => ?_) (fun j hj => ?_) (h3 _ (fun j => ?_))⟩
  · rw [zJ_sJ, if_pos rfl]
    show _ = lN (A.1 j + _)
    by_cases hje : j = e
    · rw [if_pos hje, if_pos hje, hje]
    · rw [if_neg hje, if_neg hje]
      exact hA.1 j hj
  · rw [zJ_sJ, if_neg (by decide)]
    show _ = lN (A.2.1 j + _)
    rw [if_neg (fun z => z.1 (by omega))]
    exact hA.2.1 j hj
  · rw [zJ_sJ, if_neg (by decide)]
  · rw [zJ_sJ, if_neg (by decide), zJ_sJ, if_pos rfl]
    show _ = lN (A.1 j + _)
    by_cases hje : j = e
    · rw [if_pos hje, if_pos hje, hje]
    · rw [if_neg hje, if_neg hje]
      exact hA.1 j hj
  · rw [zJ_sJ, if_pos rfl]
    show _ = lN (A.2.1 j + _)
    by_cases hje : j = r
    · have e14 : (if (72 : Nat) = 71 then (if r = e then lN (A.1 e + w) else zf_J M 72 r) else zf_J M 72 r) = lN (A.2.1 r) := by
        rw [if_neg (by decide)]
        exact hA.2.1 r hr
      have e15 : (if e ≠ 2 ∧ j = r then w else 0) = w := if_pos ⟨by omega, hje⟩
      rw [if_pos hje, e14, e15, lN_add, hje]
    · rw [if_neg hje, if_neg (fun z => hje z.2), zJ_sJ, if_neg (by decide)]
      exact hA.2.1 j hj
  · rw [zJ_sJ, if_neg (by decide), zJ_sJ, if_neg (by decide)]
end ZMc
