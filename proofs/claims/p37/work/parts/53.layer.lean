/-! ===== a layer: its states by a table with open places ===== -/
theorem pigeon : ∀ (n m : Nat) (f : Nat → Nat), (∀ p, p < m → ∃ i, i < n ∧ f i = p) → m ≤ n
  | 0, m, f, h => by
    rcases Nat.eq_zero_or_pos m with h0 | h0
    · omega
    · obtain ⟨i, h1, -⟩ := h 0 h0
      omega
  | n + 1, m, f, h => by
    by_cases hq : f n < m
    · have h2 := pigeon n (m - 1) (fun i => if f n < f i then f i - 1 else f i) (fun p hp => by
        by_cases hpq : p < f n
        · obtain ⟨i, h1, h2⟩ := h p (by omega)
          have hin : i ≠ n := fun e => by subst e; omega
          exact ⟨i, by omega, by rw [if_neg (by omega)]; exact h2⟩
        · obtain ⟨i, h1, h2⟩ := h (p + 1) (by omega)
          have hin : i ≠ n := fun e => by subst e; omega
          exact ⟨i, by omega, by rw [if_pos (by omega)]; omega⟩)
      omega
    · have h2 := pigeon n m f (fun p hp => by
        obtain ⟨i, h1, h2⟩ := h p hp
        have hin : i ≠ n := fun e => by subst e; omega
        exact ⟨i, by omega, h2⟩)
      omega
theorem zfx_lt {X : zf_X} {a : Nat} (h : a < 1000000) : zf_fx X a = none := by
  unfold zf_fx
  rw [if_neg (by omega), if_neg (by omega), if_neg (by omega)]
def zLy (M : zf_M) (a : Nat) : Prop := a < 1000 ∧ zf_k M a = 3 ∧ zf_P M a 0 = some (a + 1) ∧ zf_P M a 1 = some (a + 2) ∧ zf_P M a 3 = some (a + 3) ∧ zf_P M a 4 = some (a + 4) ∧ zf_n M 11 (a + 1) = 400 ∧ zf_n M 11 (a + 2) = 400 ∧ zf_n M 10 (a + 3) = 400 ∧ zf_n M 10 (a + 4) = 1024
theorem zLy_of {M : zf_M} {a : Nat} (hP : zPk M) (ha : a = 16 ∨ a = 21) : zLy M a := by
  rcases ha with rfl | rfl
  · exact ⟨by decide, by rw [zk_of hP.1]; rfl, zp_16_0 hP, zp_16_1 hP, zp_16_3 hP, zp_16_4 hP, by rw [zn_of hP.1]; rfl, by rw [zn_of hP.1]; rfl, by rw [zn_of hP.1]; rfl, by rw [zn_of hP.1]; rfl⟩
  · exact ⟨by decide, by rw [zk_of hP.1]; rfl, zp_21_0 hP, zp_21_1 hP, zp_21_3 hP, zp_21_4 hP, by rw [zn_of hP.1]; rfl, by rw [zn_of hP.1]; rfl, by rw [zn_of hP.1]; rfl, by rw [zn_of hP.1]; rfl⟩
/-- where a state's search begins -/
def zhs (s : Int64) : Nat := (s * (-7046029254386353131)).toBitVec.toNat / 2 ^ 54
theorem zhs_lt (s : Int64) : zhs s < 1024 := by
  have := (s * (-7046029254386353131)).toBitVec.isLt
  unfold zhs
  omega
theorem ush54 (x : Int64) : (x.toUInt64 >>> ((54 : Int32).toInt64.toUInt64 &&& Int64.toUInt64 63)).toInt64.toInt32 = nI (x.toBitVec.toNat / 2 ^ 54) := by
  have h2 : x = lN x.toBitVec.toNat := wb_inj (by rw [wb_tb]; simp)
  have h3 := wb_shr (k := 54) x.toBitVec.isLt (by decide)
  rw [← h2] at h3
  have h4 : (54 : Int32) = nI 54 := rfl
  rw [h4, h3, lN_i]
theorem zhs_e (s : Int64) : ((s * (-7046029254386353131)).toUInt64 >>> ((54 : Int32).toInt64.toUInt64 &&& Int64.toUInt64 63)).toInt64.toInt32 = nI (zhs s) := ush54 _
/-- the layer a holds n states -/
def zLI (M : zf_M) (a n : Nat) : Prop := zf_I M a 2 = nI n ∧ n ≤ 400 ∧ (∀ i j, i < n → j < n → zf_J M (a + 1) i = zf_J M (a + 1) j → i = j) ∧
  (∀ i, i < n → ∃ d, d < 1024 ∧ zf_I M (a + 3) i = nI ((zhs (zf_J M (a + 1) i) + d) % 1024) ∧ zf_I M (a + 4) ((zhs (zf_J M (a + 1) i) + d) % 1024) = nI (i + 1) ∧ ∀ e, e < d → zf_I M (a + 4) ((zhs (zf_J M (a + 1) i) + e) % 1024) ≠ 0) ∧
  (∀ p, p < 1024 → zf_I M (a + 4) p = 0 ∨ ∃ i, i < n ∧ zf_I M (a + 4) p = nI (i + 1) ∧ zf_I M (a + 3) i = nI p)
/-- a state more -/
def zjn (M : zf_M) (a n p : Nat) (s w : Int64) : zf_M := zf_sI (zf_sI (zf_sI (zf_sJ (zf_sJ M (a + 1) n s) (a + 2) n w) (a + 3) n (nI p)) a 2 (nI (n + 1))) (a + 4) p (nI (n + 1))
theorem n_ne0 {n : Nat} (h : n + 1 < 2 ^ 31) : nI (n + 1) ≠ 0 := nI_ne0 (by omega) h
theorem zLI_new {M : zf_M} {a n d : Nat} {s w : Int64} (h : zLI M a n) (hn : n < 400) (hs : ∀ i, i < n → zf_J M (a + 1) i ≠ s) (hd : d < 1024) (h0 : zf_I M (a + 4) ((zhs s + d) % 1024) = 0) (hb : ∀ e, e < d → zf_I M (a + 4) ((zhs s + e) % 1024) ≠ 0) : zLI (zjn M a n ((zhs s + d) % 1024) s w) a (n + 1) := by
  obtain ⟨h1, h2, h3, h4, h5⟩ := h
  have hJ : ∀ i, zf_J (zjn M a n ((zhs s + d) % 1024) s w) (a + 1) i = if i = n then s else zf_J M (a + 1) i := by
    intro i
    unfold zjn
    rw [zJ_sI, zJ_sI, zJ_sI, zJ_sJ, if_neg (by omega), zJ_sJ, if_pos rfl]
  have hS : ∀ i, zf_I (zjn M a n ((zhs s + d) % 1024) s w) (a + 3) i = if i = n then nI ((zhs s + d) % 1024) else zf_I M (a + 3) i := by
    intro i
    unfold zjn
    rw [zI_sI, if_neg (by omega), zI_sI, if_neg (by omega), zI_sI, if_pos rfl]
    rfl
  have hT : ∀ p, zf_I (zjn M a n ((zhs s + d) % 1024) s w) (a + 4) p = if p = (zhs s + d) % 1024 then nI (n + 1) else zf_I M (a + 4) p := by
    intro p
    unfold zjn
    simp only [zI_sI, zI_sJ, if_neg (show ¬ a + 4 = a by omega), if_neg (show ¬ a + 4 = a + 3 by omega), if_true]
  refine ⟨?_, by omega, ?_, ?_, ?_⟩
  · unfold zjn
    rw [zI_sI, if_neg (by omega), zI_sI, if_pos rfl, if_pos rfl]
  · intro i j hi hj e
    rw [hJ, hJ] at e
    by_cases ei : i = n <;> by_cases ej : j = n
    · omega
    · rw [if_pos ei, if_neg ej] at e
      exact absurd e.symm (hs j (by omega))
    · rw [if_neg ei, if_pos ej] at e
      exact absurd e (hs i (by omega))
    · rw [if_neg ei, if_neg ej] at e
      exact h3 i j (by omega) (by omega) e
  · intro i hi
    rw [hJ]
    by_cases ei : i = n
    · rw [if_pos ei]
      refine ⟨d, hd, by rw [hS, if_pos ei], by rw [hT, if_pos rfl, ei], fun e he => ?_⟩
      rw [hT]
      split
      · exact n_ne0 (by omega)
      · exact hb e he
    · rw [if_neg ei]
      obtain ⟨d2, g1, g2, g3, g4⟩ := h4 i (by omega)
      have hne : (zhs (zf_J M (a + 1) i) + d2) % 1024 ≠ (zhs s + d) % 1024 := by
        intro e
        rw [e, h0] at g3
        exact n_ne0 (by omega) g3.symm
      refine ⟨d2, g1, by rw [hS, if_neg ei]; exact g2, by rw [hT, if_neg hne]; exact g3, fun e he => ?_⟩
      rw [hT]
      split
      · exact n_ne0 (by omega)
      · exact g4 e he
  · intro p hp
    rw [hT]
    by_cases ep : p = (zhs s + d) % 1024
    · rw [if_pos ep]
      exact Or.inr ⟨n, by omega, rfl, by rw [hS, if_pos rfl, ep]⟩
    · rw [if_neg ep]
      rcases h5 p hp with g | ⟨i, g1, g2, g3⟩
      · exact Or.inl g
      · exact Or.inr ⟨i, by omega, g2, by rw [hS, if_neg (by omega)]; exact g3⟩
/-- some place is free -/
theorem zLI_free {M : zf_M} {a n : Nat} (h : zLI M a n) (s : Int64) (hf : ∀ e, e < 1024 → zf_I M (a + 4) ((zhs s + e) % 1024) ≠ 0) : False := by
  obtain ⟨h1, h2, h3, h4, h5⟩ := h
  have key := pigeon n 1024 (fun i => (zf_I M (a + 3) i).toNatClampNeg) (fun p hp => by
    have hne : zf_I M (a + 4) p ≠ 0 := by
      have hl := zhs_lt s
      have := hf ((p + 1024 - zhs s) % 1024) (Nat.mod_lt _ (by decide))
      rw [show (zhs s + (p + 1024 - zhs s) % 1024) % 1024 = p by omega] at this
      exact this
    rcases h5 p hp with g | ⟨i, g1, g2, g3⟩
    · exact absurd g hne
    · exact ⟨i, g1, by show (zf_I M (a + 3) i).toNatClampNeg = p; rw [g3, n_cl (by omega)]⟩)
  omega
section ZLa
variable {X : zf_X} {M : zf_M} {Q : Option Value → zf_M → Prop} {a n p : Nat} {s w : Int64}
/-- joinNew -/
theorem s25 (hL : zLy M a) (hn : zf_I M a 2 = nI n) (hn4 : n ≤ 400) (hp : p < 1024) (h1 : n < 400 → Q (some (.int 1)) (zjn M a n p s w)) (h2 : n = 400 → Q (some (.int 0)) M) : zC X 25 [.ref a, .int (nI p), .long s, .long w] M Q := by
  rw [c25]
  obtain ⟨L0, L1, L2, L3, L4, L5, L6, L7, L8, L9⟩ := hL
  have f3 := zfx_lt (X := X) (a := a + 3) (by omega)
  have f4 := zfx_lt (X := X) (a := a + 4) (by omega)
  have e400 : (400 : Int32) = nI 400 := rfl
  have hlt : (nI n < nI 400) = (n < 400) := n_lt (by omega) (by decide)
  simp only [w25_0, w25_1, w25_4, w25_7, w25_10, w25_11, w25_12, w25_13, w25_16, w25_17, w25_20, w25_21, w25_22, w25_23, w25_26, w25_27, w25_30, w25_32, w25_33, w25_34, w25_37, w25_38, w25_41, w25_42, w25_43, w25_44, w25_45, w25_48, w25_49, w25_50, w25_53, w25_54, w25_57, w25_58, w25_59, w25_62, w25_63, w25_64, zk_sI, zk_sJ, zk_sP, zn_sI, zn_sJ, zn_sP, zI_sI, zI_sJ, zI_sP, zJ_sI, zJ_sJ, zJ_sP, zP_sI, zP_sJ, zP_sP, Option.toList_some, Option.toList_none, List.cons_append, List.nil_append, L1, L2, L3, L4, L5, L6, L7, L8, L9, f3, f4, hn, zix, e400, hlt, n_cl (show n < 2 ^ 31 by omega), n_cl (show p < 2 ^ 31 by omega), n_a1, ne_eq, reduceCtorEq, not_false_eq_true, true_and, and_true, Option.getD_some, if_neg (show ¬ a = a + 3 by omega), if_true]
  refine ⟨fun h => ?_, fun h => ⟨rfl, h2 (by omega)⟩⟩
  exact ⟨vp_in_nI h (by decide), vp_in_nI h (by decide), vp_in_nI h (by decide), vp_in_nI hp (by decide), rfl, h1 h⟩
/-- join -/
theorem s24 (hL : zLy M a) (hI : zLI M a n) (h1 : ∀ i, i < n → zf_J M (a + 1) i = s → Q (some (.int 1)) (zf_sJ M (a + 2) i (zf_J M (a + 2) i + w)))
    (h2 : (∀ i, i < n → zf_J M (a + 1) i ≠ s) → n < 400 → ∀ d, d < 1024 → zf_I M (a + 4) ((zhs s + d) % 1024) = 0 → (∀ e, e < d → zf_I M (a + 4) ((zhs s + e) % 1024) ≠ 0) → Q (some (.int 1)) (zjn M a n ((zhs s + d) % 1024) s w))
    (h3 : (∀ i, i < n → zf_J M (a + 1) i ≠ s) → n = 400 → Q (some (.int 0)) M) : zC X 24 [.ref a, .long s, .long w] M Q := by
  rw [c24]
  have hL2 := hL
  obtain ⟨L0, L1, L2, L3, L4, L5, L6, L7, L8, L9⟩ := hL
  have hI2 := hI
  obtain ⟨I1, I2, I3, I4, I5⟩ := hI
  have f3 := zfx_lt (X := X) (a := a + 3) (by omega)
  have f4 := zfx_lt (X := X) (a := a + 4) (by omega)
  have hh := zhs_lt s
  have e1024 : (1024 : Int32) = nI 1024 := rfl
  have loop : ∀ (m t : Nat) (l7 : Slot), t + m = 1024 → (∀ e, e < t → zf_I M (a + 4) ((zhs s + e) % 1024) ≠ 0 ∧ ∀ i, i < n → zf_I M (a + 4) ((zhs s + e) % 1024) = nI (i + 1) → zf_J M (a + 1) i ≠ s) → zW X 24 14 [.val (.ref a), .val (.long s), .second, .val (.long w), .second, .val (.int (nI ((zhs s + t) % 1024))), .val (.int (nI t)), l7] [] M Q := by
    intro m
    induction m with
    | zero =>
      intro t l7 ht hb
      exact (zLI_free hI2 s (fun e he => (hb e (by omega)).1)).elim
    | succ m ih =>
      intro t l7 ht hb
      rw [w24_14]
      have hp : (zhs s + t) % 1024 < 1024 := Nat.mod_lt _ (by decide)
      simp only [w24_0, w24_1, w24_4, w24_5, w24_7, w24_8, w24_9, w24_11, w24_12, w24_16, w24_19, w24_22, w24_23, w24_26, w24_28, w24_29, w24_30, w24_31, w24_33, w24_35, w24_38, w24_39, w24_42, w24_44, w24_45, w24_46, w24_47, w24_50, w24_51, w24_54, w24_56, w24_57, w24_58, w24_59, w24_60, w24_61, w24_62, w24_63, w24_65, w24_68, w24_69, w24_71, w24_72, w24_73, w24_76, w24_77, w24_79, w24_80, w24_81, w24_84, w24_85, w24_87, w24_90, w24_93, w24_94, zk_sI, zk_sJ, zk_sP, zn_sI, zn_sJ, zn_sP, zI_sI, zI_sJ, zI_sP, zJ_sI, zJ_sJ, zJ_sP, zP_sI, zP_sJ, zP_sP, Option.toList_some, Option.toList_none, List.cons_append, List.nil_append, L1, L2, L3, L4, L5, L6, L7, L8, L9, f3, f4, zix, lc_eq, n_cl (show (zhs s + t) % 1024 < 2 ^ 31 by omega), ne_eq, reduceCtorEq, not_false_eq_true, true_and, and_true, Option.getD_some]
      rw [e1024, n_le (by decide) (by omega)]
      refine ⟨fun z => by omega, fun _ => ⟨vp_in_nI hp (by decide), ?_⟩⟩
      rcases I5 _ hp with h0 | ⟨i, g1, g2, g3⟩
      · rw [h0]
        have e0 : (0 : Int32) - 1 = -1 := by decide
        rw [e0]
        have hno : ∀ i, i < n → zf_J M (a + 1) i ≠ s := by
          intro i hi e
          obtain ⟨d, d1, d2, d3, d4⟩ := I4 i hi
          rw [e] at d2 d3 d4
          rcases Nat.lt_trichotomy d t with c | c | c
          · exact (hb d c).2 i hi d3 e
          · rw [c, h0] at d3
            exact n_ne0 (by omega) d3.symm
          · exact d4 t c h0
        refine ⟨fun _ => ⟨fun z => absurd z (by decide), fun _ => ?_⟩, fun z => absurd (by decide) z⟩
        refine s25 hL2 I1 I2 hp (fun q => ?_) (fun q => ?_)
        · simp only [w24_0, w24_1, w24_4, w24_5, w24_7, w24_8, w24_9, w24_11, w24_12, w24_16, w24_19, w24_22, w24_23, w24_26, w24_28, w24_29, w24_30, w24_31, w24_33, w24_35, w24_38, w24_39, w24_42, w24_44, w24_45, w24_46, w24_47, w24_50, w24_51, w24_54, w24_56, w24_57, w24_58, w24_59, w24_60, w24_61, w24_62, w24_63, w24_65, w24_68, w24_69, w24_71, w24_72, w24_73, w24_76, w24_77, w24_79, w24_80, w24_81, w24_84, w24_85, w24_87, w24_90, w24_93, w24_94, zk_sI, zk_sJ, zk_sP, zn_sI, zn_sJ, zn_sP, zI_sI, zI_sJ, zI_sP, zJ_sI, zJ_sJ, zJ_sP, zP_sI, zP_sJ, zP_sP, Option.toList_some, Option.toList_none, List.cons_append, List.nil_append]
          exact ⟨rfl, h2 hno q t (by omega) h0 (fun e he => (hb e he).1)⟩
        · simp only [w24_0, w24_1, w24_4, w24_5, w24_7, w24_8, w24_9, w24_11, w24_12, w24_16, w24_19, w24_22, w24_23, w24_26, w24_28, w24_29, w24_30, w24_31, w24_33, w24_35, w24_38, w24_39, w24_42, w24_44, w24_45, w24_46, w24_47, w24_50, w24_51, w24_54, w24_56, w24_57, w24_58, w24_59, w24_60, w24_61, w24_62, w24_63, w24_65, w24_68, w24_69, w24_71, w24_72, w24_73, w24_76, w24_77, w24_79, w24_80, w24_81, w24_84, w24_85, w24_87, w24_90, w24_93, w24_94, zk_sI, zk_sJ, zk_sP, zn_sI, zn_sJ, zn_sP, zI_sI, zI_sJ, zI_sP, zJ_sI, zJ_sJ, zJ_sP, zP_sI, zP_sJ, zP_sP, Option.toList_some, Option.toList_none, List.cons_append, List.nil_append]
          exact ⟨rfl, h3 hno q⟩
      · rw [g2]
        have e1 : nI (i + 1) - 1 = nI i := nI_pred i
        rw [e1, n_cl (by omega)]
        have nxt : zW X 24 14 [.val (.ref a), .val (.long s), .second, .val (.long w), .second, .val (.int (nI ((zhs s + (t + 1)) % 1024))), .val (.int (nI (t + 1))), .val (.int (nI i))] [] M Q ∨ zf_J M (a + 1) i = s := by
          by_cases e : zf_J M (a + 1) i = s
          · exact Or.inr e
          · refine Or.inl (ih (t + 1) _ (by omega) (fun q hq => ?_))
            by_cases hqt : q = t
            · subst hqt
              refine ⟨by rw [g2]; exact n_ne0 (by omega), fun j hj e2 => ?_⟩
              rw [g2, nI_eq (by omega) (by omega)] at e2
              obtain rfl : i = j := by omega
              exact e
            · exact hb q (by omega)
        have e5 : nI ((zhs s + t) % 1024) + 1 - (nI ((zhs s + t) % 1024) + 1) / nI 1024 * nI 1024 = nI ((zhs s + (t + 1)) % 1024) := by
          rw [n_a1, pk_rem (by omega) (by decide) (by decide)]
          congr 1
          omega
        refine ⟨fun z => absurd z (nI_pos (by omega)), fun _ => ⟨vp_in_nI (by omega) (by decide), fun hne => ⟨fun _ => ⟨by decide, ?_⟩, fun z => absurd (nI_pos' (by omega)) z⟩, fun heq => ⟨vp_in_nI (by omega) (by decide), vp_in_nI (by omega) (by decide), rfl, ?_⟩⟩⟩
        · rw [e5, n_a1]
          exact nxt.resolve_right hne
        · exact h1 i g1 (Decidable.not_not.mp heq)
  simp only [w24_0, w24_1, w24_4, w24_5, w24_7, w24_8, w24_9, w24_11, w24_12, w24_16, w24_19, w24_22, w24_23, w24_26, w24_28, w24_29, w24_30, w24_31, w24_33, w24_35, w24_38, w24_39, w24_42, w24_44, w24_45, w24_46, w24_47, w24_50, w24_51, w24_54, w24_56, w24_57, w24_58, w24_59, w24_60, w24_61, w24_62, w24_63, w24_65, w24_68, w24_69, w24_71, w24_72, w24_73, w24_76, w24_77, w24_79, w24_80, w24_81, w24_84, w24_85, w24_87, w24_90, w24_93, w24_94, zk_sI, zk_sJ, zk_sP, zn_sI, zn_sJ, zn_sP, zI_sI, zI_sJ, zI_sP, zJ_sI, zJ_sJ, zJ_sP, zP_sI, zP_sJ, zP_sP, Option.toList_some, Option.toList_none, List.cons_append, List.nil_append, zhs_e]
  have l0 := loop 1024 0 .unset (by decide) (fun e he => by omega)
  rw [Nat.add_zero, Nat.mod_eq_of_lt hh] at l0
  exact l0
end ZLa

