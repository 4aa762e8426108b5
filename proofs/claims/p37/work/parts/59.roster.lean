/-! ===== Roster, Row: what they do; a seat taken ===== -/
section ZRo
variable {X : zf_X} {M : zf_M} {Q : Option Value → zf_M → Prop} {n f w : Nat}
theorem has_nI (hn : zf_I M 1 1 = nI n) (hf : f < n) (hl : n < 2 ^ 31) : zB (0 ≤ nI f ∧ nI f < zf_I M 1 1) = 1 := by
  refine zB_t ⟨?_, ?_⟩
  · rw [c_0, n_le (by decide) (by omega)]
    omega
  · rw [hn, n_lt (by omega) hl]
    exact hf
/-- number -/
theorem s38 (hP : zPk M) (hn : zf_I M 1 1 = nI n) (hn16 : n ≤ 16) (hf : f < n) (hw : w < 6) (h : Q (some (.int (zf_I M 2 (6 * f + w)))) M) : zC X 38 [.ref 1, .int (nI f), .int (nI w)] M Q := by
  rw [c38]
  simp only [w38_0, w38_1, w38_2, w38_5, w38_8, w38_9, w38_12, w38_14, w38_15, w38_16, w38_17, w38_18, w38_19, w38_22, w38_23, zk_sI, zk_sJ, zk_sP, zn_sI, zn_sJ, zn_sP, zI_sI, zI_sJ, zI_sP, zJ_sI, zJ_sJ, zJ_sP, zP_sI, zP_sJ, zP_sP, Option.toList_some, Option.toList_none, List.cons_append, List.nil_append, zk_of hP.1, zn_of hP.1, zix, ziN, ne_eq, reduceCtorEq, not_false_eq_true, true_and, and_true, Option.getD_some, Nat.reduceLeDiff, Nat.reduceLT, c_ofNat, zkd1, zp_1_0 hP, zkd2, znd2, zfx2]
  refine s37 hP ?_
  rw [has_nI hn hf (by omega)]
  have e : (6 : Int32) * nI f + nI w = nI (6 * f + w) := by rw [n_m6, nI_add]
  simp only [w38_0, w38_1, w38_2, w38_5, w38_8, w38_9, w38_12, w38_14, w38_15, w38_16, w38_17, w38_18, w38_19, w38_22, w38_23, zk_sI, zk_sJ, zk_sP, zn_sI, zn_sJ, zn_sP, zI_sI, zI_sJ, zI_sP, zJ_sI, zJ_sJ, zJ_sP, zP_sI, zP_sJ, zP_sP, Option.toList_some, Option.toList_none, List.cons_append, List.nil_append, zk_of hP.1, zn_of hP.1, zix, ziN, ne_eq, reduceCtorEq, not_false_eq_true, true_and, and_true, Option.getD_some, Nat.reduceLeDiff, Nat.reduceLT, c_ofNat, zkd1, zp_1_0 hP, zkd2, znd2, zfx2, e, n_cl (show 6 * f + w < 2 ^ 31 by omega), n_in (show 6 * f + w < 96 by omega) (show 96 < 2 ^ 31 by decide)]
  exact ⟨fun z => absurd z (by decide), fun _ => h⟩
/-- change -/
theorem s39 {v : Int32} (hP : zPk M) (hn : zf_I M 1 1 = nI n) (hn16 : n ≤ 16) (hf : f < n) (hw : w < 6) (h : Q none (zf_sI M 2 (6 * f + w) v)) : zC X 39 [.ref 1, .int (nI f), .int (nI w), .int v] M Q := by
  rw [c39]
  simp only [w39_0, w39_1, w39_2, w39_5, w39_8, w39_9, w39_12, w39_14, w39_15, w39_16, w39_17, w39_18, w39_19, w39_20, zk_sI, zk_sJ, zk_sP, zn_sI, zn_sJ, zn_sP, zI_sI, zI_sJ, zI_sP, zJ_sI, zJ_sJ, zJ_sP, zP_sI, zP_sJ, zP_sP, Option.toList_some, Option.toList_none, List.cons_append, List.nil_append, zk_of hP.1, zn_of hP.1, zix, ziN, ne_eq, reduceCtorEq, not_false_eq_true, true_and, and_true, Option.getD_some, Nat.reduceLeDiff, Nat.reduceLT, c_ofNat, zkd1, zp_1_0 hP, zkd2, znd2, zfx2]
  refine s37 hP ?_
  rw [has_nI hn hf (by omega)]
  have e : (6 : Int32) * nI f + nI w = nI (6 * f + w) := by rw [n_m6, nI_add]
  simp only [w39_0, w39_1, w39_2, w39_5, w39_8, w39_9, w39_12, w39_14, w39_15, w39_16, w39_17, w39_18, w39_19, w39_20, zk_sI, zk_sJ, zk_sP, zn_sI, zn_sJ, zn_sP, zI_sI, zI_sJ, zI_sP, zJ_sI, zJ_sJ, zJ_sP, zP_sI, zP_sJ, zP_sP, Option.toList_some, Option.toList_none, List.cons_append, List.nil_append, zk_of hP.1, zn_of hP.1, zix, ziN, ne_eq, reduceCtorEq, not_false_eq_true, true_and, and_true, Option.getD_some, Nat.reduceLeDiff, Nat.reduceLT, c_ofNat, zkd1, zp_1_0 hP, zkd2, znd2, zfx2, e, n_cl (show 6 * f + w < 2 ^ 31 by omega), n_in (show 6 * f + w < 96 by omega) (show 96 < 2 ^ 31 by decide)]
  exact ⟨fun z => absurd z (by decide), fun _ => h⟩
/-- isPlace -/
theorem s86 {p : Int32} (h : Q (some (.int (zB (0 ≤ p ∧ p < 3)))) M) : zC X 86 [.int p] M Q := by
  rw [c86]
  simp only [w86_0, w86_1, w86_4, w86_5, w86_6, w86_9, w86_10, w86_13, w86_14, zk_sI, zk_sJ, zk_sP, zn_sI, zn_sJ, zn_sP, zI_sI, zI_sJ, zI_sP, zJ_sI, zJ_sJ, zJ_sP, zP_sI, zP_sJ, zP_sP, Option.toList_some, Option.toList_none, List.cons_append, List.nil_append]
  exact ⟨fun z => zB_2 (fun g => Int32.not_lt.mpr g.1 z) h, fun z => ⟨fun z2 => zB_2 (fun g => Int32.not_lt.mpr z2 g.2) h, fun z2 => zB_1 ⟨Int32.not_lt.mp z, Int32.not_le.mp z2⟩ h⟩⟩
/-- a row's cells -/
def zRw (M : zf_M) (a : Nat) : Prop := a < 1000 ∧ zf_k M a = 6 ∧ zf_P M a 0 = some (a + 1) ∧ zf_n M 10 (a + 1) = 3
theorem zRw_of (hP : zPk M) {a : Nat} (ha : a = 46 ∨ a = 48 ∨ a = 30 ∨ a = 32 ∨ a = 34 ∨ a = 36 ∨ a = 38 ∨ a = 40) : zRw M a := by
  rcases ha with rfl | rfl | rfl | rfl | rfl | rfl | rfl | rfl
  · exact ⟨by decide, by rw [zk_of hP.1]; rfl, zp_46_0 hP, by rw [zn_of hP.1]; rfl⟩
  · exact ⟨by decide, by rw [zk_of hP.1]; rfl, zp_48_0 hP, by rw [zn_of hP.1]; rfl⟩
  · exact ⟨by decide, by rw [zk_of hP.1]; rfl, zp_30_0 hP, by rw [zn_of hP.1]; rfl⟩
  · exact ⟨by decide, by rw [zk_of hP.1]; rfl, zp_32_0 hP, by rw [zn_of hP.1]; rfl⟩
  · exact ⟨by decide, by rw [zk_of hP.1]; rfl, zp_34_0 hP, by rw [zn_of hP.1]; rfl⟩
  · exact ⟨by decide, by rw [zk_of hP.1]; rfl, zp_36_0 hP, by rw [zn_of hP.1]; rfl⟩
  · exact ⟨by decide, by rw [zk_of hP.1]; rfl, zp_38_0 hP, by rw [zn_of hP.1]; rfl⟩
  · exact ⟨by decide, by rw [zk_of hP.1]; rfl, zp_40_0 hP, by rw [zn_of hP.1]; rfl⟩
/-- who -/
theorem s42 {a p : Nat} (hR : zRw M a) (hp : p < 3) (h : Q (some (.int (zf_I M (a + 1) p))) M) : zC X 42 [.ref a, .int (nI p)] M Q := by
  rw [c42]
  obtain ⟨h1, h2, h3, h4⟩ := hR
  simp only [w42_0, w42_1, w42_4, w42_7, w42_8, w42_11, w42_12, w42_13, w42_16, w42_17, zk_sI, zk_sJ, zk_sP, zn_sI, zn_sJ, zn_sP, zI_sI, zI_sJ, zI_sP, zJ_sI, zJ_sJ, zJ_sP, zP_sI, zP_sJ, zP_sP, Option.toList_some, Option.toList_none, List.cons_append, List.nil_append]
  refine s86 ?_
  have e : zB (0 ≤ nI p ∧ nI p < 3) = 1 := by
    refine zB_t ⟨?_, ?_⟩
    · rw [c_0, n_le (by decide) (by omega)]
      omega
    · rw [c_3, n_lt (by omega) (by decide)]
      exact hp
  rw [e]
  have f1 := zfx_lt (X := X) (a := a + 1) (by omega)
  simp only [w42_0, w42_1, w42_4, w42_7, w42_8, w42_11, w42_12, w42_13, w42_16, w42_17, zk_sI, zk_sJ, zk_sP, zn_sI, zn_sJ, zn_sP, zI_sI, zI_sJ, zI_sP, zJ_sI, zJ_sJ, zJ_sP, zP_sI, zP_sJ, zP_sP, Option.toList_some, Option.toList_none, List.cons_append, List.nil_append, h2, h3, h4, zix, f1, n_cl (show p < 2 ^ 31 by omega), n_in hp (show 3 < 2 ^ 31 by decide), ne_eq, reduceCtorEq, not_false_eq_true, true_and, Option.getD_some]
  exact ⟨fun z => absurd z (by decide), fun _ => h⟩
/-- become -/
theorem s41 {a : Nat} {x y z c : Int32} (hR : zRw M a) (h : Q none (zf_sI (zf_sI (zf_sI (zf_sI M (a + 1) 0 x) (a + 1) 1 y) (a + 1) 2 z) a 1 c)) : zC X 41 [.ref a, .int x, .int y, .int z, .int c] M Q := by
  rw [c41]
  obtain ⟨h1, h2, h3, h4⟩ := hR
  simp only [w41_0, w41_1, w41_4, w41_5, w41_6, w41_7, w41_8, w41_11, w41_12, w41_13, w41_14, w41_15, w41_18, w41_19, w41_20, w41_21, w41_22, w41_24, w41_27, zk_sI, zk_sJ, zk_sP, zn_sI, zn_sJ, zn_sP, zI_sI, zI_sJ, zI_sP, zJ_sI, zJ_sJ, zJ_sP, zP_sI, zP_sJ, zP_sP, Option.toList_some, Option.toList_none, List.cons_append, List.nil_append, h2, h3, h4, zix, ne_eq, reduceCtorEq, not_false_eq_true, true_and, Option.getD_some]
  exact ⟨vp_in_nI (show 0 < 3 by decide) (by decide), vp_in_nI (show 1 < 3 by decide) (by decide), vp_in_nI (show 2 < 3 by decide) (by decide), h⟩
/-- a seat put into the order, the last first -/
def zis (sp : Nat → Nat) : List Nat → Nat → List Nat
  | [], k => [k]
  | x :: t, k => if sp x < sp k then x :: zis sp t k else k :: x :: t
/-- the order, as it stands: the last first -/
def zOr (M : zf_M) (a : Nat) (R : List Nat) : Prop := ∀ i k, R[i]? = some k → zf_I M a (R.length - 1 - i) = nI k
/-- seat -/
theorem s8 {k b : Nat} {sp : Nat → Nat} {R : List Nat} (hP : zPk M) (hn : zf_I M 1 1 = nI n) (hn16 : n ≤ 16) (hf : f < n) (hk : k < 6) (hR : R.length < 6) (hs : zf_I M 4 7 = nI R.length) (hO : zOr M 11 R) (hR6 : ∀ j, j ∈ R → j < 6 ∧ zf_I M 10 j = nI (sp j) ∧ sp j < 2 ^ 31 ∧ j ≠ k) (hsk : zf_I M 2 (6 * f + 5) = nI (sp k) ∧ sp k < 2 ^ 31)
    (h : ∀ M1, zF (fun c => 4 ≤ c ∧ c ≤ 11) M M1 → zf_I M1 5 k = zf_I M 2 (6 * f) → zf_I M1 6 k = zf_I M 2 (6 * f + 1) → zf_I M1 7 k = zf_I M 2 (6 * f + 2) → zf_I M1 8 k = zf_I M 2 (6 * f + 3) + nI b → zf_I M1 9 k = zf_I M 2 (6 * f + 4) → zf_I M1 10 k = zf_I M 2 (6 * f + 5) → (∀ c j, 5 ≤ c → c ≤ 10 → j ≠ k → zf_I M1 c j = zf_I M c j) → zf_I M1 4 7 = nI (R.length + 1) → (∀ j, j ≠ 7 → zf_I M1 4 j = zf_I M 4 j) → zOr M1 11 (zis sp R k) → Q none M1) : zC X 8 [.ref 4, .int (nI k), .ref 1, .int (nI f), .int (nI b)] M Q := by
  rw [c8]
  have loop : ∀ (B A : List Nat) (M1 : zf_M), R = A ++ B → zF (fun c => 4 ≤ c ∧ c ≤ 11) M M1 → zis sp R k = A ++ zis sp B k → zf_I M1 5 k = zf_I M 2 (6 * f) → zf_I M1 6 k = zf_I M 2 (6 * f + 1) → zf_I M1 7 k = zf_I M 2 (6 * f + 2) → zf_I M1 8 k = zf_I M 2 (6 * f + 3) + nI b → zf_I M1 9 k = zf_I M 2 (6 * f + 4) → zf_I M1 10 k = zf_I M 2 (6 * f + 5) → (∀ c j, 5 ≤ c → c ≤ 10 → j ≠ k → zf_I M1 c j = zf_I M c j) → (∀ j, zf_I M1 4 j = zf_I M 4 j) → (∀ i x, A[i]? = some x → zf_I M1 11 (R.length - i) = nI x) → (∀ i x, B[i]? = some x → zf_I M1 11 (B.length - 1 - i) = nI x) → zW X 8 101 [.val (.ref 4), .val (.int (nI k)), .val (.ref 1), .val (.int (nI f)), .val (.int (nI b)), .val (.int (nI B.length))] [] M1 Q := by
    intro B
    have fin : ∀ (A B : List Nat) (M1 : zf_M), R = A ++ B → zF (fun c => 4 ≤ c ∧ c ≤ 11) M M1 → zis sp R k = A ++ k :: B → zf_I M1 5 k = zf_I M 2 (6 * f) → zf_I M1 6 k = zf_I M 2 (6 * f + 1) → zf_I M1 7 k = zf_I M 2 (6 * f + 2) → zf_I M1 8 k = zf_I M 2 (6 * f + 3) + nI b → zf_I M1 9 k = zf_I M 2 (6 * f + 4) → zf_I M1 10 k = zf_I M 2 (6 * f + 5) → (∀ c j, 5 ≤ c → c ≤ 10 → j ≠ k → zf_I M1 c j = zf_I M c j) → (∀ j, zf_I M1 4 j = zf_I M 4 j) → (∀ i x, A[i]? = some x → zf_I M1 11 (R.length - i) = nI x) → (∀ i x, B[i]? = some x → zf_I M1 11 (B.length - 1 - i) = nI x) → Q none (zf_sI (zf_sI M1 11 B.length (nI k)) 4 7 (nI R.length + 1)) := by
      intro A B M1 hAB hF hz x1 x2 x3 x4 x5 x6 x7 x8 x9 x10
      have hlen : R.length = A.length + B.length := by rw [hAB, List.length_append]
      refine h _ (zF_sI (zF_sI hF ⟨by omega, by omega⟩) ⟨by omega, by omega⟩) x1 x2 x3 x4 x5 x6 (fun c j h1 h2 h3 => ?_) ?_ (fun j hj => ?_) ?_
      · rw [zI_sI, if_neg (by omega), zI_sI, if_neg (by omega)]
        exact x7 c j h1 h2 h3
      · rw [zI_sI, if_pos rfl, if_pos rfl, n_a1]
      · rw [zI_sI, if_pos rfl, if_neg hj, zI_sI, if_neg (by decide)]
        exact x8 j
      · rw [hz]
        intro i x hx
        rw [zI_sI, if_neg (by decide), zI_sI, if_pos rfl]
        have hl2 : (A ++ k :: B).length - 1 - i = R.length - i := by
          rw [List.length_append, List.length_cons, hlen]
          omega
        rw [hl2]
        have hil := (List.getElem?_eq_some_iff.mp hx).1
        rw [List.length_append, List.length_cons] at hil
        by_cases hi : i < A.length
        · rw [List.getElem?_append_left hi] at hx
          rw [if_neg (by omega)]
          exact x9 i x hx
        · rw [List.getElem?_append_right (by omega)] at hx
          by_cases hi2 : i = A.length
          · subst hi2
            rw [Nat.sub_self, List.getElem?_cons_zero] at hx
            cases hx
            rw [if_pos (by omega)]
          · obtain ⟨d, hd⟩ : ∃ d, i - A.length = d + 1 := ⟨i - A.length - 1, by omega⟩
            rw [hd, List.getElem?_cons_succ] at hx
            rw [if_neg (by omega)]
            have := x10 d x hx
            rw [show R.length - i = B.length - 1 - d by omega]
            exact this
    induction B with
    | nil =>
      intro A M1 hAB hF hz x1 x2 x3 x4 x5 x6 x7 x8 x9 x10
      have hP1 := zPk_F hP hF
      rw [w8_101]
      have e7 : zf_I M1 4 7 = nI R.length := by rw [x8, hs]
      simp only [w8_0, w8_1, w8_4, w8_5, w8_7, w8_10, w8_11, w8_14, w8_16, w8_19, w8_20, w8_21, w8_24, w8_25, w8_26, w8_27, w8_28, w8_31, w8_32, w8_33, w8_36, w8_37, w8_38, w8_39, w8_40, w8_43, w8_44, w8_45, w8_48, w8_49, w8_50, w8_51, w8_52, w8_55, w8_56, w8_57, w8_60, w8_61, w8_62, w8_63, w8_64, w8_67, w8_69, w8_70, w8_71, w8_72, w8_75, w8_76, w8_77, w8_78, w8_79, w8_82, w8_83, w8_84, w8_87, w8_88, w8_89, w8_90, w8_91, w8_94, w8_95, w8_96, w8_99, w8_103, w8_106, w8_107, w8_110, w8_111, w8_114, w8_116, w8_117, w8_118, w8_119, w8_120, w8_121, w8_124, w8_125, w8_126, w8_129, w8_130, w8_133, w8_135, w8_136, w8_139, w8_141, w8_142, w8_143, w8_144, w8_145, w8_148, w8_151, w8_152, w8_155, w8_157, w8_158, w8_159, w8_160, w8_161, w8_164, w8_165, w8_166, w8_169, zk_sI, zk_sJ, zk_sP, zn_sI, zn_sJ, zn_sP, zI_sI, zI_sJ, zI_sP, zJ_sI, zJ_sJ, zJ_sP, zP_sI, zP_sJ, zP_sP, Option.toList_some, Option.toList_none, List.cons_append, List.nil_append, zk_of hP1.1, zn_of hP1.1, zix, ziN, ne_eq, reduceCtorEq, not_false_eq_true, true_and, and_true, Option.getD_some, Nat.reduceLeDiff, Nat.reduceLT, c_ofNat, zkd1, zp_1_0 hP1, zkd2, znd2, zfx2, zkd4, zp_4_0 hP1, zp_4_1 hP1, zp_4_2 hP1, zp_4_3 hP1, zp_4_4 hP1, zp_4_5 hP1, zp_4_6 hP1, zkd5, znd5, zfx5, zkd6, znd6, zfx6, zkd7, znd7, zfx7, zkd8, znd8, zfx8, zkd9, znd9, zfx9, zkd10, znd10, zfx10, zkd11, znd11, zfx11, e7, List.length_nil]
      exact ⟨fun _ => ⟨vp_in_nI (by decide) (by decide), fin A [] M1 hAB hF hz x1 x2 x3 x4 x5 x6 x7 x8 x9 x10⟩, fun z => absurd (Int32.le_refl _) z⟩
    | cons x t ih =>
      intro A M1 hAB hF hz x1 x2 x3 x4 x5 x6 x7 x8 x9 x10
      have hP1 := zPk_F hP hF
      have hlen : R.length = A.length + (t.length + 1) := by rw [hAB, List.length_append, List.length_cons]
      obtain ⟨r1, r2, r3, r4⟩ := hR6 x (by rw [hAB]; simp)
      have ex : zf_I M1 11 t.length = nI x := by
        have := x10 0 x rfl
        rw [List.length_cons] at this
        exact this
      have es : zf_I M1 10 x = nI (sp x) := by rw [x7 10 x (by omega) (by omega) r4, r2]
      have ek : zf_I M1 10 k = nI (sp k) := by rw [x6, hsk.1]
      have e1 : nI (t.length + 1) - 1 = nI t.length := pk_sub (b := 1) (by omega)
      have e7 : zf_I M1 4 7 = nI R.length := by rw [x8, hs]
      rw [w8_101]
      simp only [w8_0, w8_1, w8_4, w8_5, w8_7, w8_10, w8_11, w8_14, w8_16, w8_19, w8_20, w8_21, w8_24, w8_25, w8_26, w8_27, w8_28, w8_31, w8_32, w8_33, w8_36, w8_37, w8_38, w8_39, w8_40, w8_43, w8_44, w8_45, w8_48, w8_49, w8_50, w8_51, w8_52, w8_55, w8_56, w8_57, w8_60, w8_61, w8_62, w8_63, w8_64, w8_67, w8_69, w8_70, w8_71, w8_72, w8_75, w8_76, w8_77, w8_78, w8_79, w8_82, w8_83, w8_84, w8_87, w8_88, w8_89, w8_90, w8_91, w8_94, w8_95, w8_96, w8_99, w8_103, w8_106, w8_107, w8_110, w8_111, w8_114, w8_116, w8_117, w8_118, w8_119, w8_120, w8_121, w8_124, w8_125, w8_126, w8_129, w8_130, w8_133, w8_135, w8_136, w8_139, w8_141, w8_142, w8_143, w8_144, w8_145, w8_148, w8_151, w8_152, w8_155, w8_157, w8_158, w8_159, w8_160, w8_161, w8_164, w8_165, w8_166, w8_169, zk_sI, zk_sJ, zk_sP, zn_sI, zn_sJ, zn_sP, zI_sI, zI_sJ, zI_sP, zJ_sI, zJ_sJ, zJ_sP, zP_sI, zP_sJ, zP_sP, Option.toList_some, Option.toList_none, List.cons_append, List.nil_append, zk_of hP1.1, zn_of hP1.1, zix, ziN, ne_eq, reduceCtorEq, not_false_eq_true, true_and, and_true, Option.getD_some, Nat.reduceLeDiff, Nat.reduceLT, c_ofNat, zkd1, zp_1_0 hP1, zkd2, znd2, zfx2, zkd4, zp_4_0 hP1, zp_4_1 hP1, zp_4_2 hP1, zp_4_3 hP1, zp_4_4 hP1, zp_4_5 hP1, zp_4_6 hP1, zkd5, znd5, zfx5, zkd6, znd6, zfx6, zkd7, znd7, zfx7, zkd8, znd8, zfx8, zkd9, znd9, zfx9, zkd10, znd10, zfx10, zkd11, znd11, zfx11, List.length_cons, e7, e1, n_cl (show t.length < 2 ^ 31 by omega), n_cl (show t.length + 1 < 2 ^ 31 by omega), ex, n_cl (show x < 2 ^ 31 by omega), n_cl (show k < 2 ^ 31 by omega), es, ek, n_in (show t.length < 6 by omega) (show 6 < 2 ^ 31 by decide), n_in (show t.length + 1 < 6 by omega) (show 6 < 2 ^ 31 by decide), n_in r1 (show 6 < 2 ^ 31 by decide), n_in hk (show 6 < 2 ^ 31 by decide)]
      refine ⟨fun z => ?_, fun _ => ⟨fun hle => ?_, fun hgt => ?_⟩⟩
      · rw [c_0, n_le (by omega) (by decide)] at z
        omega
      · rw [n_le hsk.2 r3] at hle
        rw [zis, if_neg (by omega)] at hz
        exact fin A (x :: t) M1 hAB hF hz x1 x2 x3 x4 x5 x6 x7 x8 x9 x10
      · rw [n_le hsk.2 r3] at hgt
        rw [zis, if_pos (by omega)] at hz
        rw [← Int32.sub_eq_add_neg, e1]
        refine ih (A ++ [x]) _ (by rw [hAB]; simp) (zF_sI hF ⟨by omega, by omega⟩) (by rw [hz]; simp) x1 x2 x3 x4 x5 x6 (fun c j h1 h2 h3 => ?_) x8 (fun i y hy => ?_) (fun i y hy => ?_)
        · rw [zI_sI, if_neg (by omega)]
          exact x7 c j h1 h2 h3
        · rw [zI_sI, if_pos rfl]
          have hil := (List.getElem?_eq_some_iff.mp hy).1
          rw [List.length_append, List.length_singleton] at hil
          by_cases hi : i < A.length
          · rw [List.getElem?_append_left hi] at hy
            rw [if_neg (by omega)]
            exact x9 i y hy
          · obtain rfl : i = A.length := by omega
            rw [List.getElem?_append_right (Nat.le_refl _), Nat.sub_self, List.getElem?_cons_zero] at hy
            cases hy
            rw [if_pos (by omega)]
        · have hil := (List.getElem?_eq_some_iff.mp hy).1
          rw [zI_sI, if_pos rfl, if_neg (by omega)]
          have := x10 (i + 1) y (by rw [List.getElem?_cons_succ]; exact hy)
          rw [List.length_cons] at this
          rw [show t.length - 1 - i = t.length + 1 - 1 - (i + 1) by omega]
          exact this
  simp only [w8_0, w8_1, w8_4, w8_5, w8_7, w8_10, w8_11, w8_14, w8_16, w8_19, w8_20, w8_21, w8_24, w8_25, w8_26, w8_27, w8_28, w8_31, w8_32, w8_33, w8_36, w8_37, w8_38, w8_39, w8_40, w8_43, w8_44, w8_45, w8_48, w8_49, w8_50, w8_51, w8_52, w8_55, w8_56, w8_57, w8_60, w8_61, w8_62, w8_63, w8_64, w8_67, w8_69, w8_70, w8_71, w8_72, w8_75, w8_76, w8_77, w8_78, w8_79, w8_82, w8_83, w8_84, w8_87, w8_88, w8_89, w8_90, w8_91, w8_94, w8_95, w8_96, w8_99, w8_103, w8_106, w8_107, w8_110, w8_111, w8_114, w8_116, w8_117, w8_118, w8_119, w8_120, w8_121, w8_124, w8_125, w8_126, w8_129, w8_130, w8_133, w8_135, w8_136, w8_139, w8_141, w8_142, w8_143, w8_144, w8_145, w8_148, w8_151, w8_152, w8_155, w8_157, w8_158, w8_159, w8_160, w8_161, w8_164, w8_165, w8_166, w8_169, zk_sI, zk_sJ, zk_sP, zn_sI, zn_sJ, zn_sP, zI_sI, zI_sJ, zI_sP, zJ_sI, zJ_sJ, zJ_sP, zP_sI, zP_sJ, zP_sP, Option.toList_some, Option.toList_none, List.cons_append, List.nil_append, zk_of hP.1, zn_of hP.1, zix, ziN, ne_eq, reduceCtorEq, not_false_eq_true, true_and, and_true, Option.getD_some, Nat.reduceLeDiff, Nat.reduceLT, c_ofNat, zkd1, zp_1_0 hP, zkd2, znd2, zfx2, zkd4, zp_4_0 hP, zp_4_1 hP, zp_4_2 hP, zp_4_3 hP, zp_4_4 hP, zp_4_5 hP, zp_4_6 hP, zkd5, znd5, zfx5, zkd6, znd6, zfx6, zkd7, znd7, zfx7, zkd8, znd8, zfx8, zkd9, znd9, zfx9, zkd10, znd10, zfx10, zkd11, znd11, zfx11, hs]
  rw [c_6, n_le (by decide) (by omega), n_lt (by omega) (by decide)]
  refine ⟨fun z => absurd z (nI_pos (by omega)), fun _ => ⟨fun z => by omega, fun _ => ⟨fun _ => ?_, fun z => absurd hR z⟩⟩⟩
  refine s38 (w := 0) hP hn hn16 hf (by decide) ?_
  simp only [w8_0, w8_1, w8_4, w8_5, w8_7, w8_10, w8_11, w8_14, w8_16, w8_19, w8_20, w8_21, w8_24, w8_25, w8_26, w8_27, w8_28, w8_31, w8_32, w8_33, w8_36, w8_37, w8_38, w8_39, w8_40, w8_43, w8_44, w8_45, w8_48, w8_49, w8_50, w8_51, w8_52, w8_55, w8_56, w8_57, w8_60, w8_61, w8_62, w8_63, w8_64, w8_67, w8_69, w8_70, w8_71, w8_72, w8_75, w8_76, w8_77, w8_78, w8_79, w8_82, w8_83, w8_84, w8_87, w8_88, w8_89, w8_90, w8_91, w8_94, w8_95, w8_96, w8_99, w8_103, w8_106, w8_107, w8_110, w8_111, w8_114, w8_116, w8_117, w8_118, w8_119, w8_120, w8_121, w8_124, w8_125, w8_126, w8_129, w8_130, w8_133, w8_135, w8_136, w8_139, w8_141, w8_142, w8_143, w8_144, w8_145, w8_148, w8_151, w8_152, w8_155, w8_157, w8_158, w8_159, w8_160, w8_161, w8_164, w8_165, w8_166, w8_169, zk_sI, zk_sJ, zk_sP, zn_sI, zn_sJ, zn_sP, zI_sI, zI_sJ, zI_sP, zJ_sI, zJ_sJ, zJ_sP, zP_sI, zP_sJ, zP_sP, Option.toList_some, Option.toList_none, List.cons_append, List.nil_append, zk_of hP.1, zn_of hP.1, zix, ziN, ne_eq, reduceCtorEq, not_false_eq_true, true_and, and_true, Option.getD_some, Nat.reduceLeDiff, Nat.reduceLT, c_ofNat, zkd1, zp_1_0 hP, zkd2, znd2, zfx2, zkd4, zp_4_0 hP, zp_4_1 hP, zp_4_2 hP, zp_4_3 hP, zp_4_4 hP, zp_4_5 hP, zp_4_6 hP, zkd5, znd5, zfx5, zkd6, znd6, zfx6, zkd7, znd7, zfx7, zkd8, znd8, zfx8, zkd9, znd9, zfx9, zkd10, znd10, zfx10, zkd11, znd11, zfx11, n_cl (show k < 2 ^ 31 by omega), n_in hk (show 6 < 2 ^ 31 by decide), Nat.reduceEqDiff, if_false]
  have hP1 := zPk_sI (a := 5) (j := k) (v := zf_I M 2 (6 * f + 0)) hP
  refine s38 (w := 1) hP1 hn hn16 hf (by decide) ?_
  simp only [w8_0, w8_1, w8_4, w8_5, w8_7, w8_10, w8_11, w8_14, w8_16, w8_19, w8_20, w8_21, w8_24, w8_25, w8_26, w8_27, w8_28, w8_31, w8_32, w8_33, w8_36, w8_37, w8_38, w8_39, w8_40, w8_43, w8_44, w8_45, w8_48, w8_49, w8_50, w8_51, w8_52, w8_55, w8_56, w8_57, w8_60, w8_61, w8_62, w8_63, w8_64, w8_67, w8_69, w8_70, w8_71, w8_72, w8_75, w8_76, w8_77, w8_78, w8_79, w8_82, w8_83, w8_84, w8_87, w8_88, w8_89, w8_90, w8_91, w8_94, w8_95, w8_96, w8_99, w8_103, w8_106, w8_107, w8_110, w8_111, w8_114, w8_116, w8_117, w8_118, w8_119, w8_120, w8_121, w8_124, w8_125, w8_126, w8_129, w8_130, w8_133, w8_135, w8_136, w8_139, w8_141, w8_142, w8_143, w8_144, w8_145, w8_148, w8_151, w8_152, w8_155, w8_157, w8_158, w8_159, w8_160, w8_161, w8_164, w8_165, w8_166, w8_169, zk_sI, zk_sJ, zk_sP, zn_sI, zn_sJ, zn_sP, zI_sI, zI_sJ, zI_sP, zJ_sI, zJ_sJ, zJ_sP, zP_sI, zP_sJ, zP_sP, Option.toList_some, Option.toList_none, List.cons_append, List.nil_append, zk_of hP.1, zn_of hP.1, zix, ziN, ne_eq, reduceCtorEq, not_false_eq_true, true_and, and_true, Option.getD_some, Nat.reduceLeDiff, Nat.reduceLT, c_ofNat, zkd1, zp_1_0 hP, zkd2, znd2, zfx2, zkd4, zp_4_0 hP, zp_4_1 hP, zp_4_2 hP, zp_4_3 hP, zp_4_4 hP, zp_4_5 hP, zp_4_6 hP, zkd5, znd5, zfx5, zkd6, znd6, zfx6, zkd7, znd7, zfx7, zkd8, znd8, zfx8, zkd9, znd9, zfx9, zkd10, znd10, zfx10, zkd11, znd11, zfx11, n_cl (show k < 2 ^ 31 by omega), n_in hk (show 6 < 2 ^ 31 by decide), Nat.reduceEqDiff, if_false]
  have hP2 := zPk_sI (a := 6) (j := k) (v := zf_I M 2 (6 * f + 1)) hP1
  refine s38 (w := 2) hP2 hn hn16 hf (by decide) ?_
  simp only [w8_0, w8_1, w8_4, w8_5, w8_7, w8_10, w8_11, w8_14, w8_16, w8_19, w8_20, w8_21, w8_24, w8_25, w8_26, w8_27, w8_28, w8_31, w8_32, w8_33, w8_36, w8_37, w8_38, w8_39, w8_40, w8_43, w8_44, w8_45, w8_48, w8_49, w8_50, w8_51, w8_52, w8_55, w8_56, w8_57, w8_60, w8_61, w8_62, w8_63, w8_64, w8_67, w8_69, w8_70, w8_71, w8_72, w8_75, w8_76, w8_77, w8_78, w8_79, w8_82, w8_83, w8_84, w8_87, w8_88, w8_89, w8_90, w8_91, w8_94, w8_95, w8_96, w8_99, w8_103, w8_106, w8_107, w8_110, w8_111, w8_114, w8_116, w8_117, w8_118, w8_119, w8_120, w8_121, w8_124, w8_125, w8_126, w8_129, w8_130, w8_133, w8_135, w8_136, w8_139, w8_141, w8_142, w8_143, w8_144, w8_145, w8_148, w8_151, w8_152, w8_155, w8_157, w8_158, w8_159, w8_160, w8_161, w8_164, w8_165, w8_166, w8_169, zk_sI, zk_sJ, zk_sP, zn_sI, zn_sJ, zn_sP, zI_sI, zI_sJ, zI_sP, zJ_sI, zJ_sJ, zJ_sP, zP_sI, zP_sJ, zP_sP, Option.toList_some, Option.toList_none, List.cons_append, List.nil_append, zk_of hP.1, zn_of hP.1, zix, ziN, ne_eq, reduceCtorEq, not_false_eq_true, true_and, and_true, Option.getD_some, Nat.reduceLeDiff, Nat.reduceLT, c_ofNat, zkd1, zp_1_0 hP, zkd2, znd2, zfx2, zkd4, zp_4_0 hP, zp_4_1 hP, zp_4_2 hP, zp_4_3 hP, zp_4_4 hP, zp_4_5 hP, zp_4_6 hP, zkd5, znd5, zfx5, zkd6, znd6, zfx6, zkd7, znd7, zfx7, zkd8, znd8, zfx8, zkd9, znd9, zfx9, zkd10, znd10, zfx10, zkd11, znd11, zfx11, n_cl (show k < 2 ^ 31 by omega), n_in hk (show 6 < 2 ^ 31 by decide), Nat.reduceEqDiff, if_false]
  have hP3 := zPk_sI (a := 7) (j := k) (v := zf_I M 2 (6 * f + 2)) hP2
  refine s38 (w := 3) hP3 hn hn16 hf (by decide) ?_
  simp only [w8_0, w8_1, w8_4, w8_5, w8_7, w8_10, w8_11, w8_14, w8_16, w8_19, w8_20, w8_21, w8_24, w8_25, w8_26, w8_27, w8_28, w8_31, w8_32, w8_33, w8_36, w8_37, w8_38, w8_39, w8_40, w8_43, w8_44, w8_45, w8_48, w8_49, w8_50, w8_51, w8_52, w8_55, w8_56, w8_57, w8_60, w8_61, w8_62, w8_63, w8_64, w8_67, w8_69, w8_70, w8_71, w8_72, w8_75, w8_76, w8_77, w8_78, w8_79, w8_82, w8_83, w8_84, w8_87, w8_88, w8_89, w8_90, w8_91, w8_94, w8_95, w8_96, w8_99, w8_103, w8_106, w8_107, w8_110, w8_111, w8_114, w8_116, w8_117, w8_118, w8_119, w8_120, w8_121, w8_124, w8_125, w8_126, w8_129, w8_130, w8_133, w8_135, w8_136, w8_139, w8_141, w8_142, w8_143, w8_144, w8_145, w8_148, w8_151, w8_152, w8_155, w8_157, w8_158, w8_159, w8_160, w8_161, w8_164, w8_165, w8_166, w8_169, zk_sI, zk_sJ, zk_sP, zn_sI, zn_sJ, zn_sP, zI_sI, zI_sJ, zI_sP, zJ_sI, zJ_sJ, zJ_sP, zP_sI, zP_sJ, zP_sP, Option.toList_some, Option.toList_none, List.cons_append, List.nil_append, zk_of hP.1, zn_of hP.1, zix, ziN, ne_eq, reduceCtorEq, not_false_eq_true, true_and, and_true, Option.getD_some, Nat.reduceLeDiff, Nat.reduceLT, c_ofNat, zkd1, zp_1_0 hP, zkd2, znd2, zfx2, zkd4, zp_4_0 hP, zp_4_1 hP, zp_4_2 hP, zp_4_3 hP, zp_4_4 hP, zp_4_5 hP, zp_4_6 hP, zkd5, znd5, zfx5, zkd6, znd6, zfx6, zkd7, znd7, zfx7, zkd8, znd8, zfx8, zkd9, znd9, zfx9, zkd10, znd10, zfx10, zkd11, znd11, zfx11, n_cl (show k < 2 ^ 31 by omega), n_in hk (show 6 < 2 ^ 31 by decide), Nat.reduceEqDiff, if_false]
  have hP4 := zPk_sI (a := 8) (j := k) (v := zf_I M 2 (6 * f + 3) + nI b) hP3
  refine s38 (w := 4) hP4 hn hn16 hf (by decide) ?_
  simp only [w8_0, w8_1, w8_4, w8_5, w8_7, w8_10, w8_11, w8_14, w8_16, w8_19, w8_20, w8_21, w8_24, w8_25, w8_26, w8_27, w8_28, w8_31, w8_32, w8_33, w8_36, w8_37, w8_38, w8_39, w8_40, w8_43, w8_44, w8_45, w8_48, w8_49, w8_50, w8_51, w8_52, w8_55, w8_56, w8_57, w8_60, w8_61, w8_62, w8_63, w8_64, w8_67, w8_69, w8_70, w8_71, w8_72, w8_75, w8_76, w8_77, w8_78, w8_79, w8_82, w8_83, w8_84, w8_87, w8_88, w8_89, w8_90, w8_91, w8_94, w8_95, w8_96, w8_99, w8_103, w8_106, w8_107, w8_110, w8_111, w8_114, w8_116, w8_117, w8_118, w8_119, w8_120, w8_121, w8_124, w8_125, w8_126, w8_129, w8_130, w8_133, w8_135, w8_136, w8_139, w8_141, w8_142, w8_143, w8_144, w8_145, w8_148, w8_151, w8_152, w8_155, w8_157, w8_158, w8_159, w8_160, w8_161, w8_164, w8_165, w8_166, w8_169, zk_sI, zk_sJ, zk_sP, zn_sI, zn_sJ, zn_sP, zI_sI, zI_sJ, zI_sP, zJ_sI, zJ_sJ, zJ_sP, zP_sI, zP_sJ, zP_sP, Option.toList_some, Option.toList_none, List.cons_append, List.nil_append, zk_of hP.1, zn_of hP.1, zix, ziN, ne_eq, reduceCtorEq, not_false_eq_true, true_and, and_true, Option.getD_some, Nat.reduceLeDiff, Nat.reduceLT, c_ofNat, zkd1, zp_1_0 hP, zkd2, znd2, zfx2, zkd4, zp_4_0 hP, zp_4_1 hP, zp_4_2 hP, zp_4_3 hP, zp_4_4 hP, zp_4_5 hP, zp_4_6 hP, zkd5, znd5, zfx5, zkd6, znd6, zfx6, zkd7, znd7, zfx7, zkd8, znd8, zfx8, zkd9, znd9, zfx9, zkd10, znd10, zfx10, zkd11, znd11, zfx11, n_cl (show k < 2 ^ 31 by omega), n_in hk (show 6 < 2 ^ 31 by decide), Nat.reduceEqDiff, if_false]
  have hP5 := zPk_sI (a := 9) (j := k) (v := zf_I M 2 (6 * f + 4)) hP4
  refine s38 (w := 5) hP5 hn hn16 hf (by decide) ?_
  simp only [w8_0, w8_1, w8_4, w8_5, w8_7, w8_10, w8_11, w8_14, w8_16, w8_19, w8_20, w8_21, w8_24, w8_25, w8_26, w8_27, w8_28, w8_31, w8_32, w8_33, w8_36, w8_37, w8_38, w8_39, w8_40, w8_43, w8_44, w8_45, w8_48, w8_49, w8_50, w8_51, w8_52, w8_55, w8_56, w8_57, w8_60, w8_61, w8_62, w8_63, w8_64, w8_67, w8_69, w8_70, w8_71, w8_72, w8_75, w8_76, w8_77, w8_78, w8_79, w8_82, w8_83, w8_84, w8_87, w8_88, w8_89, w8_90, w8_91, w8_94, w8_95, w8_96, w8_99, w8_103, w8_106, w8_107, w8_110, w8_111, w8_114, w8_116, w8_117, w8_118, w8_119, w8_120, w8_121, w8_124, w8_125, w8_126, w8_129, w8_130, w8_133, w8_135, w8_136, w8_139, w8_141, w8_142, w8_143, w8_144, w8_145, w8_148, w8_151, w8_152, w8_155, w8_157, w8_158, w8_159, w8_160, w8_161, w8_164, w8_165, w8_166, w8_169, zk_sI, zk_sJ, zk_sP, zn_sI, zn_sJ, zn_sP, zI_sI, zI_sJ, zI_sP, zJ_sI, zJ_sJ, zJ_sP, zP_sI, zP_sJ, zP_sP, Option.toList_some, Option.toList_none, List.cons_append, List.nil_append, zk_of hP.1, zn_of hP.1, zix, ziN, ne_eq, reduceCtorEq, not_false_eq_true, true_and, and_true, Option.getD_some, Nat.reduceLeDiff, Nat.reduceLT, c_ofNat, zkd1, zp_1_0 hP, zkd2, znd2, zfx2, zkd4, zp_4_0 hP, zp_4_1 hP, zp_4_2 hP, zp_4_3 hP, zp_4_4 hP, zp_4_5 hP, zp_4_6 hP, zkd5, znd5, zfx5, zkd6, znd6, zfx6, zkd7, znd7, zfx7, zkd8, znd8, zfx8, zkd9, znd9, zfx9, zkd10, znd10, zfx10, zkd11, znd11, zfx11, n_cl (show k < 2 ^ 31 by omega), n_in hk (show 6 < 2 ^ 31 by decide), Nat.reduceEqDiff, if_false]
  rw [hs]
  have hF : zF (fun c => 4 ≤ c ∧ c ≤ 11) M (zf_sI (zf_sI (zf_sI (zf_sI (zf_sI (zf_sI M 5 k (zf_I M 2 (6 * f + 0))) 6 k (zf_I M 2 (6 * f + 1))) 7 k (zf_I M 2 (6 * f + 2))) 8 k (zf_I M 2 (6 * f + 3) + nI b)) 9 k (zf_I M 2 (6 * f + 4))) 10 k (zf_I M 2 (6 * f + 5))) :=
    zF_sI (zF_sI (zF_sI (zF_sI (zF_sI (zF_sI (zF_rf _ _) ⟨by omega, by omega⟩) ⟨by omega, by omega⟩) ⟨by omega, by omega⟩) ⟨by omega, by omega⟩) ⟨by omega, by omega⟩) ⟨by omega, by omega⟩
  refine loop R [] _ rfl hF rfl ?_ ?_ ?_ ?_ ?_ ?_ (fun c j h1 h2 h3 => ?_) (fun j => ?_) (fun i x hx => by simp at hx) (fun i x hx => ?_)
  · simp only [zI_sI, Nat.reduceEqDiff, if_false, if_true]
    rfl
  · simp only [zI_sI, Nat.reduceEqDiff, if_false, if_true]
  · simp only [zI_sI, Nat.reduceEqDiff, if_false, if_true]
  · simp only [zI_sI, Nat.reduceEqDiff, if_false, if_true]
  · simp only [zI_sI, Nat.reduceEqDiff, if_false, if_true]
  · simp only [zI_sI, Nat.reduceEqDiff, if_false, if_true]
  · simp only [zI_sI, h3, if_false, ite_self]
  · simp only [zI_sI, Nat.reduceEqDiff, if_false]
  · simp only [zI_sI, Nat.reduceEqDiff, if_false]
    exact hO i x hx
end ZRo

