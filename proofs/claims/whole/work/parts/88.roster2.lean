/-! ===== the roster: both ===== -/
def zud {α : Type} (g : Nat → α) (i : Nat) (v : α) : Nat → α := fun j => if j = i then v else g j
def loN (w : Nat) : Nat := if w = 1 then 1 else if w = 3 then 1 else 0
def hiN (w : Nat) : Nat := if w = 0 then 2 else if w = 1 then 20 else if w = 2 then 6 else if w = 3 then 9 else if w = 4 then 19 else 9
theorem lo_e (w : Nat) : zf_lo w = nI (loN w) := by
  unfold zf_lo loN
  split
  · rfl
  · split <;> rfl
theorem hi_e (w : Nat) : zf_hi w = nI (hiN w) := by
  unfold zf_hi hiN
  split
  · rfl
  · split
    · rfl
    · split
      · rfl
      · split
        · rfl
        · split <;> rfl
theorem hi_lt (w : Nat) : hiN w ≤ 20 := by
  unfold hiN
  split
  · decide
  · split
    · decide
    · split
      · decide
      · split
        · decide
        · split <;> decide
theorem lo_lt (w : Nat) : loN w ≤ 1 := by
  unfold loN
  split
  · decide
  · split <;> decide
abbrev zok (w : Nat) (v : Int32) : Prop := zin v (zf_lo w) (zf_hi w)
theorem zok_n {w : Nat} {v : Int32} (h : zok w v) : ∃ x, v = nI x ∧ loN w ≤ x ∧ x ≤ hiN w := by
  obtain ⟨h1, h2⟩ := h
  have hh := hi_lt w
  have hl := lo_lt w
  have h0 : 0 ≤ v := by
    refine Int32.le_trans ?_ h1
    rw [lo_e]
    exact nI_pos' (by omega)
  obtain ⟨x, x1, rfl⟩ := zin_o (n := hiN w) (hi_e w) (by omega) ⟨h0, h2⟩
  rw [lo_e, n_le (by omega) (by omega)] at h1
  exact ⟨x, rfl, h1, x1⟩
theorem zNv_iff {n : Nat} {nu : Nat → Nat} : zNv n nu ↔ n ≤ 16 ∧ ∀ f w, f < n → w < 6 → loN w ≤ nu (6 * f + w) ∧ nu (6 * f + w) ≤ hiN w := by
  constructor
  · rintro ⟨h1, h2⟩
    refine ⟨h1, fun f w hf hw => ?_⟩
    obtain ⟨x1, x2, x3, x4, x5, x6, x7, x8⟩ := h2 f hf
    rcases k6 hw with rfl | rfl | rfl | rfl | rfl | rfl
    · exact ⟨Nat.zero_le _, x1⟩
    · exact ⟨x2, x3⟩
    · exact ⟨Nat.zero_le _, x4⟩
    · exact ⟨x5, x6⟩
    · exact ⟨Nat.zero_le _, x7⟩
    · exact ⟨Nat.zero_le _, x8⟩
  · rintro ⟨h1, h2⟩
    refine ⟨h1, fun f hf => ?_⟩
    exact ⟨(h2 f 0 hf (by decide)).2, (h2 f 1 hf (by decide)).1, (h2 f 1 hf (by decide)).2, (h2 f 2 hf (by decide)).2, (h2 f 3 hf (by decide)).1, (h2 f 3 hf (by decide)).2, (h2 f 4 hf (by decide)).2, (h2 f 5 hf (by decide)).2⟩
theorem zNv_upd {n f w x : Nat} {nu : Nat → Nat} (h : zNv n nu) (hw : w < 6) (hx : loN w ≤ x ∧ x ≤ hiN w) : zNv n (zud nu (6 * f + w) x) := by
  rw [zNv_iff] at h ⊢
  refine ⟨h.1, fun f2 w2 hf2 hw2 => ?_⟩
  unfold zud
  by_cases e : 6 * f2 + w2 = 6 * f + w
  · rw [if_pos e, show w2 = w by omega]
    exact hx
  · rw [if_neg e]
    exact h.2 f2 w2 hf2 hw2
abbrev vhas (n : Nat) (f : Int32) : Prop := 0 ≤ f ∧ f < nI n
theorem vhas_o {n : Nat} {f : Int32} (h : vhas n f) (hn : n ≤ 16) : ∃ k, k < n ∧ f = nI k := by
  obtain ⟨j, j1, rfl⟩ := nI_of (Int32.not_lt.mpr h.1)
  have := h.2
  rw [n_lt j1 (by omega)] at this
  exact ⟨j, this, rfl⟩
theorem vhas_in {n : Nat} {f : Int32} (hn : n ≤ 16) : zin f 0 (nI n - 1) ↔ vhas n f := by
  show (0 ≤ f ∧ f ≤ nI n - 1) ↔ (0 ≤ f ∧ f < nI n)
  by_cases h0 : n = 0
  · subst h0
    have e : nI 0 - 1 = -1 := by decide
    have e0 : nI 0 = 0 := rfl
    rw [e, e0, Int32.le_iff_toInt_le, Int32.le_iff_toInt_le, Int32.lt_iff_toInt_lt, t_0, t_m1]
    omega
  · have e : nI n - 1 = nI (n - 1) := pk_sub (b := 1) (by omega)
    rw [e, Int32.le_iff_toInt_le, Int32.le_iff_toInt_le, Int32.lt_iff_toInt_lt, t_0, nI_toInt (by omega), nI_toInt (by omega)]
    omega
theorem zB_iff {a b : Prop} [Decidable a] [Decidable b] (h : a ↔ b) : zB a = zB b := by
  by_cases g : a
  · rw [zB_t g, zB_t (h.mp g)]
  · rw [zB_f g, zB_f (fun z => g (h.mpr z))]
section ZR2
variable {X : zf_X} {M : zf_M} {Q : Option Value → zf_M → Prop} {q : tQ}
theorem s37n {n : Nat} {f : Int32} (hP : zPk M) (hn : zf_I M 1 1 = nI n) (h : Q (some (.int (zB (vhas n f)))) M) : zC X 37 [.ref 1, .int f] M Q := by
  refine s37 hP ?_
  rw [hn]
  exact h
theorem s36n {w : Nat} {v : Int32} (hP : zPk M) (hw : w < 6) (h : Q (some (.int (zB (zok w v)))) M) : zC X 36 [.int (nI w), .int v] M Q := by
  refine s36 hP ?_
  have e : zfit (nI w) v ↔ zok w v := by
    show (0 ≤ nI w ∧ nI w ≤ 5 ∧ zf_lo (nI w).toNatClampNeg ≤ v ∧ v ≤ zf_hi (nI w).toNatClampNeg) ↔ _
    rw [n_cl (by omega), c_0, c_5, n_le (by decide) (by omega), n_le (by omega) (by decide)]
    exact ⟨fun z => z.2.2, fun z => ⟨by omega, by omega, z⟩⟩
  rw [zB_iff e]
  exact h
theorem s106 {n : Nat} {f : Int32} (hP : zPk M) (hn16 : n ≤ 16) (hn : zf_I M 58 0 = nI n) (h : Q (some (.int (zB (vhas n f)))) M) : zC X 106 [.ref 58, .int f] M Q := by
  rw [c106]
  simp only [w106_0, w106_1, w106_2, w106_3, w106_4, w106_7, w106_8, w106_9, w106_10, w106_13, zk_sI, zk_sJ, zk_sP, zn_sI, zn_sJ, zn_sP, zI_sI, zI_sJ, zI_sP, zJ_sI, zJ_sJ, zJ_sP, zP_sI, zP_sJ, zP_sP, Option.toList_some, Option.toList_none, List.cons_append, List.nil_append, zk_of hP.1, zn_of hP.1, zix, ziN, ne_eq, reduceCtorEq, not_false_eq_true, true_and, and_true, Option.getD_some, Nat.reduceLeDiff, Nat.reduceLT, c_ofNat, zkd58, zp_58_1 hP, zp_58_2 hP, zp_58_6 hP, zp_58_7 hP, zp_58_10 hP, zp_58_11 hP, zp_58_12 hP, zp_58_14 hP, zp_58_15 hP, zp_58_17 hP, zp_58_18 hP, zp_58_19 hP, zp_58_20 hP, zp_58_21 hP, zp_58_22 hP, zp_58_24 hP, zp_58_26 hP, zp_58_29 hP, zp_58_32 hP, zp_58_33 hP, zp_58_34 hP, zp_58_35 hP, zp_58_36 hP, zp_58_37 hP, zp_58_38 hP, zp_58_39 hP, hn]
  refine s103i 0 (nI n - 1) rfl rfl ?_
  simp only [w106_0, w106_1, w106_2, w106_3, w106_4, w106_7, w106_8, w106_9, w106_10, w106_13, zk_sI, zk_sJ, zk_sP, zn_sI, zn_sJ, zn_sP, zI_sI, zI_sJ, zI_sP, zJ_sI, zJ_sJ, zJ_sP, zP_sI, zP_sJ, zP_sP, Option.toList_some, Option.toList_none, List.cons_append, List.nil_append]
  rw [zB_iff (vhas_in hn16)]
  exact ⟨zB_nar, h⟩
theorem s105 {w : Nat} {v : Int32} (hw : w < 6) (h : Q (some (.int (zB (zok w v)))) M) : zC X 105 [.int (nI w), .int v] M Q := by
  rw [c105]
  rcases k6 hw with rfl | rfl | rfl | rfl | rfl | rfl
  · rw [show nI 0 = (0 : Int32) from rfl]
    simp only [w105_0, w105_36, w105_37, w105_38, w105_39, w105_42, w105_45, w105_46, w105_47, w105_48, w105_49, w105_52, w105_55, w105_56, w105_57, w105_58, w105_59, w105_62, w105_65, w105_66, w105_67, w105_68, w105_69, w105_72, w105_75, w105_76, w105_77, w105_78, w105_79, w105_82, w105_85, w105_86, w105_87, w105_88, w105_89, w105_92, w105_95, w105_1_0, zk_sI, zk_sJ, zk_sP, zn_sI, zn_sJ, zn_sP, zI_sI, zI_sJ, zI_sP, zJ_sI, zJ_sJ, zJ_sP, zP_sI, zP_sJ, zP_sP, Option.toList_some, Option.toList_none, List.cons_append, List.nil_append]
    refine s103i 0 2 rfl rfl ?_
    simp only [w105_0, w105_36, w105_37, w105_38, w105_39, w105_42, w105_45, w105_46, w105_47, w105_48, w105_49, w105_52, w105_55, w105_56, w105_57, w105_58, w105_59, w105_62, w105_65, w105_66, w105_67, w105_68, w105_69, w105_72, w105_75, w105_76, w105_77, w105_78, w105_79, w105_82, w105_85, w105_86, w105_87, w105_88, w105_89, w105_92, w105_95, zk_sI, zk_sJ, zk_sP, zn_sI, zn_sJ, zn_sP, zI_sI, zI_sJ, zI_sP, zJ_sI, zJ_sJ, zJ_sP, zP_sI, zP_sJ, zP_sP, Option.toList_some, Option.toList_none, List.cons_append, List.nil_append]
    exact ⟨zB_nar, h⟩
  · rw [show nI 1 = (1 : Int32) from rfl]
    simp only [w105_0, w105_36, w105_37, w105_38, w105_39, w105_42, w105_45, w105_46, w105_47, w105_48, w105_49, w105_52, w105_55, w105_56, w105_57, w105_58, w105_59, w105_62, w105_65, w105_66, w105_67, w105_68, w105_69, w105_72, w105_75, w105_76, w105_77, w105_78, w105_79, w105_82, w105_85, w105_86, w105_87, w105_88, w105_89, w105_92, w105_95, w105_1_1, zk_sI, zk_sJ, zk_sP, zn_sI, zn_sJ, zn_sP, zI_sI, zI_sJ, zI_sP, zJ_sI, zJ_sJ, zJ_sP, zP_sI, zP_sJ, zP_sP, Option.toList_some, Option.toList_none, List.cons_append, List.nil_append]
    refine s103i 1 20 rfl rfl ?_
    simp only [w105_0, w105_36, w105_37, w105_38, w105_39, w105_42, w105_45, w105_46, w105_47, w105_48, w105_49, w105_52, w105_55, w105_56, w105_57, w105_58, w105_59, w105_62, w105_65, w105_66, w105_67, w105_68, w105_69, w105_72, w105_75, w105_76, w105_77, w105_78, w105_79, w105_82, w105_85, w105_86, w105_87, w105_88, w105_89, w105_92, w105_95, zk_sI, zk_sJ, zk_sP, zn_sI, zn_sJ, zn_sP, zI_sI, zI_sJ, zI_sP, zJ_sI, zJ_sJ, zJ_sP, zP_sI, zP_sJ, zP_sP, Option.toList_some, Option.toList_none, List.cons_append, List.nil_append]
    exact ⟨zB_nar, h⟩
  · rw [show nI 2 = (2 : Int32) from rfl]
    simp only [w105_0, w105_36, w105_37, w105_38, w105_39, w105_42, w105_45, w105_46, w105_47, w105_48, w105_49, w105_52, w105_55, w105_56, w105_57, w105_58, w105_59, w105_62, w105_65, w105_66, w105_67, w105_68, w105_69, w105_72, w105_75, w105_76, w105_77, w105_78, w105_79, w105_82, w105_85, w105_86, w105_87, w105_88, w105_89, w105_92, w105_95, w105_1_2, zk_sI, zk_sJ, zk_sP, zn_sI, zn_sJ, zn_sP, zI_sI, zI_sJ, zI_sP, zJ_sI, zJ_sJ, zJ_sP, zP_sI, zP_sJ, zP_sP, Option.toList_some, Option.toList_none, List.cons_append, List.nil_append]
    refine s103i 0 6 rfl rfl ?_
    simp only [w105_0, w105_36, w105_37, w105_38, w105_39, w105_42, w105_45, w105_46, w105_47, w105_48, w105_49, w105_52, w105_55, w105_56, w105_57, w105_58, w105_59, w105_62, w105_65, w105_66, w105_67, w105_68, w105_69, w105_72, w105_75, w105_76, w105_77, w105_78, w105_79, w105_82, w105_85, w105_86, w105_87, w105_88, w105_89, w105_92, w105_95, zk_sI, zk_sJ, zk_sP, zn_sI, zn_sJ, zn_sP, zI_sI, zI_sJ, zI_sP, zJ_sI, zJ_sJ, zJ_sP, zP_sI, zP_sJ, zP_sP, Option.toList_some, Option.toList_none, List.cons_append, List.nil_append]
    exact ⟨zB_nar, h⟩
  · rw [show nI 3 = (3 : Int32) from rfl]
    simp only [w105_0, w105_36, w105_37, w105_38, w105_39, w105_42, w105_45, w105_46, w105_47, w105_48, w105_49, w105_52, w105_55, w105_56, w105_57, w105_58, w105_59, w105_62, w105_65, w105_66, w105_67, w105_68, w105_69, w105_72, w105_75, w105_76, w105_77, w105_78, w105_79, w105_82, w105_85, w105_86, w105_87, w105_88, w105_89, w105_92, w105_95, w105_1_3, zk_sI, zk_sJ, zk_sP, zn_sI, zn_sJ, zn_sP, zI_sI, zI_sJ, zI_sP, zJ_sI, zJ_sJ, zJ_sP, zP_sI, zP_sJ, zP_sP, Option.toList_some, Option.toList_none, List.cons_append, List.nil_append]
    refine s103i 1 9 rfl rfl ?_
    simp only [w105_0, w105_36, w105_37, w105_38, w105_39, w105_42, w105_45, w105_46, w105_47, w105_48, w105_49, w105_52, w105_55, w105_56, w105_57, w105_58, w105_59, w105_62, w105_65, w105_66, w105_67, w105_68, w105_69, w105_72, w105_75, w105_76, w105_77, w105_78, w105_79, w105_82, w105_85, w105_86, w105_87, w105_88, w105_89, w105_92, w105_95, zk_sI, zk_sJ, zk_sP, zn_sI, zn_sJ, zn_sP, zI_sI, zI_sJ, zI_sP, zJ_sI, zJ_sJ, zJ_sP, zP_sI, zP_sJ, zP_sP, Option.toList_some, Option.toList_none, List.cons_append, List.nil_append]
    exact ⟨zB_nar, h⟩
  · rw [show nI 4 = (4 : Int32) from rfl]
    simp only [w105_0, w105_36, w105_37, w105_38, w105_39, w105_42, w105_45, w105_46, w105_47, w105_48, w105_49, w105_52, w105_55, w105_56, w105_57, w105_58, w105_59, w105_62, w105_65, w105_66, w105_67, w105_68, w105_69, w105_72, w105_75, w105_76, w105_77, w105_78, w105_79, w105_82, w105_85, w105_86, w105_87, w105_88, w105_89, w105_92, w105_95, w105_1_4, zk_sI, zk_sJ, zk_sP, zn_sI, zn_sJ, zn_sP, zI_sI, zI_sJ, zI_sP, zJ_sI, zJ_sJ, zJ_sP, zP_sI, zP_sJ, zP_sP, Option.toList_some, Option.toList_none, List.cons_append, List.nil_append]
    refine s103i 0 19 rfl rfl ?_
    simp only [w105_0, w105_36, w105_37, w105_38, w105_39, w105_42, w105_45, w105_46, w105_47, w105_48, w105_49, w105_52, w105_55, w105_56, w105_57, w105_58, w105_59, w105_62, w105_65, w105_66, w105_67, w105_68, w105_69, w105_72, w105_75, w105_76, w105_77, w105_78, w105_79, w105_82, w105_85, w105_86, w105_87, w105_88, w105_89, w105_92, w105_95, zk_sI, zk_sJ, zk_sP, zn_sI, zn_sJ, zn_sP, zI_sI, zI_sJ, zI_sP, zJ_sI, zJ_sJ, zJ_sP, zP_sI, zP_sJ, zP_sP, Option.toList_some, Option.toList_none, List.cons_append, List.nil_append]
    exact ⟨zB_nar, h⟩
  · rw [show nI 5 = (5 : Int32) from rfl]
    simp only [w105_0, w105_36, w105_37, w105_38, w105_39, w105_42, w105_45, w105_46, w105_47, w105_48, w105_49, w105_52, w105_55, w105_56, w105_57, w105_58, w105_59, w105_62, w105_65, w105_66, w105_67, w105_68, w105_69, w105_72, w105_75, w105_76, w105_77, w105_78, w105_79, w105_82, w105_85, w105_86, w105_87, w105_88, w105_89, w105_92, w105_95, w105_1_e (x := 5) (Or.inr (by decide)), zk_sI, zk_sJ, zk_sP, zn_sI, zn_sJ, zn_sP, zI_sI, zI_sJ, zI_sP, zJ_sI, zJ_sJ, zJ_sP, zP_sI, zP_sJ, zP_sP, Option.toList_some, Option.toList_none, List.cons_append, List.nil_append]
    refine s103i 0 9 rfl rfl ?_
    simp only [w105_0, w105_36, w105_37, w105_38, w105_39, w105_42, w105_45, w105_46, w105_47, w105_48, w105_49, w105_52, w105_55, w105_56, w105_57, w105_58, w105_59, w105_62, w105_65, w105_66, w105_67, w105_68, w105_69, w105_72, w105_75, w105_76, w105_77, w105_78, w105_79, w105_82, w105_85, w105_86, w105_87, w105_88, w105_89, w105_92, w105_95, zk_sI, zk_sJ, zk_sP, zn_sI, zn_sJ, zn_sP, zI_sI, zI_sJ, zI_sP, zJ_sI, zJ_sJ, zJ_sP, zP_sI, zP_sJ, zP_sP, Option.toList_some, Option.toList_none, List.cons_append, List.nil_append]
    exact ⟨zB_nar, h⟩
/-- about -/
def aAbout (q : tQ) (f w : Int32) : Int32 := if vhas (qA q).1 f ∧ zin w 0 5 then nI ((qA q).2 (6 * f.toNatClampNeg + w.toNatClampNeg)) else -2
theorem C51 {f w : Int32} (hv : vQ q) (hP : zPk M) (hC : zKC q M) (h : ∀ M1, zUp M M1 → zKC q M1 → Q (some (.int (aAbout q f w))) M1) : zC X 51 [.ref 0, .int f, .int w] M Q := by
  have h0 := h M (zUp_rf hP) hC
  have hA := hC.2.1
  have h16 := hv.1.1
  unfold aAbout at h0
  rw [c51]
  simp only [w51_0, w51_1, w51_4, w51_5, w51_8, w51_11, w51_12, w51_15, w51_16, w51_17, w51_20, w51_22, w51_23, w51_24, w51_27, w51_28, w51_29, w51_32, zk_sI, zk_sJ, zk_sP, zn_sI, zn_sJ, zn_sP, zI_sI, zI_sJ, zI_sP, zJ_sI, zJ_sJ, zJ_sP, zP_sI, zP_sJ, zP_sP, Option.toList_some, Option.toList_none, List.cons_append, List.nil_append, zk_of hP.1, zn_of hP.1, zix, ziN, ne_eq, reduceCtorEq, not_false_eq_true, true_and, and_true, Option.getD_some, Nat.reduceLeDiff, Nat.reduceLT, c_ofNat, zkd0, zp_0_0 hP, zp_0_1 hP, zp_0_2 hP, zp_0_3 hP, zp_0_4 hP, zp_0_5 hP, zp_0_6 hP, zp_0_7 hP, zkd1, zp_1_0 hP]
  refine s37n hP hA.1 ?_
  simp only [w51_0, w51_1, w51_4, w51_5, w51_8, w51_11, w51_12, w51_15, w51_16, w51_17, w51_20, w51_22, w51_23, w51_24, w51_27, w51_28, w51_29, w51_32, zk_sI, zk_sJ, zk_sP, zn_sI, zn_sJ, zn_sP, zI_sI, zI_sJ, zI_sP, zJ_sI, zJ_sJ, zJ_sP, zP_sI, zP_sJ, zP_sP, Option.toList_some, Option.toList_none, List.cons_append, List.nil_append, zk_of hP.1, zn_of hP.1, zix, ziN, ne_eq, reduceCtorEq, not_false_eq_true, true_and, and_true, Option.getD_some, Nat.reduceLeDiff, Nat.reduceLT, c_ofNat, zkd0, zp_0_0 hP, zp_0_1 hP, zp_0_2 hP, zp_0_3 hP, zp_0_4 hP, zp_0_5 hP, zp_0_6 hP, zp_0_7 hP, zkd1, zp_1_0 hP, zB_0]
  refine ⟨fun g => ?_, fun g => ⟨fun g2 => ?_, fun g2 => ⟨fun g3 => ?_, fun g3 => ?_⟩⟩⟩
  · rw [if_neg (fun z => g z.1)] at h0
    exact h0
  · rw [if_neg (fun z => Int32.not_lt.mpr z.2.1 g2)] at h0
    exact h0
  · have g := Classical.not_not.mp g
    have hw : zin w 0 5 := ⟨Int32.not_lt.mp g2, g3⟩
    obtain ⟨f', f1, rfl⟩ := vhas_o g h16
    obtain ⟨w', w1, rfl⟩ := zin_o (n := 5) rfl (by decide) hw
    rw [if_pos ⟨g, hw⟩, n_cl (by omega), n_cl (by omega)] at h0
    refine s38 hP hA.1 h16 f1 (by omega) ?_
    rw [hA.2 _ (by omega)]
    simp only [w51_0, w51_1, w51_4, w51_5, w51_8, w51_11, w51_12, w51_15, w51_16, w51_17, w51_20, w51_22, w51_23, w51_24, w51_27, w51_28, w51_29, w51_32, zk_sI, zk_sJ, zk_sP, zn_sI, zn_sJ, zn_sP, zI_sI, zI_sJ, zI_sP, zJ_sI, zJ_sJ, zJ_sP, zP_sI, zP_sJ, zP_sP, Option.toList_some, Option.toList_none, List.cons_append, List.nil_append]
    exact h0
  · rw [if_neg (fun z => g3 z.2.2)] at h0
    exact h0
theorem M108 {f w : Int32} (hv : vQ q) (hP : zPk M) (hM : zKM q M) (h : ∀ M1, zDn M M1 → zKM q M1 → Q (some (.int (aAbout q f w))) M1) : zC X 108 [.ref 58, .int f, .int w] M Q := by
  have h0 := h M (zF_rf _ _) hM
  have hA := hM.1
  have h16 := hv.1.1
  unfold aAbout at h0
  rw [c108]
  simp only [w108_0, w108_1, w108_2, w108_5, w108_8, w108_9, w108_10, w108_11, w108_14, w108_17, w108_20, w108_21, w108_24, w108_26, w108_27, w108_28, w108_29, w108_30, w108_31, w108_34, w108_36, zk_sI, zk_sJ, zk_sP, zn_sI, zn_sJ, zn_sP, zI_sI, zI_sJ, zI_sP, zJ_sI, zJ_sJ, zJ_sP, zP_sI, zP_sJ, zP_sP, Option.toList_some, Option.toList_none, List.cons_append, List.nil_append, zk_of hP.1, zn_of hP.1, zix, ziN, ne_eq, reduceCtorEq, not_false_eq_true, true_and, and_true, Option.getD_some, Nat.reduceLeDiff, Nat.reduceLT, c_ofNat, zkd58, zp_58_1 hP, zp_58_2 hP, zp_58_6 hP, zp_58_7 hP, zp_58_10 hP, zp_58_11 hP, zp_58_12 hP, zp_58_14 hP, zp_58_15 hP, zp_58_17 hP, zp_58_18 hP, zp_58_19 hP, zp_58_20 hP, zp_58_21 hP, zp_58_22 hP, zp_58_24 hP, zp_58_26 hP, zp_58_29 hP, zp_58_32 hP, zp_58_33 hP, zp_58_34 hP, zp_58_35 hP, zp_58_36 hP, zp_58_37 hP, zp_58_38 hP, zp_58_39 hP]
  refine s106 hP h16 hA.1 ?_
  simp only [w108_0, w108_1, w108_2, w108_5, w108_8, w108_9, w108_10, w108_11, w108_14, w108_17, w108_20, w108_21, w108_24, w108_26, w108_27, w108_28, w108_29, w108_30, w108_31, w108_34, w108_36, zk_sI, zk_sJ, zk_sP, zn_sI, zn_sJ, zn_sP, zI_sI, zI_sJ, zI_sP, zJ_sI, zJ_sJ, zJ_sP, zP_sI, zP_sJ, zP_sP, Option.toList_some, Option.toList_none, List.cons_append, List.nil_append, zk_of hP.1, zn_of hP.1, zix, ziN, ne_eq, reduceCtorEq, not_false_eq_true, true_and, and_true, Option.getD_some, Nat.reduceLeDiff, Nat.reduceLT, c_ofNat, zkd58, zp_58_1 hP, zp_58_2 hP, zp_58_6 hP, zp_58_7 hP, zp_58_10 hP, zp_58_11 hP, zp_58_12 hP, zp_58_14 hP, zp_58_15 hP, zp_58_17 hP, zp_58_18 hP, zp_58_19 hP, zp_58_20 hP, zp_58_21 hP, zp_58_22 hP, zp_58_24 hP, zp_58_26 hP, zp_58_29 hP, zp_58_32 hP, zp_58_33 hP, zp_58_34 hP, zp_58_35 hP, zp_58_36 hP, zp_58_37 hP, zp_58_38 hP, zp_58_39 hP, zB_0]
  refine ⟨fun g => ?_, fun g => ?_⟩
  · rw [if_neg (fun z => g z.1)] at h0
    exact h0
  · have g := Classical.not_not.mp g
    refine s103i 0 5 rfl rfl ?_
    obtain ⟨f', f1, e1⟩ := vhas_o g h16
    simp only [w108_0, w108_1, w108_2, w108_5, w108_8, w108_9, w108_10, w108_11, w108_14, w108_17, w108_20, w108_21, w108_24, w108_26, w108_27, w108_28, w108_29, w108_30, w108_31, w108_34, w108_36, zk_sI, zk_sJ, zk_sP, zn_sI, zn_sJ, zn_sP, zI_sI, zI_sJ, zI_sP, zJ_sI, zJ_sJ, zJ_sP, zP_sI, zP_sJ, zP_sP, Option.toList_some, Option.toList_none, List.cons_append, List.nil_append, zk_of hP.1, zn_of hP.1, zix, ziN, ne_eq, reduceCtorEq, not_false_eq_true, true_and, and_true, Option.getD_some, Nat.reduceLeDiff, Nat.reduceLT, c_ofNat, zkd58, zp_58_1 hP, zp_58_2 hP, zp_58_6 hP, zp_58_7 hP, zp_58_10 hP, zp_58_11 hP, zp_58_12 hP, zp_58_14 hP, zp_58_15 hP, zp_58_17 hP, zp_58_18 hP, zp_58_19 hP, zp_58_20 hP, zp_58_21 hP, zp_58_22 hP, zp_58_24 hP, zp_58_26 hP, zp_58_29 hP, zp_58_32 hP, zp_58_33 hP, zp_58_34 hP, zp_58_35 hP, zp_58_36 hP, zp_58_37 hP, zp_58_38 hP, zp_58_39 hP, zkd59, znd59, zfx59, zB_0]
    refine ⟨fun g2 => ?_, fun g2 => ?_⟩
    · rw [if_neg (fun z => g2 z.2)] at h0
      exact h0
    · have g2 := Classical.not_not.mp g2
      obtain ⟨w', w1, e2⟩ := zin_o (n := 5) rfl (by decide) g2
      rw [if_pos ⟨g, g2⟩, e1, e2, n_cl (by omega), n_cl (by omega)] at h0
      have e : (6 : Int32) * f + w = nI (6 * f' + w') := by rw [e1, e2, n_m6, nI_add]
      rw [e, n_cl (by omega), hA.2 _ (by omega)]
      exact ⟨vp_in_nI (by omega) (by decide), h0⟩
/-- tune -/
abbrev bTune (q : tQ) (f w v : Int32) : Prop := vhas (qA q).1 f ∧ zin w 1 5 ∧ zok w.toNatClampNeg v
theorem bTune_o {q : tQ} {f w v : Int32} (hv : vQ q) (h : bTune q f w v) : ∃ f' w' v', f' < (qA q).1 ∧ 1 ≤ w' ∧ w' ≤ 5 ∧ (loN w' ≤ v' ∧ v' ≤ hiN w') ∧ f = nI f' ∧ w = nI w' ∧ v = nI v' := by
  obtain ⟨h1, h2, h3⟩ := h
  obtain ⟨f', f1, e1⟩ := vhas_o h1 hv.1.1
  obtain ⟨w', w1, e2⟩ := zin_o (n := 5) rfl (by decide) ⟨Int32.le_trans (by decide) h2.1, h2.2⟩
  obtain ⟨v', e3, v1, v2⟩ := zok_n h3
  have w0 : 1 ≤ w' := by
    have := h2.1
    rw [e2, c_1, n_le (by decide) (by omega)] at this
    exact this
  rw [e2, n_cl (by omega)] at v1 v2
  exact ⟨f', w', v', f1, w0, w1, ⟨v1, v2⟩, e1, e2, e3⟩
def aTune (q : tQ) (f w v : Int32) : Int32 := if bTune q f w v then nI ((qA q).2 (6 * f.toNatClampNeg + w.toNatClampNeg)) else -2
def nTune (q : tQ) (f w v : Int32) : tQ := if bTune q f w v then uA q ((qA q).1, zud (qA q).2 (6 * f.toNatClampNeg + w.toNatClampNeg) v.toNatClampNeg) else q
theorem vTune {q : tQ} (f w v : Int32) (hv : vQ q) : vQ (nTune q f w v) := by
  unfold nTune
  split
  next g =>
    obtain ⟨f', w', v', f1, w0, w1, v1, rfl, rfl, rfl⟩ := bTune_o hv g
    have hh := hi_lt w'
    rw [n_cl (by have := hv.1.1; omega), n_cl (by omega), n_cl (by omega)]
    exact ⟨zNv_upd hv.1 (by omega) v1, hv.2⟩
  next => exact hv
/-- an entry more of the roster, in a memory -/
theorem zud_I {M : zf_M} {c j x : Nat} {g : Nat → Nat} {n : Nat} (h : ∀ i, i < n → zf_I M c i = nI (g i)) : ∀ i, i < n → zf_I (zf_sI M c j (nI x)) c i = nI (zud g j x i) := by
  intro i hi
  rw [zI_sI, if_pos rfl]
  unfold zud
  by_cases e : i = j
  · rw [if_pos e, if_pos e]
  · rw [if_neg e, if_neg e]
    exact h i hi
theorem M109 {f w v : Int32} (hv : vQ q) (hP : zPk M) (hM : zKM q M) (h : ∀ M1, zDn M M1 → zKM (nTune q f w v) M1 → Q (some (.int (aTune q f w v))) M1) : zC X 109 [.ref 58, .int f, .int w, .int v] M Q := by
  have hA := hM.1
  have h16 := hv.1.1
  unfold nTune aTune at h
  have h0 : ¬ bTune q f w v → Q (some (.int (-2))) M := by
    intro g
    have := h M (zF_rf _ _)
    rw [if_neg g, if_neg g] at this
    exact this hM
  rw [c109]
  simp only [w109_0, w109_1, w109_2, w109_5, w109_8, w109_9, w109_10, w109_11, w109_14, w109_17, w109_20, w109_21, w109_22, w109_25, w109_28, w109_30, w109_31, w109_32, w109_35, w109_37, w109_38, w109_39, w109_40, w109_41, w109_42, w109_44, w109_45, w109_48, w109_50, w109_51, w109_52, w109_53, w109_54, w109_55, w109_56, w109_58, zk_sI, zk_sJ, zk_sP, zn_sI, zn_sJ, zn_sP, zI_sI, zI_sJ, zI_sP, zJ_sI, zJ_sJ, zJ_sP, zP_sI, zP_sJ, zP_sP, Option.toList_some, Option.toList_none, List.cons_append, List.nil_append, zk_of hP.1, zn_of hP.1, zix, ziN, ne_eq, reduceCtorEq, not_false_eq_true, true_and, and_true, Option.getD_some, Nat.reduceLeDiff, Nat.reduceLT, c_ofNat, zkd58, zp_58_1 hP, zp_58_2 hP, zp_58_6 hP, zp_58_7 hP, zp_58_10 hP, zp_58_11 hP, zp_58_12 hP, zp_58_14 hP, zp_58_15 hP, zp_58_17 hP, zp_58_18 hP, zp_58_19 hP, zp_58_20 hP, zp_58_21 hP, zp_58_22 hP, zp_58_24 hP, zp_58_26 hP, zp_58_29 hP, zp_58_32 hP, zp_58_33 hP, zp_58_34 hP, zp_58_35 hP, zp_58_36 hP, zp_58_37 hP, zp_58_38 hP, zp_58_39 hP]
  refine s106 hP h16 hA.1 ?_
  simp only [w109_0, w109_1, w109_2, w109_5, w109_8, w109_9, w109_10, w109_11, w109_14, w109_17, w109_20, w109_21, w109_22, w109_25, w109_28, w109_30, w109_31, w109_32, w109_35, w109_37, w109_38, w109_39, w109_40, w109_41, w109_42, w109_44, w109_45, w109_48, w109_50, w109_51, w109_52, w109_53, w109_54, w109_55, w109_56, w109_58, zk_sI, zk_sJ, zk_sP, zn_sI, zn_sJ, zn_sP, zI_sI, zI_sJ, zI_sP, zJ_sI, zJ_sJ, zJ_sP, zP_sI, zP_sJ, zP_sP, Option.toList_some, Option.toList_none, List.cons_append, List.nil_append, zk_of hP.1, zn_of hP.1, zix, ziN, ne_eq, reduceCtorEq, not_false_eq_true, true_and, and_true, Option.getD_some, Nat.reduceLeDiff, Nat.reduceLT, c_ofNat, zkd58, zp_58_1 hP, zp_58_2 hP, zp_58_6 hP, zp_58_7 hP, zp_58_10 hP, zp_58_11 hP, zp_58_12 hP, zp_58_14 hP, zp_58_15 hP, zp_58_17 hP, zp_58_18 hP, zp_58_19 hP, zp_58_20 hP, zp_58_21 hP, zp_58_22 hP, zp_58_24 hP, zp_58_26 hP, zp_58_29 hP, zp_58_32 hP, zp_58_33 hP, zp_58_34 hP, zp_58_35 hP, zp_58_36 hP, zp_58_37 hP, zp_58_38 hP, zp_58_39 hP, zB_0]
  refine ⟨fun g => h0 (fun z => g z.1), fun g => ?_⟩
  have g := Classical.not_not.mp g
  refine s103i 1 5 rfl rfl ?_
  obtain ⟨f', f1, e1⟩ := vhas_o g h16
  simp only [w109_0, w109_1, w109_2, w109_5, w109_8, w109_9, w109_10, w109_11, w109_14, w109_17, w109_20, w109_21, w109_22, w109_25, w109_28, w109_30, w109_31, w109_32, w109_35, w109_37, w109_38, w109_39, w109_40, w109_41, w109_42, w109_44, w109_45, w109_48, w109_50, w109_51, w109_52, w109_53, w109_54, w109_55, w109_56, w109_58, zk_sI, zk_sJ, zk_sP, zn_sI, zn_sJ, zn_sP, zI_sI, zI_sJ, zI_sP, zJ_sI, zJ_sJ, zJ_sP, zP_sI, zP_sJ, zP_sP, Option.toList_some, Option.toList_none, List.cons_append, List.nil_append, zk_of hP.1, zn_of hP.1, zix, ziN, ne_eq, reduceCtorEq, not_false_eq_true, true_and, and_true, Option.getD_some, Nat.reduceLeDiff, Nat.reduceLT, c_ofNat, zkd58, zp_58_1 hP, zp_58_2 hP, zp_58_6 hP, zp_58_7 hP, zp_58_10 hP, zp_58_11 hP, zp_58_12 hP, zp_58_14 hP, zp_58_15 hP, zp_58_17 hP, zp_58_18 hP, zp_58_19 hP, zp_58_20 hP, zp_58_21 hP, zp_58_22 hP, zp_58_24 hP, zp_58_26 hP, zp_58_29 hP, zp_58_32 hP, zp_58_33 hP, zp_58_34 hP, zp_58_35 hP, zp_58_36 hP, zp_58_37 hP, zp_58_38 hP, zp_58_39 hP, zkd59, znd59, zfx59, zB_0]
  refine ⟨fun g2 => h0 (fun z => g2 z.2.1), fun g2 => ?_⟩
  have g2 := Classical.not_not.mp g2
  have g20 : zin w 0 5 := ⟨Int32.le_trans (by decide) g2.1, g2.2⟩
  obtain ⟨w', w1, e2⟩ := zin_o (n := 5) rfl (by decide) g20
  rw [e2]
  refine s105 (w := w') (by omega) ?_
  have ew : w.toNatClampNeg = w' := by rw [e2, n_cl (by omega)]
  have ef : f.toNatClampNeg = f' := by rw [e1, n_cl (by omega)]
  have e : (6 : Int32) * f + nI w' = nI (6 * f' + w') := by rw [e1, n_m6, nI_add]
  have hb : bTune q f w v ↔ zok w' v := by
    unfold bTune
    rw [ew]
    exact ⟨fun z => z.2.2, fun z => ⟨g, g2, z⟩⟩
  simp only [w109_0, w109_1, w109_2, w109_5, w109_8, w109_9, w109_10, w109_11, w109_14, w109_17, w109_20, w109_21, w109_22, w109_25, w109_28, w109_30, w109_31, w109_32, w109_35, w109_37, w109_38, w109_39, w109_40, w109_41, w109_42, w109_44, w109_45, w109_48, w109_50, w109_51, w109_52, w109_53, w109_54, w109_55, w109_56, w109_58, zk_sI, zk_sJ, zk_sP, zn_sI, zn_sJ, zn_sP, zI_sI, zI_sJ, zI_sP, zJ_sI, zJ_sJ, zJ_sP, zP_sI, zP_sJ, zP_sP, Option.toList_some, Option.toList_none, List.cons_append, List.nil_append, zk_of hP.1, zn_of hP.1, zix, ziN, ne_eq, reduceCtorEq, not_false_eq_true, true_and, and_true, Option.getD_some, Nat.reduceLeDiff, Nat.reduceLT, c_ofNat, zkd58, zp_58_1 hP, zp_58_2 hP, zp_58_6 hP, zp_58_7 hP, zp_58_10 hP, zp_58_11 hP, zp_58_12 hP, zp_58_14 hP, zp_58_15 hP, zp_58_17 hP, zp_58_18 hP, zp_58_19 hP, zp_58_20 hP, zp_58_21 hP, zp_58_22 hP, zp_58_24 hP, zp_58_26 hP, zp_58_29 hP, zp_58_32 hP, zp_58_33 hP, zp_58_34 hP, zp_58_35 hP, zp_58_36 hP, zp_58_37 hP, zp_58_38 hP, zp_58_39 hP, zkd59, znd59, zfx59, zB_0, e, n_cl (show 6 * f' + w' < 2 ^ 31 by omega), n_in (show 6 * f' + w' < 96 by omega) (show 96 < 2 ^ 31 by decide), hA.2 (6 * f' + w') (by omega)]
  refine ⟨fun g3 => ?_, fun g3 => h0 (fun z => g3 (fun y => y (hb.mp z)))⟩
  have g3 := Classical.not_not.mp g3
  obtain ⟨v', e3, v1, v2⟩ := zok_n g3
  have hh := hi_lt w'
  rw [if_pos (hb.mpr g3), if_pos (hb.mpr g3), ew, ef, e3, n_cl (show v' < 2 ^ 31 by omega)] at h
  rw [e3]
  exact h _ (zF_sI (zF_rf _ _) (by omega)) (zKM_A hM (fun c j _ k => zI_ne (by omega)) ⟨hA.1, zud_I hA.2⟩)
theorem C52 {f w v : Int32} (hv : vQ q) (hP : zPk M) (hC : zKC q M) (h : ∀ M1, zUp M M1 → zKC (nTune q f w v) M1 → Q (some (.int (aTune q f w v))) M1) : zC X 52 [.ref 0, .int f, .int w, .int v] M Q := by
  have hA := hC.2.1
  have h16 := hv.1.1
  unfold nTune aTune at h
  have h0 : ¬ bTune q f w v → Q (some (.int (-2))) M := by
    intro g
    have := h M (zUp_rf hP)
    rw [if_neg g, if_neg g] at this
    exact this hC
  rw [c52]
  simp only [w52_0, w52_1, w52_4, w52_5, w52_8, w52_11, w52_12, w52_15, w52_16, w52_17, w52_20, w52_23, w52_25, w52_26, w52_27, w52_30, w52_31, w52_32, w52_35, w52_37, w52_38, w52_41, w52_42, w52_43, w52_44, w52_47, w52_49, zk_sI, zk_sJ, zk_sP, zn_sI, zn_sJ, zn_sP, zI_sI, zI_sJ, zI_sP, zJ_sI, zJ_sJ, zJ_sP, zP_sI, zP_sJ, zP_sP, Option.toList_some, Option.toList_none, List.cons_append, List.nil_append, zk_of hP.1, zn_of hP.1, zix, ziN, ne_eq, reduceCtorEq, not_false_eq_true, true_and, and_true, Option.getD_some, Nat.reduceLeDiff, Nat.reduceLT, c_ofNat, zkd0, zp_0_0 hP, zp_0_1 hP, zp_0_2 hP, zp_0_3 hP, zp_0_4 hP, zp_0_5 hP, zp_0_6 hP, zp_0_7 hP, zkd1, zp_1_0 hP]
  refine s37n hP hA.1 ?_
  simp only [w52_0, w52_1, w52_4, w52_5, w52_8, w52_11, w52_12, w52_15, w52_16, w52_17, w52_20, w52_23, w52_25, w52_26, w52_27, w52_30, w52_31, w52_32, w52_35, w52_37, w52_38, w52_41, w52_42, w52_43, w52_44, w52_47, w52_49, zk_sI, zk_sJ, zk_sP, zn_sI, zn_sJ, zn_sP, zI_sI, zI_sJ, zI_sP, zJ_sI, zJ_sJ, zJ_sP, zP_sI, zP_sJ, zP_sP, Option.toList_some, Option.toList_none, List.cons_append, List.nil_append, zk_of hP.1, zn_of hP.1, zix, ziN, ne_eq, reduceCtorEq, not_false_eq_true, true_and, and_true, Option.getD_some, Nat.reduceLeDiff, Nat.reduceLT, c_ofNat, zkd0, zp_0_0 hP, zp_0_1 hP, zp_0_2 hP, zp_0_3 hP, zp_0_4 hP, zp_0_5 hP, zp_0_6 hP, zp_0_7 hP, zkd1, zp_1_0 hP, zB_0]
  refine ⟨fun g => h0 (fun z => g z.1), fun g => ⟨fun g2 => h0 (fun z => ?_), fun g2 => ?_⟩⟩
  · rw [g2] at z
    exact absurd z.2.1.1 (by decide)
  · have g := Classical.not_not.mp g
    obtain ⟨f', f1, e1⟩ := vhas_o g h16
    have ef : f.toNatClampNeg = f' := by rw [e1, n_cl (by omega)]
    refine s36 hP ?_
    have hb : bTune q f w v ↔ zfit w v := by
      unfold bTune
      constructor
      · rintro ⟨-, z1, z2⟩
        exact ⟨Int32.le_trans (by decide) z1.1, z1.2, z2.1, z2.2⟩
      · rintro ⟨z1, z2, z3, z4⟩
        refine ⟨g, ⟨?_, z2⟩, z3, z4⟩
        rw [Int32.le_iff_toInt_le, t_0] at z1
        rw [Int32.le_iff_toInt_le, t_1]
        rw [← Int32.toInt_inj, t_0] at g2
        omega
    simp only [w52_0, w52_1, w52_4, w52_5, w52_8, w52_11, w52_12, w52_15, w52_16, w52_17, w52_20, w52_23, w52_25, w52_26, w52_27, w52_30, w52_31, w52_32, w52_35, w52_37, w52_38, w52_41, w52_42, w52_43, w52_44, w52_47, w52_49, zk_sI, zk_sJ, zk_sP, zn_sI, zn_sJ, zn_sP, zI_sI, zI_sJ, zI_sP, zJ_sI, zJ_sJ, zJ_sP, zP_sI, zP_sJ, zP_sP, Option.toList_some, Option.toList_none, List.cons_append, List.nil_append, zk_of hP.1, zn_of hP.1, zix, ziN, ne_eq, reduceCtorEq, not_false_eq_true, true_and, and_true, Option.getD_some, Nat.reduceLeDiff, Nat.reduceLT, c_ofNat, zkd0, zp_0_0 hP, zp_0_1 hP, zp_0_2 hP, zp_0_3 hP, zp_0_4 hP, zp_0_5 hP, zp_0_6 hP, zp_0_7 hP, zkd1, zp_1_0 hP, zB_0]
    refine ⟨fun g3 => ?_, fun g3 => h0 (fun z => ?_)⟩
    · have g3 := Classical.not_not.mp g3
      have hbt := hb.mpr g3
      obtain ⟨f2, w', v', f3, w0, w1, v1, e4, e2, e3⟩ := bTune_o hv hbt
      have hh := hi_lt w'
      rw [if_pos hbt, if_pos hbt, e1, e2, e3, n_cl (show f' < 2 ^ 31 by omega), n_cl (show w' < 2 ^ 31 by omega), n_cl (show v' < 2 ^ 31 by omega)] at h
      rw [e1, e2, e3]
      refine s38 hP hA.1 h16 f1 (by omega) ?_
      rw [hA.2 _ (by omega)]
      simp only [w52_0, w52_1, w52_4, w52_5, w52_8, w52_11, w52_12, w52_15, w52_16, w52_17, w52_20, w52_23, w52_25, w52_26, w52_27, w52_30, w52_31, w52_32, w52_35, w52_37, w52_38, w52_41, w52_42, w52_43, w52_44, w52_47, w52_49, zk_sI, zk_sJ, zk_sP, zn_sI, zn_sJ, zn_sP, zI_sI, zI_sJ, zI_sP, zJ_sI, zJ_sJ, zJ_sP, zP_sI, zP_sJ, zP_sP, Option.toList_some, Option.toList_none, List.cons_append, List.nil_append, zk_of hP.1, zn_of hP.1, zix, ziN, ne_eq, reduceCtorEq, not_false_eq_true, true_and, and_true, Option.getD_some, Nat.reduceLeDiff, Nat.reduceLT, c_ofNat, zkd0, zp_0_0 hP, zp_0_1 hP, zp_0_2 hP, zp_0_3 hP, zp_0_4 hP, zp_0_5 hP, zp_0_6 hP, zp_0_7 hP, zkd1, zp_1_0 hP]
      refine s39 hP hA.1 h16 f1 (by omega) ?_
      simp only [w52_0, w52_1, w52_4, w52_5, w52_8, w52_11, w52_12, w52_15, w52_16, w52_17, w52_20, w52_23, w52_25, w52_26, w52_27, w52_30, w52_31, w52_32, w52_35, w52_37, w52_38, w52_41, w52_42, w52_43, w52_44, w52_47, w52_49, zk_sI, zk_sJ, zk_sP, zn_sI, zn_sJ, zn_sP, zI_sI, zI_sJ, zI_sP, zJ_sI, zJ_sJ, zJ_sP, zP_sI, zP_sJ, zP_sP, Option.toList_some, Option.toList_none, List.cons_append, List.nil_append]
      have hF : zF (fun c => c = 2) M (zf_sI M 2 (6 * f' + w') (nI v')) := zF_sI (zF_rf _ _) rfl
      exact h _ (zUp_F hP hF (fun c hc => by omega)) (zKC_A hC (zLO_F hC.1 hF (fun c x y => by omega)) (fun c j _ k => zI_ne (by omega)) ⟨hA.1, zud_I hA.2⟩)
    · exact g3 (fun y => y (hb.mp z))
end ZR2
