/-! ===== Odds: a slot ===== -/
theorem zPk_12 {M : zf_M} {f : Nat} {q : Option Nat} (h : zPk M) (hf : f = 5 ∨ f = 6) : zPk (zf_sP M 12 f q) := by
  refine ⟨h.1, fun e he => ?_⟩
  have key : ∀ e ∈ zPL, e.1 = 12 → ¬ (e.2.1 = 5 ∨ e.2.1 = 6) := by decide +kernel
  rw [zP_sP]
  by_cases h1 : e.1 = 12
  · rw [if_pos h1, if_neg (fun z => key e he h1 (by rw [z]; exact hf))]
    exact h.2 e he
  · rw [if_neg h1]
    exact h.2 e he
theorem zLI_F {S : Nat → Prop} {M M1 : zf_M} {b n : Nat} (h : zLI M b n) (hF : zF S M M1) (hS : ∀ c, b ≤ c → c ≤ b + 4 → ¬ S c) : zLI M1 b n := by
  obtain ⟨I1, I2, I3, I4, I5⟩ := h
  have e : ∀ c, b ≤ c → c ≤ b + 4 → ∀ j, zf_I M1 c j = zf_I M c j ∧ zf_J M1 c j = zf_J M c j := fun c x y j => hF.2.1 c (hS c x y) j
  refine ⟨by rw [(e b (by omega) (by omega) 2).1]; exact I1, I2, fun i j hi hj h1 => ?_, fun i hi => ?_, fun p hp => ?_⟩
  · rw [(e (b + 1) (by omega) (by omega) i).2, (e (b + 1) (by omega) (by omega) j).2] at h1
    exact I3 i j hi hj h1
  · rw [(e (b + 1) (by omega) (by omega) i).2, (e (b + 3) (by omega) (by omega) i).1]
    obtain ⟨d, d1, d2, d3, d4⟩ := I4 i hi
    refine ⟨d, d1, d2, ?_, fun x hx => ?_⟩
    · rw [(e (b + 4) (by omega) (by omega) _).1]
      exact d3
    · rw [(e (b + 4) (by omega) (by omega) _).1]
      exact d4 x hx
  · rw [(e (b + 4) (by omega) (by omega) p).1]
    rcases I5 p hp with g | ⟨i, i1, i2, i3⟩
    · exact Or.inl g
    · refine Or.inr ⟨i, i1, i2, ?_⟩
      rw [(e (b + 3) (by omega) (by omega) i).1]
      exact i3
theorem zLR_F {S : Nat → Prop} {M M1 : zf_M} {b : Nat} {K : List (Nat × Nat)} (h : zLR M b K) (hF : zF S M M1) (hS : ∀ c, b ≤ c → c ≤ b + 4 → ¬ S c) : zLR M1 b K := by
  refine ⟨zLI_F h.1 hF hS, fun i p hp => ?_⟩
  rw [(hF.2.1 (b + 1) (hS _ (by omega) (by omega)) i).2, (hF.2.1 (b + 2) (hS _ (by omega) (by omega)) i).2]
  exact h.2 i p hp
theorem zAM_F {S : Nat → Prop} {M M1 : zf_M} {A : zA} (h : zAM M A) (hF : zF S M M1) (hS : ∀ c, 13 ≤ c → c ≤ 15 → ¬ S c) : zAM M1 A := by
  obtain ⟨A1, A2, A3⟩ := h
  refine ⟨fun i hi => ?_, fun i hi => ?_, fun i hi => ?_⟩
  · rw [(hF.2.1 13 (hS 13 (by omega) (by omega)) i).2]
    exact A1 i hi
  · rw [(hF.2.1 14 (hS 14 (by omega) (by omega)) i).2]
    exact A2 i hi
  · rw [(hF.2.1 15 (hS 15 (by omega) (by omega)) i).2]
    exact A3 i hi
section ZSl
variable {X : zf_X} {M : zf_M} {Q : Option Value → zf_M → Prop} {p : zPm} {A : zA} {K : List (Nat × Nat)} {N w r bh a b k : Nat} {la : Bool} {li : Int32}
/-- pass, as the fight has it -/
theorem s33p (hP : zPk M) (hp : zPo p) (hFP : zFP p M) (hA : zAM M A) (hN : N < 64 ^ 6) (hr : r < 7) (hb : zf_J M 12 7 = lN bh) (hw : w < 2 ^ 63) (h6 : zf_P M 12 6 = some b) (hb2 : b = 16 ∨ b = 21) (hK : zLR M b K) (hla : li ≠ 0 ↔ la = true)
    (h1 : (zps p bh r la (K, A) N w).1.length ≤ 400 → ∀ M1, zF (fun c => 13 ≤ c ∧ c ≤ 15 ∨ b ≤ c ∧ c ≤ b + 4) M M1 → zLR M1 b (zps p bh r la (K, A) N w).1 → zAM M1 (zps p bh r la (K, A) N w).2 → Q (some (.int 1)) M1)
    (h0 : 400 < (zps p bh r la (K, A) N w).1.length → Q (some (.int 0)) M) : zC X 33 [.ref 12, .ref 4, .long (lN N), .long (lN w), .int (nI r), .int li] M Q := by
  have hl := hK.1.2.1
  have hsub : ∀ c : Nat, (c = 13 ∨ c = 14 ∨ c = 15) → (13 ≤ c ∧ c ≤ 15 ∨ b ≤ c ∧ c ≤ b + 4) := fun c hc => by omega
  refine s33 hP hA hN ⟨hFP.1, hp.1⟩ (fun i hi => ⟨hFP.2.1 i hi, hp.2.1 i hi⟩) hp.2.2.1 hr hb hw h6 hb2 hK (fun g => ?_) (fun g1 g2 M1 g3 g4 => ?_) (fun g1 g2 g3 M1 g4 g5 => ?_) (fun g1 g2 g3 g4 M1 g5 g6 => ?_) (fun g1 g2 g3 g4 => ?_)
  · have e : zps p bh r la (K, A) N w = (K, A) := if_pos g
    rw [e] at h1
    exact h1 hl M (zF_rf _ _) hK hA
  · have e : zps p bh r la (K, A) N w = (K, ztl (po p) (pn p) A N (w * bh) (zwe N) r) := by rw [zps, if_neg g1, if_pos g2]
    rw [e] at h1
    exact h1 hl M1 (zF_mo g3 hsub) (zLR_F hK g3 (fun c x y => by omega)) g4
  · have e : zps p bh r la (K, A) N w = (K, ztl (po p) (pn p) A N (w * bh) 2 r) := by rw [zps, if_neg g1, if_neg (fun z => z g2), if_pos (hla.mp g3)]
    rw [e] at h1
    exact h1 hl M1 (zF_mo g4 hsub) (zLR_F hK g4 (fun c x y => by omega)) g5
  · have e : zps p bh r la (K, A) N w = (zins K N w, A) := by rw [zps, if_neg g1, if_neg (fun z => z g2), if_neg (fun z => hla.mpr z g3)]
    rw [e] at h1
    exact h1 g4 M1 (zF_mo g5 (fun c hc => Or.inr hc)) g6 (zAM_F hA g5 (fun c x y => by omega))
  · have e : zps p bh r la (K, A) N w = (zins K N w, A) := by rw [zps, if_neg g1, if_neg (fun z => z g2), if_neg (fun z => hla.mpr z g3)]
    rw [e] at h0
    exact h0 g4
/-- reckonSlot -/
theorem s32 (hP : zPk M) (hp : zPo p) (hFP : zFP p M) (hA : zAM M A) (ki : ∃ i, i < pn p ∧ po p i = k) (hr : r < 7) (hb : zf_J M 12 7 = lN bh) (hab : a = 16 ∧ b = 21 ∨ a = 21 ∧ b = 16) (h5 : zf_P M 12 5 = some a) (h6 : zf_P M 12 6 = some b) (hK : zLR M a K) (hV : zLV p K) (hn : ∃ n, zLI M b n) (hw : 6 * zws K < 2 ^ 63) (hla : li ≠ 0 ↔ la = true)
    (h1 : (zslot p bh r k la ([], A) K).1.length ≤ 400 → ∀ M1, zF (fun c => 13 ≤ c ∧ c ≤ 15 ∨ b ≤ c ∧ c ≤ b + 4) M M1 → zLR M1 b (zslot p bh r k la ([], A) K).1 → zAM M1 (zslot p bh r k la ([], A) K).2 → Q (some (.int 1)) (zf_sP (zf_sP M1 12 5 (some b)) 12 6 (some a)))
    (h0 : 400 < (zslot p bh r k la ([], A) K).1.length → ∀ M1, zF (fun c => 13 ≤ c ∧ c ≤ 15 ∨ b ≤ c ∧ c ≤ b + 4) M M1 → (∃ n, zLI M1 b n) → Q (some (.int 0)) (zf_sP (zf_sP M1 12 5 (some b)) 12 6 (some a))) : zC X 32 [.ref 12, .ref 4, .int (nI k), .int (nI r), .int li] M Q := by
  rw [c32]
  have hk : k < 6 := by
    obtain ⟨i, i1, i2⟩ := ki
    rw [← i2]
    exact hp.2.1 i i1
  have hka : zkd a = 3 := by rcases hab with ⟨rfl, -⟩ | ⟨rfl, -⟩ <;> rfl
  have hkb : zkd b = 3 := by rcases hab with ⟨-, rfl⟩ | ⟨-, rfl⟩ <;> rfl
  have hb2 : b = 16 ∨ b = 21 := by omega
  have ha2 : a = 16 ∨ a = 21 := by omega
  obtain ⟨n, hn⟩ := hn
  have hC : ∀ (M1 : zf_M), zF (fun c => 13 ≤ c ∧ c ≤ 15 ∨ b ≤ c ∧ c ≤ b + 4) M M1 → zPk M1 ∧ zFP p M1 ∧ zf_P M1 12 5 = some a ∧ zf_P M1 12 6 = some b ∧ zLR M1 a K ∧ zf_J M1 12 7 = lN bh ∧ zLy M1 a ∧ zLy M1 b := by
    intro M1 hF
    have hP1 := zPk_F hP hF
    exact ⟨hP1, zFP_F hFP hF (fun c x y => by omega), by rw [hF.2.2]; exact h5, by rw [hF.2.2]; exact h6, zLR_F hK hF (fun c x y => by omega), by rw [(hF.2.1 12 (by omega) 7).2]; exact hb, zLy_of hP1 ha2, zLy_of hP1 hb2⟩
  have stop : ∀ (i : Nat) (M1 : zf_M) (l7 l8 l9 l10 l11 : Slot), zF (fun c => 13 ≤ c ∧ c ≤ 15 ∨ b ≤ c ∧ c ≤ b + 4) M M1 → (∃ n, zLI M1 b n) → 400 < (zslot p bh r k la ([], A) K).1.length → zW X 32 13 [.val (.ref 12), .val (.ref 4), .val (.int (nI k)), .val (.int (nI r)), .val (.int li), .val (.int 0), .val (.int (nI i)), l7, l8, l9, l10, l11] [] M1 Q := by
    intro i M1 l7 l8 l9 l10 l11 hF hI hl
    obtain ⟨hP1, hF1, e5, e6, hK1, eb, La, Lb⟩ := hC M1 hF
    obtain ⟨L0, L1, L2, L3, L4, L5, L6, L7, L8, L9⟩ := La
    rw [w32_13]
    simp only [w32_0, w32_1, w32_4, w32_7, w32_8, w32_10, w32_11, w32_15, w32_16, w32_19, w32_22, w32_25, w32_27, w32_30, w32_31, w32_34, w32_37, w32_39, w32_40, w32_42, w32_43, w32_46, w32_49, w32_51, w32_52, w32_54, w32_55, w32_57, w32_58, w32_59, w32_62, w32_65, w32_66, w32_67, w32_69, w32_72, w32_74, w32_75, w32_76, w32_78, w32_81, w32_83, w32_86, w32_87, w32_89, w32_90, w32_93, w32_96, w32_97, w32_98, w32_99, w32_101, w32_102, w32_105, w32_108, w32_110, w32_111, w32_112, w32_114, w32_117, w32_119, w32_122, w32_123, w32_124, w32_127, w32_129, w32_130, w32_131, w32_133, w32_135, w32_137, w32_138, w32_139, w32_141, w32_142, w32_143, w32_145, w32_148, w32_151, w32_152, w32_153, w32_154, w32_156, w32_157, w32_160, w32_162, w32_163, w32_165, w32_166, w32_167, w32_169, w32_172, w32_175, w32_176, w32_179, w32_180, w32_182, w32_185, w32_188, w32_189, w32_192, w32_194, w32_195, w32_196, w32_199, w32_202, w32_203, w32_205, w32_208, w32_210, zk_sI, zk_sJ, zk_sP, zn_sI, zn_sJ, zn_sP, zI_sI, zI_sJ, zI_sP, zJ_sI, zJ_sJ, zJ_sP, zP_sI, zP_sJ, zP_sP, Option.toList_some, Option.toList_none, List.cons_append, List.nil_append, zk_of hP1.1, zn_of hP1.1, zix, ziN, ne_eq, reduceCtorEq, not_false_eq_true, true_and, and_true, Option.getD_some, Nat.reduceLeDiff, Nat.reduceLT, c_ofNat, zkd4, zp_4_0 hP1, zp_4_1 hP1, zp_4_2 hP1, zp_4_3 hP1, zp_4_4 hP1, zp_4_5 hP1, zp_4_6 hP1, zkd12, zp_12_2 hP1, zp_12_3 hP1, zp_12_4 hP1, e5, e6, hka, hkb]
    have hQ := h0 hl M1 hF hI
    exact ⟨fun _ => ⟨rfl, hQ⟩, fun _ => ⟨fun _ => ⟨rfl, hQ⟩, fun z => absurd trivial z⟩⟩
  have hna : znd 11 (a + 1) = 400 ∧ znd 11 (a + 2) = 400 := by rcases hab with ⟨rfl, -⟩ | ⟨rfl, -⟩ <;> exact ⟨rfl, rfl⟩
  have loop : ∀ (L : List (Nat × Nat)) (i : Nat) (S : List (Nat × Nat) × zA) (M1 : zf_M) (l7 l8 l9 l10 l11 : Slot), K.drop i = L → i ≤ K.length → zF (fun c => 13 ≤ c ∧ c ≤ 15 ∨ b ≤ c ∧ c ≤ b + 4) M M1 → zLR M1 b S.1 → zAM M1 S.2 → zslot p bh r k la S L = zslot p bh r k la ([], A) K → zW X 32 13 [.val (.ref 12), .val (.ref 4), .val (.int (nI k)), .val (.int (nI r)), .val (.int li), .val (.int 1), .val (.int (nI i)), l7, l8, l9, l10, l11] [] M1 Q := by
    intro L
    induction L with
    | nil =>
      intro i S M1 l7 l8 l9 l10 l11 hd hi hF hS hA1 hz
      obtain ⟨hP1, hF1, e5, e6, hK1, eb, La, Lb⟩ := hC M1 hF
      have hil : i = K.length := by
        have := List.drop_eq_nil_iff.mp hd
        omega
      rw [zslot] at hz
      rw [w32_13]
      simp only [w32_0, w32_1, w32_4, w32_7, w32_8, w32_10, w32_11, w32_15, w32_16, w32_19, w32_22, w32_25, w32_27, w32_30, w32_31, w32_34, w32_37, w32_39, w32_40, w32_42, w32_43, w32_46, w32_49, w32_51, w32_52, w32_54, w32_55, w32_57, w32_58, w32_59, w32_62, w32_65, w32_66, w32_67, w32_69, w32_72, w32_74, w32_75, w32_76, w32_78, w32_81, w32_83, w32_86, w32_87, w32_89, w32_90, w32_93, w32_96, w32_97, w32_98, w32_99, w32_101, w32_102, w32_105, w32_108, w32_110, w32_111, w32_112, w32_114, w32_117, w32_119, w32_122, w32_123, w32_124, w32_127, w32_129, w32_130, w32_131, w32_133, w32_135, w32_137, w32_138, w32_139, w32_141, w32_142, w32_143, w32_145, w32_148, w32_151, w32_152, w32_153, w32_154, w32_156, w32_157, w32_160, w32_162, w32_163, w32_165, w32_166, w32_167, w32_169, w32_172, w32_175, w32_176, w32_179, w32_180, w32_182, w32_185, w32_188, w32_189, w32_192, w32_194, w32_195, w32_196, w32_199, w32_202, w32_203, w32_205, w32_208, w32_210, zk_sI, zk_sJ, zk_sP, zn_sI, zn_sJ, zn_sP, zI_sI, zI_sJ, zI_sP, zJ_sI, zJ_sJ, zJ_sP, zP_sI, zP_sJ, zP_sP, Option.toList_some, Option.toList_none, List.cons_append, List.nil_append, zk_of hP1.1, zn_of hP1.1, zix, ziN, ne_eq, reduceCtorEq, not_false_eq_true, true_and, and_true, Option.getD_some, Nat.reduceLeDiff, Nat.reduceLT, c_ofNat, zkd4, zp_4_0 hP1, zp_4_1 hP1, zp_4_2 hP1, zp_4_3 hP1, zp_4_4 hP1, zp_4_5 hP1, zp_4_6 hP1, zkd12, zp_12_2 hP1, zp_12_3 hP1, zp_12_4 hP1, e5, e6, hka, hkb, hK1.1.1, hil, Int32.le_refl]
      rw [hz] at hS hA1
      exact ⟨fun _ => ⟨rfl, h1 hS.1.2.1 M1 hF hS hA1⟩, fun z => absurd trivial z⟩
    | cons q t ih =>
      intro i S M1 l7 l8 l9 l10 l11 hd hi hF hS hA1 hz
      obtain ⟨hP1, hF1, e5, e6, hK1, eb, La, Lb⟩ := hC M1 hF
      obtain ⟨L0, L1, L2, L3, L4, L5, L6, L7, L8, L9⟩ := La
      have hil : i < K.length := by
        rcases Nat.lt_or_ge i K.length with g | g
        · exact g
        · rw [List.drop_eq_nil_of_le g] at hd
          cases hd
      have hq : K[i]? = some q := by
        have := List.getElem?_drop (xs := K) (i := i) (j := 0)
        rw [hd] at this
        simpa using this.symm
      have hdt : K.drop (i + 1) = t := by
        rw [← List.drop_drop, hd]
        rfl
      obtain ⟨j1, j2, j3⟩ := hK1.2 i q hq
      have hqw := zws_mem (List.mem_of_getElem? hq)
      have hqV := hV q (List.mem_of_getElem? hq)
      have hl4 := hK1.1.2.1
      rw [zslot] at hz
      have f1 := zfx_lt (X := X) (a := a + 1) (by omega)
      have f2 := zfx_lt (X := X) (a := a + 2) (by omega)
      rw [w32_13]
      simp only [w32_0, w32_1, w32_4, w32_7, w32_8, w32_10, w32_11, w32_15, w32_16, w32_19, w32_22, w32_25, w32_27, w32_30, w32_31, w32_34, w32_37, w32_39, w32_40, w32_42, w32_43, w32_46, w32_49, w32_51, w32_52, w32_54, w32_55, w32_57, w32_58, w32_59, w32_62, w32_65, w32_66, w32_67, w32_69, w32_72, w32_74, w32_75, w32_76, w32_78, w32_81, w32_83, w32_86, w32_87, w32_89, w32_90, w32_93, w32_96, w32_97, w32_98, w32_99, w32_101, w32_102, w32_105, w32_108, w32_110, w32_111, w32_112, w32_114, w32_117, w32_119, w32_122, w32_123, w32_124, w32_127, w32_129, w32_130, w32_131, w32_133, w32_135, w32_137, w32_138, w32_139, w32_141, w32_142, w32_143, w32_145, w32_148, w32_151, w32_152, w32_153, w32_154, w32_156, w32_157, w32_160, w32_162, w32_163, w32_165, w32_166, w32_167, w32_169, w32_172, w32_175, w32_176, w32_179, w32_180, w32_182, w32_185, w32_188, w32_189, w32_192, w32_194, w32_195, w32_196, w32_199, w32_202, w32_203, w32_205, w32_208, w32_210, zk_sI, zk_sJ, zk_sP, zn_sI, zn_sJ, zn_sP, zI_sI, zI_sJ, zI_sP, zJ_sI, zJ_sJ, zJ_sP, zP_sI, zP_sJ, zP_sP, Option.toList_some, Option.toList_none, List.cons_append, List.nil_append, zk_of hP1.1, zn_of hP1.1, zix, ziN, ne_eq, reduceCtorEq, not_false_eq_true, true_and, and_true, Option.getD_some, Nat.reduceLeDiff, Nat.reduceLT, c_ofNat, zkd4, zp_4_0 hP1, zp_4_1 hP1, zp_4_2 hP1, zp_4_3 hP1, zp_4_4 hP1, zp_4_5 hP1, zp_4_6 hP1, zkd12, zp_12_2 hP1, zp_12_3 hP1, zp_12_4 hP1, e5, e6, hka, hkb, hK1.1.1, L1, L2, L3, L4, L5, L6, L7, L8, L9, f1, f2, j1, j2, n_cl (show i < 2 ^ 31 by omega), n_in (show i < 400 by omega) (show 400 < 2 ^ 31 by decide)]
      rw [n_le (by omega) (by omega), hna.1, hna.2, n_in (show i < 400 by omega) (by decide)]
      refine ⟨fun z => by omega, fun _ => ⟨fun z => absurd z (by decide), fun _ => ⟨trivial, trivial, ?_⟩⟩⟩
      obtain ⟨x, x1, x2⟩ := ki
      obtain ⟨y1, y2, y3, y4, y5⟩ := hF1.2.2.1 x x1
      obtain ⟨v1, v2, v3, v4, v5, v6, v7⟩ := hp.2.2.2.1 x x1
      rw [x2] at y1 y2 y3 y4 y5 v1 v2 v3 v4 v5 v6 v7
      have hla1 := hF1.2.2.2.2.1
      have hla2 := hF1.2.2.2.2.2
      have hdl := dg_lt q.1 k
      have long : ∀ S2 : List (Nat × Nat) × zA, zslot p bh r k la S2 t = zslot p bh r k la ([], A) K → 400 < S2.1.length → 400 < (zslot p bh r k la ([], A) K).1.length := by
        intro S2 e2 g
        rw [← e2]
        exact Nat.lt_of_lt_of_le g (zslot_len p bh r k la t S2)
      have e6l : (6 : Int64) * lN q.2 = lN (6 * q.2) := by
        have e : (6 : Int64) = lN 6 := rfl
        rw [e, lN_mul]
      have hw6 : 6 * q.2 < 2 ^ 63 := by omega
      refine s13 hP1 j3 hk ?_
      simp only [w32_0, w32_1, w32_4, w32_7, w32_8, w32_10, w32_11, w32_15, w32_16, w32_19, w32_22, w32_25, w32_27, w32_30, w32_31, w32_34, w32_37, w32_39, w32_40, w32_42, w32_43, w32_46, w32_49, w32_51, w32_52, w32_54, w32_55, w32_57, w32_58, w32_59, w32_62, w32_65, w32_66, w32_67, w32_69, w32_72, w32_74, w32_75, w32_76, w32_78, w32_81, w32_83, w32_86, w32_87, w32_89, w32_90, w32_93, w32_96, w32_97, w32_98, w32_99, w32_101, w32_102, w32_105, w32_108, w32_110, w32_111, w32_112, w32_114, w32_117, w32_119, w32_122, w32_123, w32_124, w32_127, w32_129, w32_130, w32_131, w32_133, w32_135, w32_137, w32_138, w32_139, w32_141, w32_142, w32_143, w32_145, w32_148, w32_151, w32_152, w32_153, w32_154, w32_156, w32_157, w32_160, w32_162, w32_163, w32_165, w32_166, w32_167, w32_169, w32_172, w32_175, w32_176, w32_179, w32_180, w32_182, w32_185, w32_188, w32_189, w32_192, w32_194, w32_195, w32_196, w32_199, w32_202, w32_203, w32_205, w32_208, w32_210, zk_sI, zk_sJ, zk_sP, zn_sI, zn_sJ, zn_sP, zI_sI, zI_sJ, zI_sP, zJ_sI, zJ_sJ, zJ_sP, zP_sI, zP_sJ, zP_sP, Option.toList_some, Option.toList_none, List.cons_append, List.nil_append, zk_of hP1.1, zn_of hP1.1, zix, ziN, ne_eq, reduceCtorEq, not_false_eq_true, true_and, and_true, Option.getD_some, Nat.reduceLeDiff, Nat.reduceLT, c_ofNat, zkd4, zp_4_0 hP1, zp_4_1 hP1, zp_4_2 hP1, zp_4_3 hP1, zp_4_4 hP1, zp_4_5 hP1, zp_4_6 hP1, zkd12, zp_12_2 hP1, zp_12_3 hP1, zp_12_4 hP1, zB_0, Decidable.not_not, hla2]
      refine ⟨fun hc => ?_, fun hc => ?_⟩
      · refine s14 hP1 j3 hk ?_
        simp only [w32_0, w32_1, w32_4, w32_7, w32_8, w32_10, w32_11, w32_15, w32_16, w32_19, w32_22, w32_25, w32_27, w32_30, w32_31, w32_34, w32_37, w32_39, w32_40, w32_42, w32_43, w32_46, w32_49, w32_51, w32_52, w32_54, w32_55, w32_57, w32_58, w32_59, w32_62, w32_65, w32_66, w32_67, w32_69, w32_72, w32_74, w32_75, w32_76, w32_78, w32_81, w32_83, w32_86, w32_87, w32_89, w32_90, w32_93, w32_96, w32_97, w32_98, w32_99, w32_101, w32_102, w32_105, w32_108, w32_110, w32_111, w32_112, w32_114, w32_117, w32_119, w32_122, w32_123, w32_124, w32_127, w32_129, w32_130, w32_131, w32_133, w32_135, w32_137, w32_138, w32_139, w32_141, w32_142, w32_143, w32_145, w32_148, w32_151, w32_152, w32_153, w32_154, w32_156, w32_157, w32_160, w32_162, w32_163, w32_165, w32_166, w32_167, w32_169, w32_172, w32_175, w32_176, w32_179, w32_180, w32_182, w32_185, w32_188, w32_189, w32_192, w32_194, w32_195, w32_196, w32_199, w32_202, w32_203, w32_205, w32_208, w32_210, zk_sI, zk_sJ, zk_sP, zn_sI, zn_sJ, zn_sP, zI_sI, zI_sJ, zI_sP, zJ_sI, zJ_sJ, zJ_sP, zP_sI, zP_sJ, zP_sP, Option.toList_some, Option.toList_none, List.cons_append, List.nil_append, zk_of hP1.1, zn_of hP1.1, zix, ziN, ne_eq, reduceCtorEq, not_false_eq_true, true_and, and_true, Option.getD_some, Nat.reduceLeDiff, Nat.reduceLT, c_ofNat, zkd4, zp_4_0 hP1, zp_4_1 hP1, zp_4_2 hP1, zp_4_3 hP1, zp_4_4 hP1, zp_4_5 hP1, zp_4_6 hP1, zkd12, zp_12_2 hP1, zp_12_3 hP1, zp_12_4 hP1, zB_0, Decidable.not_not, y5]
        rw [n_le (by omega) (by omega)]
        refine ⟨fun hf => ?_, fun hf => ?_⟩
        · have ho : zouts p r k q.1 = [(q.1, 6 - ph p k), (zhit (nI (pk p k)) (pa p) (pf p k) (pl p) q.1 k, ph p k)] := by
            rw [zouts, if_neg (fun z => z hc), if_neg hf]
          rw [ho, zst1, zst1, zst1] at hz
          refine s16 hP1 hk ?_
          have eh : (6 : Int32) - nI (ph p k) = nI (6 - ph p k) := by
            rw [c_6]
            exact pk_sub (by omega)
          simp only [w32_0, w32_1, w32_4, w32_7, w32_8, w32_10, w32_11, w32_15, w32_16, w32_19, w32_22, w32_25, w32_27, w32_30, w32_31, w32_34, w32_37, w32_39, w32_40, w32_42, w32_43, w32_46, w32_49, w32_51, w32_52, w32_54, w32_55, w32_57, w32_58, w32_59, w32_62, w32_65, w32_66, w32_67, w32_69, w32_72, w32_74, w32_75, w32_76, w32_78, w32_81, w32_83, w32_86, w32_87, w32_89, w32_90, w32_93, w32_96, w32_97, w32_98, w32_99, w32_101, w32_102, w32_105, w32_108, w32_110, w32_111, w32_112, w32_114, w32_117, w32_119, w32_122, w32_123, w32_124, w32_127, w32_129, w32_130, w32_131, w32_133, w32_135, w32_137, w32_138, w32_139, w32_141, w32_142, w32_143, w32_145, w32_148, w32_151, w32_152, w32_153, w32_154, w32_156, w32_157, w32_160, w32_162, w32_163, w32_165, w32_166, w32_167, w32_169, w32_172, w32_175, w32_176, w32_179, w32_180, w32_182, w32_185, w32_188, w32_189, w32_192, w32_194, w32_195, w32_196, w32_199, w32_202, w32_203, w32_205, w32_208, w32_210, zk_sI, zk_sJ, zk_sP, zn_sI, zn_sJ, zn_sP, zI_sI, zI_sJ, zI_sP, zJ_sI, zJ_sJ, zJ_sP, zP_sI, zP_sJ, zP_sP, Option.toList_some, Option.toList_none, List.cons_append, List.nil_append, zk_of hP1.1, zn_of hP1.1, zix, ziN, ne_eq, reduceCtorEq, not_false_eq_true, true_and, and_true, Option.getD_some, Nat.reduceLeDiff, Nat.reduceLT, c_ofNat, zkd4, zp_4_0 hP1, zp_4_1 hP1, zp_4_2 hP1, zp_4_3 hP1, zp_4_4 hP1, zp_4_5 hP1, zp_4_6 hP1, zkd12, zp_12_2 hP1, zp_12_3 hP1, zp_12_4 hP1, y3, eh]
          rw [nI_l (by omega), lN_mul]
          have hb1 : (6 - ph p k) * q.2 ≤ 6 * q.2 := Nat.mul_le_mul_right _ (by omega)
          refine s33p (K := S.1) (A := S.2) hP1 hp hF1 hA1 j3 hr eb (by omega) e6 hb2 hS hla (fun g M2 g1 g2 g3 => ?_) (fun g => ?_)
          · have hF2 := zF_tr hF g1
            obtain ⟨hP2, hF2', e52, e62, hK2, eb2, La2, Lb2⟩ := hC M2 hF2
            obtain ⟨y1', y2', y3', y4', y5'⟩ := hF2'.2.2.1 x x1
            rw [x2] at y1' y2' y3' y4' y5'
            simp only [w32_0, w32_1, w32_4, w32_7, w32_8, w32_10, w32_11, w32_15, w32_16, w32_19, w32_22, w32_25, w32_27, w32_30, w32_31, w32_34, w32_37, w32_39, w32_40, w32_42, w32_43, w32_46, w32_49, w32_51, w32_52, w32_54, w32_55, w32_57, w32_58, w32_59, w32_62, w32_65, w32_66, w32_67, w32_69, w32_72, w32_74, w32_75, w32_76, w32_78, w32_81, w32_83, w32_86, w32_87, w32_89, w32_90, w32_93, w32_96, w32_97, w32_98, w32_99, w32_101, w32_102, w32_105, w32_108, w32_110, w32_111, w32_112, w32_114, w32_117, w32_119, w32_122, w32_123, w32_124, w32_127, w32_129, w32_130, w32_131, w32_133, w32_135, w32_137, w32_138, w32_139, w32_141, w32_142, w32_143, w32_145, w32_148, w32_151, w32_152, w32_153, w32_154, w32_156, w32_157, w32_160, w32_162, w32_163, w32_165, w32_166, w32_167, w32_169, w32_172, w32_175, w32_176, w32_179, w32_180, w32_182, w32_185, w32_188, w32_189, w32_192, w32_194, w32_195, w32_196, w32_199, w32_202, w32_203, w32_205, w32_208, w32_210, zk_sI, zk_sJ, zk_sP, zn_sI, zn_sJ, zn_sP, zI_sI, zI_sJ, zI_sP, zJ_sI, zJ_sJ, zJ_sP, zP_sI, zP_sJ, zP_sP, Option.toList_some, Option.toList_none, List.cons_append, List.nil_append, zk_of hP2.1, zn_of hP2.1, zix, ziN, ne_eq, reduceCtorEq, not_false_eq_true, true_and, and_true, Option.getD_some, Nat.reduceLeDiff, Nat.reduceLT, c_ofNat, zkd4, zp_4_0 hP2, zp_4_1 hP2, zp_4_2 hP2, zp_4_3 hP2, zp_4_4 hP2, zp_4_5 hP2, zp_4_6 hP2, zkd12, zp_12_2 hP2, zp_12_3 hP2, zp_12_4 hP2, n_a1]
            refine ⟨fun z => absurd z (by decide), fun _ => ?_⟩
            refine s17 (f := pf p k) (lf := pl p) hP2 j3 hk ⟨y4', by omega⟩ ?_ (fun j hj hu => ?_) ?_
            · rw [y1']
              have : pk p k = 0 ∨ pk p k = 1 ∨ pk p k = 2 := by omega
              rcases this with e | e | e <;> rw [e]
              · exact Or.inl rfl
              · exact Or.inr (Or.inl rfl)
              · exact Or.inr (Or.inr rfl)
            · obtain ⟨⟨z, z1, z2⟩, z3⟩ := hqV.2 j hj (by omega)
              obtain ⟨t1, t2, -⟩ := hF2'.2.2.1 z z1
              obtain ⟨-, -, u3, -⟩ := hp.2.2.2.1 z z1
              rw [z2] at t2 u3
              exact ⟨t2, z3, by omega⟩
            · rw [y1', hF2'.2.2.2.2.1]
              simp only [w32_0, w32_1, w32_4, w32_7, w32_8, w32_10, w32_11, w32_15, w32_16, w32_19, w32_22, w32_25, w32_27, w32_30, w32_31, w32_34, w32_37, w32_39, w32_40, w32_42, w32_43, w32_46, w32_49, w32_51, w32_52, w32_54, w32_55, w32_57, w32_58, w32_59, w32_62, w32_65, w32_66, w32_67, w32_69, w32_72, w32_74, w32_75, w32_76, w32_78, w32_81, w32_83, w32_86, w32_87, w32_89, w32_90, w32_93, w32_96, w32_97, w32_98, w32_99, w32_101, w32_102, w32_105, w32_108, w32_110, w32_111, w32_112, w32_114, w32_117, w32_119, w32_122, w32_123, w32_124, w32_127, w32_129, w32_130, w32_131, w32_133, w32_135, w32_137, w32_138, w32_139, w32_141, w32_142, w32_143, w32_145, w32_148, w32_151, w32_152, w32_153, w32_154, w32_156, w32_157, w32_160, w32_162, w32_163, w32_165, w32_166, w32_167, w32_169, w32_172, w32_175, w32_176, w32_179, w32_180, w32_182, w32_185, w32_188, w32_189, w32_192, w32_194, w32_195, w32_196, w32_199, w32_202, w32_203, w32_205, w32_208, w32_210, zk_sI, zk_sJ, zk_sP, zn_sI, zn_sJ, zn_sP, zI_sI, zI_sJ, zI_sP, zJ_sI, zJ_sJ, zJ_sP, zP_sI, zP_sJ, zP_sP, Option.toList_some, Option.toList_none, List.cons_append, List.nil_append, zk_of hP2.1, zn_of hP2.1, zix, ziN, ne_eq, reduceCtorEq, not_false_eq_true, true_and, and_true, Option.getD_some, Nat.reduceLeDiff, Nat.reduceLT, c_ofNat, zkd4, zp_4_0 hP2, zp_4_1 hP2, zp_4_2 hP2, zp_4_3 hP2, zp_4_4 hP2, zp_4_5 hP2, zp_4_6 hP2, zkd12, zp_12_2 hP2, zp_12_3 hP2, zp_12_4 hP2, n_a1]
              rw [nI_l (by omega), lN_mul]
              have hb2' : ph p k * q.2 ≤ 6 * q.2 := Nat.mul_le_mul_right _ (by omega)
              have hbC : ∀ c, 13 ≤ c ∧ c ≤ 15 ∨ b ≤ c ∧ c ≤ b + 4 → 13 ≤ c ∧ c ≤ 15 ∨ b ≤ c ∧ c ≤ b + 4 := fun c h => h
              refine s33p (K := (zps p bh r la S q.1 ((6 - ph p k) * q.2)).1) (A := (zps p bh r la S q.1 ((6 - ph p k) * q.2)).2) hP2 hp hF2' g3 (zV_hit hp hqV hk).1 hr eb2 (by omega) e62 hb2 g2 hla (fun g' M3 g1' g2' g3' => ?_) (fun g' => ?_)
              · simp only [w32_0, w32_1, w32_4, w32_7, w32_8, w32_10, w32_11, w32_15, w32_16, w32_19, w32_22, w32_25, w32_27, w32_30, w32_31, w32_34, w32_37, w32_39, w32_40, w32_42, w32_43, w32_46, w32_49, w32_51, w32_52, w32_54, w32_55, w32_57, w32_58, w32_59, w32_62, w32_65, w32_66, w32_67, w32_69, w32_72, w32_74, w32_75, w32_76, w32_78, w32_81, w32_83, w32_86, w32_87, w32_89, w32_90, w32_93, w32_96, w32_97, w32_98, w32_99, w32_101, w32_102, w32_105, w32_108, w32_110, w32_111, w32_112, w32_114, w32_117, w32_119, w32_122, w32_123, w32_124, w32_127, w32_129, w32_130, w32_131, w32_133, w32_135, w32_137, w32_138, w32_139, w32_141, w32_142, w32_143, w32_145, w32_148, w32_151, w32_152, w32_153, w32_154, w32_156, w32_157, w32_160, w32_162, w32_163, w32_165, w32_166, w32_167, w32_169, w32_172, w32_175, w32_176, w32_179, w32_180, w32_182, w32_185, w32_188, w32_189, w32_192, w32_194, w32_195, w32_196, w32_199, w32_202, w32_203, w32_205, w32_208, w32_210, zk_sI, zk_sJ, zk_sP, zn_sI, zn_sJ, zn_sP, zI_sI, zI_sJ, zI_sP, zJ_sI, zJ_sJ, zJ_sP, zP_sI, zP_sJ, zP_sP, Option.toList_some, Option.toList_none, List.cons_append, List.nil_append, zk_of hP2.1, zn_of hP2.1, zix, ziN, ne_eq, reduceCtorEq, not_false_eq_true, true_and, and_true, Option.getD_some, Nat.reduceLeDiff, Nat.reduceLT, c_ofNat, zkd4, zp_4_0 hP2, zp_4_1 hP2, zp_4_2 hP2, zp_4_3 hP2, zp_4_4 hP2, zp_4_5 hP2, zp_4_6 hP2, zkd12, zp_12_2 hP2, zp_12_3 hP2, zp_12_4 hP2, n_a1]
                refine ⟨fun z => absurd z (by decide), fun _ => ?_⟩
                exact ih (i + 1) _ M3 _ _ _ _ _ hdt (by omega) (zF_tr hF2 g1') g2' g3' hz
              · simp only [w32_0, w32_1, w32_4, w32_7, w32_8, w32_10, w32_11, w32_15, w32_16, w32_19, w32_22, w32_25, w32_27, w32_30, w32_31, w32_34, w32_37, w32_39, w32_40, w32_42, w32_43, w32_46, w32_49, w32_51, w32_52, w32_54, w32_55, w32_57, w32_58, w32_59, w32_62, w32_65, w32_66, w32_67, w32_69, w32_72, w32_74, w32_75, w32_76, w32_78, w32_81, w32_83, w32_86, w32_87, w32_89, w32_90, w32_93, w32_96, w32_97, w32_98, w32_99, w32_101, w32_102, w32_105, w32_108, w32_110, w32_111, w32_112, w32_114, w32_117, w32_119, w32_122, w32_123, w32_124, w32_127, w32_129, w32_130, w32_131, w32_133, w32_135, w32_137, w32_138, w32_139, w32_141, w32_142, w32_143, w32_145, w32_148, w32_151, w32_152, w32_153, w32_154, w32_156, w32_157, w32_160, w32_162, w32_163, w32_165, w32_166, w32_167, w32_169, w32_172, w32_175, w32_176, w32_179, w32_180, w32_182, w32_185, w32_188, w32_189, w32_192, w32_194, w32_195, w32_196, w32_199, w32_202, w32_203, w32_205, w32_208, w32_210, zk_sI, zk_sJ, zk_sP, zn_sI, zn_sJ, zn_sP, zI_sI, zI_sJ, zI_sP, zJ_sI, zJ_sJ, zJ_sP, zP_sI, zP_sJ, zP_sP, Option.toList_some, Option.toList_none, List.cons_append, List.nil_append, zk_of hP2.1, zn_of hP2.1, zix, ziN, ne_eq, reduceCtorEq, not_false_eq_true, true_and, and_true, Option.getD_some, Nat.reduceLeDiff, Nat.reduceLT, c_ofNat, zkd4, zp_4_0 hP2, zp_4_1 hP2, zp_4_2 hP2, zp_4_3 hP2, zp_4_4 hP2, zp_4_5 hP2, zp_4_6 hP2, zkd12, zp_12_2 hP2, zp_12_3 hP2, zp_12_4 hP2, n_a1]
                refine ⟨fun _ => ?_, fun z => absurd trivial z⟩
                exact stop (i + 1) M2 _ _ _ _ _ hF2 ⟨_, g2.1⟩ (long _ hz g')
          · simp only [w32_0, w32_1, w32_4, w32_7, w32_8, w32_10, w32_11, w32_15, w32_16, w32_19, w32_22, w32_25, w32_27, w32_30, w32_31, w32_34, w32_37, w32_39, w32_40, w32_42, w32_43, w32_46, w32_49, w32_51, w32_52, w32_54, w32_55, w32_57, w32_58, w32_59, w32_62, w32_65, w32_66, w32_67, w32_69, w32_72, w32_74, w32_75, w32_76, w32_78, w32_81, w32_83, w32_86, w32_87, w32_89, w32_90, w32_93, w32_96, w32_97, w32_98, w32_99, w32_101, w32_102, w32_105, w32_108, w32_110, w32_111, w32_112, w32_114, w32_117, w32_119, w32_122, w32_123, w32_124, w32_127, w32_129, w32_130, w32_131, w32_133, w32_135, w32_137, w32_138, w32_139, w32_141, w32_142, w32_143, w32_145, w32_148, w32_151, w32_152, w32_153, w32_154, w32_156, w32_157, w32_160, w32_162, w32_163, w32_165, w32_166, w32_167, w32_169, w32_172, w32_175, w32_176, w32_179, w32_180, w32_182, w32_185, w32_188, w32_189, w32_192, w32_194, w32_195, w32_196, w32_199, w32_202, w32_203, w32_205, w32_208, w32_210, zk_sI, zk_sJ, zk_sP, zn_sI, zn_sJ, zn_sP, zI_sI, zI_sJ, zI_sP, zJ_sI, zJ_sJ, zJ_sP, zP_sI, zP_sJ, zP_sP, Option.toList_some, Option.toList_none, List.cons_append, List.nil_append, zk_of hP1.1, zn_of hP1.1, zix, ziN, ne_eq, reduceCtorEq, not_false_eq_true, true_and, and_true, Option.getD_some, Nat.reduceLeDiff, Nat.reduceLT, c_ofNat, zkd4, zp_4_0 hP1, zp_4_1 hP1, zp_4_2 hP1, zp_4_3 hP1, zp_4_4 hP1, zp_4_5 hP1, zp_4_6 hP1, zkd12, zp_12_2 hP1, zp_12_3 hP1, zp_12_4 hP1, n_a1]
            refine ⟨fun _ => ?_, fun z => absurd trivial z⟩
            exact stop (i + 1) M1 _ _ _ _ _ hF ⟨_, hS.1⟩ (long _ hz (Nat.lt_of_lt_of_le g (zps_len ..)))
        · have ho : zouts p r k q.1 = [(sd q.1 k (dg q.1 k % 32), 6)] := by
            rw [zouts, if_neg (fun z => z hc), if_pos hf]
          rw [ho, zst1, zst1] at hz
          refine s15 j3 hk ?_
          simp only [w32_0, w32_1, w32_4, w32_7, w32_8, w32_10, w32_11, w32_15, w32_16, w32_19, w32_22, w32_25, w32_27, w32_30, w32_31, w32_34, w32_37, w32_39, w32_40, w32_42, w32_43, w32_46, w32_49, w32_51, w32_52, w32_54, w32_55, w32_57, w32_58, w32_59, w32_62, w32_65, w32_66, w32_67, w32_69, w32_72, w32_74, w32_75, w32_76, w32_78, w32_81, w32_83, w32_86, w32_87, w32_89, w32_90, w32_93, w32_96, w32_97, w32_98, w32_99, w32_101, w32_102, w32_105, w32_108, w32_110, w32_111, w32_112, w32_114, w32_117, w32_119, w32_122, w32_123, w32_124, w32_127, w32_129, w32_130, w32_131, w32_133, w32_135, w32_137, w32_138, w32_139, w32_141, w32_142, w32_143, w32_145, w32_148, w32_151, w32_152, w32_153, w32_154, w32_156, w32_157, w32_160, w32_162, w32_163, w32_165, w32_166, w32_167, w32_169, w32_172, w32_175, w32_176, w32_179, w32_180, w32_182, w32_185, w32_188, w32_189, w32_192, w32_194, w32_195, w32_196, w32_199, w32_202, w32_203, w32_205, w32_208, w32_210, zk_sI, zk_sJ, zk_sP, zn_sI, zn_sJ, zn_sP, zI_sI, zI_sJ, zI_sP, zJ_sI, zJ_sJ, zJ_sP, zP_sI, zP_sJ, zP_sP, Option.toList_some, Option.toList_none, List.cons_append, List.nil_append, zk_of hP1.1, zn_of hP1.1, zix, ziN, ne_eq, reduceCtorEq, not_false_eq_true, true_and, and_true, Option.getD_some, Nat.reduceLeDiff, Nat.reduceLT, c_ofNat, zkd4, zp_4_0 hP1, zp_4_1 hP1, zp_4_2 hP1, zp_4_3 hP1, zp_4_4 hP1, zp_4_5 hP1, zp_4_6 hP1, zkd12, zp_12_2 hP1, zp_12_3 hP1, zp_12_4 hP1, e6l]
          refine s33p (K := S.1) (A := S.2) hP1 hp hF1 hA1 (sd_lt j3 hk (by omega)) hr eb hw6 e6 hb2 hS hla (fun g M2 g1 g2 g3 => ?_) (fun g => ?_)
          · simp only [w32_0, w32_1, w32_4, w32_7, w32_8, w32_10, w32_11, w32_15, w32_16, w32_19, w32_22, w32_25, w32_27, w32_30, w32_31, w32_34, w32_37, w32_39, w32_40, w32_42, w32_43, w32_46, w32_49, w32_51, w32_52, w32_54, w32_55, w32_57, w32_58, w32_59, w32_62, w32_65, w32_66, w32_67, w32_69, w32_72, w32_74, w32_75, w32_76, w32_78, w32_81, w32_83, w32_86, w32_87, w32_89, w32_90, w32_93, w32_96, w32_97, w32_98, w32_99, w32_101, w32_102, w32_105, w32_108, w32_110, w32_111, w32_112, w32_114, w32_117, w32_119, w32_122, w32_123, w32_124, w32_127, w32_129, w32_130, w32_131, w32_133, w32_135, w32_137, w32_138, w32_139, w32_141, w32_142, w32_143, w32_145, w32_148, w32_151, w32_152, w32_153, w32_154, w32_156, w32_157, w32_160, w32_162, w32_163, w32_165, w32_166, w32_167, w32_169, w32_172, w32_175, w32_176, w32_179, w32_180, w32_182, w32_185, w32_188, w32_189, w32_192, w32_194, w32_195, w32_196, w32_199, w32_202, w32_203, w32_205, w32_208, w32_210, zk_sI, zk_sJ, zk_sP, zn_sI, zn_sJ, zn_sP, zI_sI, zI_sJ, zI_sP, zJ_sI, zJ_sJ, zJ_sP, zP_sI, zP_sJ, zP_sP, Option.toList_some, Option.toList_none, List.cons_append, List.nil_append, n_a1]
            exact ih (i + 1) _ M2 _ _ _ _ _ hdt (by omega) (zF_tr hF g1) g2 g3 hz
          · simp only [w32_0, w32_1, w32_4, w32_7, w32_8, w32_10, w32_11, w32_15, w32_16, w32_19, w32_22, w32_25, w32_27, w32_30, w32_31, w32_34, w32_37, w32_39, w32_40, w32_42, w32_43, w32_46, w32_49, w32_51, w32_52, w32_54, w32_55, w32_57, w32_58, w32_59, w32_62, w32_65, w32_66, w32_67, w32_69, w32_72, w32_74, w32_75, w32_76, w32_78, w32_81, w32_83, w32_86, w32_87, w32_89, w32_90, w32_93, w32_96, w32_97, w32_98, w32_99, w32_101, w32_102, w32_105, w32_108, w32_110, w32_111, w32_112, w32_114, w32_117, w32_119, w32_122, w32_123, w32_124, w32_127, w32_129, w32_130, w32_131, w32_133, w32_135, w32_137, w32_138, w32_139, w32_141, w32_142, w32_143, w32_145, w32_148, w32_151, w32_152, w32_153, w32_154, w32_156, w32_157, w32_160, w32_162, w32_163, w32_165, w32_166, w32_167, w32_169, w32_172, w32_175, w32_176, w32_179, w32_180, w32_182, w32_185, w32_188, w32_189, w32_192, w32_194, w32_195, w32_196, w32_199, w32_202, w32_203, w32_205, w32_208, w32_210, zk_sI, zk_sJ, zk_sP, zn_sI, zn_sJ, zn_sP, zI_sI, zI_sJ, zI_sP, zJ_sI, zJ_sJ, zJ_sP, zP_sI, zP_sJ, zP_sP, Option.toList_some, Option.toList_none, List.cons_append, List.nil_append, n_a1]
            exact stop (i + 1) M1 _ _ _ _ _ hF ⟨_, hS.1⟩ (long _ hz g)
      · have ho : zouts p r k q.1 = [(q.1, 6)] := if_pos hc
        rw [ho, zst1, zst1] at hz
        simp only [e6l]
        refine s33p (K := S.1) (A := S.2) hP1 hp hF1 hA1 j3 hr eb hw6 e6 hb2 hS hla (fun g M2 g1 g2 g3 => ?_) (fun g => ?_)
        · simp only [w32_0, w32_1, w32_4, w32_7, w32_8, w32_10, w32_11, w32_15, w32_16, w32_19, w32_22, w32_25, w32_27, w32_30, w32_31, w32_34, w32_37, w32_39, w32_40, w32_42, w32_43, w32_46, w32_49, w32_51, w32_52, w32_54, w32_55, w32_57, w32_58, w32_59, w32_62, w32_65, w32_66, w32_67, w32_69, w32_72, w32_74, w32_75, w32_76, w32_78, w32_81, w32_83, w32_86, w32_87, w32_89, w32_90, w32_93, w32_96, w32_97, w32_98, w32_99, w32_101, w32_102, w32_105, w32_108, w32_110, w32_111, w32_112, w32_114, w32_117, w32_119, w32_122, w32_123, w32_124, w32_127, w32_129, w32_130, w32_131, w32_133, w32_135, w32_137, w32_138, w32_139, w32_141, w32_142, w32_143, w32_145, w32_148, w32_151, w32_152, w32_153, w32_154, w32_156, w32_157, w32_160, w32_162, w32_163, w32_165, w32_166, w32_167, w32_169, w32_172, w32_175, w32_176, w32_179, w32_180, w32_182, w32_185, w32_188, w32_189, w32_192, w32_194, w32_195, w32_196, w32_199, w32_202, w32_203, w32_205, w32_208, w32_210, zk_sI, zk_sJ, zk_sP, zn_sI, zn_sJ, zn_sP, zI_sI, zI_sJ, zI_sP, zJ_sI, zJ_sJ, zJ_sP, zP_sI, zP_sJ, zP_sP, Option.toList_some, Option.toList_none, List.cons_append, List.nil_append, n_a1]
          exact ih (i + 1) _ M2 _ _ _ _ _ hdt (by omega) (zF_tr hF g1) g2 g3 hz
        · simp only [w32_0, w32_1, w32_4, w32_7, w32_8, w32_10, w32_11, w32_15, w32_16, w32_19, w32_22, w32_25, w32_27, w32_30, w32_31, w32_34, w32_37, w32_39, w32_40, w32_42, w32_43, w32_46, w32_49, w32_51, w32_52, w32_54, w32_55, w32_57, w32_58, w32_59, w32_62, w32_65, w32_66, w32_67, w32_69, w32_72, w32_74, w32_75, w32_76, w32_78, w32_81, w32_83, w32_86, w32_87, w32_89, w32_90, w32_93, w32_96, w32_97, w32_98, w32_99, w32_101, w32_102, w32_105, w32_108, w32_110, w32_111, w32_112, w32_114, w32_117, w32_119, w32_122, w32_123, w32_124, w32_127, w32_129, w32_130, w32_131, w32_133, w32_135, w32_137, w32_138, w32_139, w32_141, w32_142, w32_143, w32_145, w32_148, w32_151, w32_152, w32_153, w32_154, w32_156, w32_157, w32_160, w32_162, w32_163, w32_165, w32_166, w32_167, w32_169, w32_172, w32_175, w32_176, w32_179, w32_180, w32_182, w32_185, w32_188, w32_189, w32_192, w32_194, w32_195, w32_196, w32_199, w32_202, w32_203, w32_205, w32_208, w32_210, zk_sI, zk_sJ, zk_sP, zn_sI, zn_sJ, zn_sP, zI_sI, zI_sJ, zI_sP, zJ_sI, zJ_sJ, zJ_sP, zP_sI, zP_sJ, zP_sP, Option.toList_some, Option.toList_none, List.cons_append, List.nil_append, n_a1]
          exact stop (i + 1) M1 _ _ _ _ _ hF ⟨_, hS.1⟩ (long _ hz g)
  simp only [w32_0, w32_1, w32_4, w32_7, w32_8, w32_10, w32_11, w32_15, w32_16, w32_19, w32_22, w32_25, w32_27, w32_30, w32_31, w32_34, w32_37, w32_39, w32_40, w32_42, w32_43, w32_46, w32_49, w32_51, w32_52, w32_54, w32_55, w32_57, w32_58, w32_59, w32_62, w32_65, w32_66, w32_67, w32_69, w32_72, w32_74, w32_75, w32_76, w32_78, w32_81, w32_83, w32_86, w32_87, w32_89, w32_90, w32_93, w32_96, w32_97, w32_98, w32_99, w32_101, w32_102, w32_105, w32_108, w32_110, w32_111, w32_112, w32_114, w32_117, w32_119, w32_122, w32_123, w32_124, w32_127, w32_129, w32_130, w32_131, w32_133, w32_135, w32_137, w32_138, w32_139, w32_141, w32_142, w32_143, w32_145, w32_148, w32_151, w32_152, w32_153, w32_154, w32_156, w32_157, w32_160, w32_162, w32_163, w32_165, w32_166, w32_167, w32_169, w32_172, w32_175, w32_176, w32_179, w32_180, w32_182, w32_185, w32_188, w32_189, w32_192, w32_194, w32_195, w32_196, w32_199, w32_202, w32_203, w32_205, w32_208, w32_210, zk_sI, zk_sJ, zk_sP, zn_sI, zn_sJ, zn_sP, zI_sI, zI_sJ, zI_sP, zJ_sI, zJ_sJ, zJ_sP, zP_sI, zP_sJ, zP_sP, Option.toList_some, Option.toList_none, List.cons_append, List.nil_append, zk_of hP.1, zn_of hP.1, zix, ziN, ne_eq, reduceCtorEq, not_false_eq_true, true_and, and_true, Option.getD_some, Nat.reduceLeDiff, Nat.reduceLT, c_ofNat, zkd4, zp_4_0 hP, zp_4_1 hP, zp_4_2 hP, zp_4_3 hP, zp_4_4 hP, zp_4_5 hP, zp_4_6 hP, zkd12, zp_12_2 hP, zp_12_3 hP, zp_12_4 hP, h6, hkb]
  refine s23 (zLy_of hP hb2) hn (fun M1 g1 g2 => ?_)
  simp only [w32_0, w32_1, w32_4, w32_7, w32_8, w32_10, w32_11, w32_15, w32_16, w32_19, w32_22, w32_25, w32_27, w32_30, w32_31, w32_34, w32_37, w32_39, w32_40, w32_42, w32_43, w32_46, w32_49, w32_51, w32_52, w32_54, w32_55, w32_57, w32_58, w32_59, w32_62, w32_65, w32_66, w32_67, w32_69, w32_72, w32_74, w32_75, w32_76, w32_78, w32_81, w32_83, w32_86, w32_87, w32_89, w32_90, w32_93, w32_96, w32_97, w32_98, w32_99, w32_101, w32_102, w32_105, w32_108, w32_110, w32_111, w32_112, w32_114, w32_117, w32_119, w32_122, w32_123, w32_124, w32_127, w32_129, w32_130, w32_131, w32_133, w32_135, w32_137, w32_138, w32_139, w32_141, w32_142, w32_143, w32_145, w32_148, w32_151, w32_152, w32_153, w32_154, w32_156, w32_157, w32_160, w32_162, w32_163, w32_165, w32_166, w32_167, w32_169, w32_172, w32_175, w32_176, w32_179, w32_180, w32_182, w32_185, w32_188, w32_189, w32_192, w32_194, w32_195, w32_196, w32_199, w32_202, w32_203, w32_205, w32_208, w32_210, zk_sI, zk_sJ, zk_sP, zn_sI, zn_sJ, zn_sP, zI_sI, zI_sJ, zI_sP, zJ_sI, zJ_sJ, zJ_sP, zP_sI, zP_sJ, zP_sP, Option.toList_some, Option.toList_none, List.cons_append, List.nil_append, c_0]
  exact loop K 0 ([], A) M1 _ _ _ _ _ rfl (Nat.zero_le _) (zF_mo g1 (fun c hc => by omega)) ⟨g2, fun i q hq => by simp at hq⟩ (zAM_F hA g1 (fun c x y => by omega)) rfl
end ZSl

