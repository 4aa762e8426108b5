/-! ===== the model: works, all of it ===== -/
section ZMz
variable {X : zf_X} {M : zf_M} {Q : Option Value → zf_M → Prop} {n : Nat} {c : zCs} {am su : Int32} {r : Nat} {p : zPm}
/-- the model's numbers of a fight that is not too wide -/
def zMO (p : zPm) (M : zf_M) : Prop := zAN M (zrk p).2.1 (zon p) ∧ zf_J M 74 (pr p * pn p) = lN (6 ^ (pr p * pn p)) ∧ zf_I M 58 23 = nI (zrk p).2.2
theorem s129 (hpe : p = zpm c am su r) (hp : zPo p) (hP : zPk M) (hF : zMS c n am su r M)
    (hQ : ∀ M1, zWF M M1 → zf_I M1 58 9 = nI (pn p) → (zrun p → zMO p M1) → Q (some (.int (if zrun p then 0 else -5))) M1) : zC X 129 [.ref 58] M Q := by
  rw [c129]
  have hpn : (zol c 6).length = pn p := by rw [hpe]; rfl
  have hpo : ∀ i, zod c i = po p i := fun i => by rw [hpe]; rfl
  have hprr : pr p = r := by rw [hpe]; rfl
  have hn6 := hp.1
  have hr6 := hF.2.2.2.2.2
  simp only [w129_0, w129_1, w129_4, w129_5, w129_6, w129_9, w129_10, w129_13, w129_14, w129_15, w129_17, w129_20, w129_22, w129_23, w129_24, w129_27, w129_28, w129_29, w129_30, w129_31, zk_sI, zk_sJ, zk_sP, zn_sI, zn_sJ, zn_sP, zI_sI, zI_sJ, zI_sP, zJ_sI, zJ_sJ, zJ_sP, zP_sI, zP_sJ, zP_sP, Option.toList_some, Option.toList_none, List.cons_append, List.nil_append, zk_of hP.1, zn_of hP.1, zix, ziN, ne_eq, reduceCtorEq, not_false_eq_true, true_and, and_true, Option.getD_some, Nat.reduceLeDiff, Nat.reduceLT, c_ofNat, zkd58, zp_58_1 hP, zp_58_2 hP, zp_58_6 hP, zp_58_7 hP, zp_58_10 hP, zp_58_11 hP, zp_58_12 hP, zp_58_14 hP, zp_58_15 hP, zp_58_17 hP, zp_58_18 hP, zp_58_19 hP, zp_58_20 hP, zp_58_21 hP, zp_58_22 hP, zp_58_24 hP, zp_58_26 hP, zp_58_29 hP, zp_58_32 hP, zp_58_33 hP, zp_58_34 hP, zp_58_35 hP, zp_58_36 hP, zp_58_37 hP, zp_58_38 hP, zp_58_39 hP, zkd59, znd59, zfx59, zkd60, znd60, zfx60, zkd61, znd61, zfx61, zkd62, znd62, zfx62, zkd63, znd63, zfx63, zkd64, znd64, zfx64, zkd65, znd65, zfx65, zkd66, znd66, zfx66, zkd67, znd67, zfx67, zkd68, znd68, zfx68, zkd69, znd69, zfx69, zkd70, znd70, zfx70, zkd71, znd71, zfx71, zkd72, znd72, zfx72, zkd73, znd73, zfx73, zkd74, znd74, zfx74]
  refine s116 hP hF.1 (fun M1 g1 g2 g3 g4 g5 => ?_)
  have hP1 := zPk_F hP g1
  have hW1 : zWF M M1 := ⟨zF_mo g1 (fun b hb => by omega), fun j hj _ _ _ => g2 j hj⟩
  have h9 : zf_I M1 58 9 = nI (pn p) := by rw [← hpn]; exact g3
  have h3 : zf_I M1 58 3 = nI r := by rw [g2 3 (by decide)]; exact hF.2.2.1
  have hMF1 : zMF c n am su r M1 := ⟨zMS_F hF g1 (by omega) (by omega) (by omega) (fun j hj => g2 j (by omega)), g3, fun i hi => by
    have := g4 _ _ (zod_in hi)
    rw [show (zol c 6).length - 1 - ((zol c 6).length - 1 - i) = i by omega] at this
    exact this⟩
  have hS1 : zSM M1 (zst p) := by
    intro k hk
    obtain ⟨u1, u2⟩ := g5 k hk
    have e := (zst_ok hp).2 k hk
    by_cases hc : c.2.1 k = none
    · have e2 : ¬ ∃ i, i < pn p ∧ po p i = k := by
        rintro ⟨i, i1, i2⟩
        have := (zod_6 (c := c) (i := i) (by rw [hpn]; exact i1)).2
        rw [hpo, i2] at this
        exact this hc
      rw [if_neg e2] at e
      rw [e, u1, u2, zB_f (fun z => z hc), zB_f (by decide)]
      refine ⟨?_, rfl⟩
      simp only [znu, hc]
    · have e2 : ∃ i, i < pn p ∧ po p i = k := by
        obtain ⟨i, i1, i2⟩ := zod_sur hc hk
        exact ⟨i, by rw [← hpn]; exact i1, by rw [← hpo]; exact i2⟩
      rw [if_pos e2] at e
      obtain ⟨i, i1, i2⟩ := e2
      have h20 := (hp.2.2.2.1 i i1).2.2.1
      rw [i2] at h20
      have ep : pl p k = znu c k 1 := by rw [hpe]; rfl
      rw [e, u1, u2, zB_t hc, zB_t (by omega)]
      refine ⟨?_, rfl⟩
      rw [← ep]
      congr 1
      omega
  simp only [w129_4, w129_5, w129_6, w129_9, w129_10, w129_13, w129_14, w129_15, w129_17, w129_20, w129_22, w129_23, w129_24, w129_27, w129_28, w129_29, w129_30, w129_31, zk_sI, zk_sJ, zk_sP, zn_sI, zn_sJ, zn_sP, zI_sI, zI_sJ, zI_sP, zJ_sI, zJ_sJ, zJ_sP, zP_sI, zP_sJ, zP_sP, Option.toList_some, Option.toList_none, List.cons_append, List.nil_append, zk_of hP1.1, zn_of hP1.1, zix, ziN, ne_eq, reduceCtorEq, not_false_eq_true, true_and, and_true, Option.getD_some, Nat.reduceLeDiff, Nat.reduceLT, c_ofNat, zkd58, zp_58_1 hP1, zp_58_2 hP1, zp_58_6 hP1, zp_58_7 hP1, zp_58_10 hP1, zp_58_11 hP1, zp_58_12 hP1, zp_58_14 hP1, zp_58_15 hP1, zp_58_17 hP1, zp_58_18 hP1, zp_58_19 hP1, zp_58_20 hP1, zp_58_21 hP1, zp_58_22 hP1, zp_58_24 hP1, zp_58_26 hP1, zp_58_29 hP1, zp_58_32 hP1, zp_58_33 hP1, zp_58_34 hP1, zp_58_35 hP1, zp_58_36 hP1, zp_58_37 hP1, zp_58_38 hP1, zp_58_39 hP1, zkd59, znd59, zfx59, zkd60, znd60, zfx60, zkd61, znd61, zfx61, zkd62, znd62, zfx62, zkd63, znd63, zfx63, zkd64, znd64, zfx64, zkd65, znd65, zfx65, zkd66, znd66, zfx66, zkd67, znd67, zfx67, zkd68, znd68, zfx68, zkd69, znd69, zfx69, zkd70, znd70, zfx70, zkd71, znd71, zfx71, zkd72, znd72, zfx72, zkd73, znd73, zfx73, zkd74, znd74, zfx74]
  have hFa : zF (fun b => b = 58) M1 (zf_sI M1 58 23 0) := zF_sI (zF_rf _ _) rfl
  refine s128 (a := r) (b := pn p) (zPk_F hP1 hFa) (by rw [zI_sI, if_pos rfl, if_neg (by decide)]; exact h3) (by rw [zI_sI, if_pos rfl, if_neg (by decide)]; exact h9) ?_
  have hsl : r * pn p ≤ 36 := Nat.mul_le_mul hr6.2 hn6
  have c22 : (22 : Int32) = nI 22 := rfl
  simp only [w129_13, w129_14, w129_15, w129_17, w129_20, w129_22, w129_23, w129_24, w129_27, w129_28, w129_29, w129_30, w129_31, zk_sI, zk_sJ, zk_sP, zn_sI, zn_sJ, zn_sP, zI_sI, zI_sJ, zI_sP, zJ_sI, zJ_sJ, zJ_sP, zP_sI, zP_sJ, zP_sP, Option.toList_some, Option.toList_none, List.cons_append, List.nil_append, zk_of hP1.1, zn_of hP1.1, zix, ziN, ne_eq, reduceCtorEq, not_false_eq_true, true_and, and_true, Option.getD_some, Nat.reduceLeDiff, Nat.reduceLT, c_ofNat, zkd58, zp_58_1 hP1, zp_58_2 hP1, zp_58_6 hP1, zp_58_7 hP1, zp_58_10 hP1, zp_58_11 hP1, zp_58_12 hP1, zp_58_14 hP1, zp_58_15 hP1, zp_58_17 hP1, zp_58_18 hP1, zp_58_19 hP1, zp_58_20 hP1, zp_58_21 hP1, zp_58_22 hP1, zp_58_24 hP1, zp_58_26 hP1, zp_58_29 hP1, zp_58_32 hP1, zp_58_33 hP1, zp_58_34 hP1, zp_58_35 hP1, zp_58_36 hP1, zp_58_37 hP1, zp_58_38 hP1, zp_58_39 hP1, zkd59, znd59, zfx59, zkd60, znd60, zfx60, zkd61, znd61, zfx61, zkd62, znd62, zfx62, zkd63, znd63, zfx63, zkd64, znd64, zfx64, zkd65, znd65, zfx65, zkd66, znd66, zfx66, zkd67, znd67, zfx67, zkd68, znd68, zfx68, zkd69, znd69, zfx69, zkd70, znd70, zfx70, zkd71, znd71, zfx71, zkd72, znd72, zfx72, zkd73, znd73, zfx73, zkd74, znd74, zfx74, c22]
  rw [n_le (by omega) (by decide)]
  have hb0 : ∀ j, j ≠ 23 → zf_I (zf_sI M1 58 23 0) 58 j = zf_I M1 58 j := fun j hj => by rw [zI_sI, if_pos rfl, if_neg hj]
  have h23 : zf_I (zf_sI M1 58 23 0) 58 23 = 0 := by rw [zI_sI, if_pos rfl, if_pos rfl]
  have hWa : zWF M (zf_sI M1 58 23 0) := zWF_tr hW1 ⟨zF_mo hFa (fun b hb => by omega), fun j _ _ _ z => hb0 j z⟩
  have h9a : zf_I (zf_sI M1 58 23 0) 58 9 = nI (pn p) := by rw [hb0 9 (by decide)]; exact h9
  have hMFa := zMF_F hMF1 hFa (by omega) (by omega) (by omega) (by omega) (fun j hj => hb0 j (by omega))
  have hSa := zSM_F hS1 hFa (by omega) (by omega)
  have hPa := zPk_F hP1 hFa
  clear hFa hMF1 hS1 hW1 h3 h9 hb0 g1 g2 g3 g4 g5 hP1
  generalize zf_sI M1 58 23 0 = M2 at *
  refine ⟨fun hs => ?_, fun hs => ?_⟩
  · have hsl22 : r * pn p ≤ 22 := by omega
    have fin : ∀ (M3 : zf_M), zF (fun b => 71 ≤ b ∧ b ≤ 74) M2 M3 → (∀ j, j ≤ r * pn p → zf_J M3 74 j = lN (6 ^ j)) → zAN M3 zA0 (zon p) → zW X 129 124 [.val (.ref 58), .val (.int (nI (r * pn p))), .val (.int (nI 252)), .unset, .unset, .unset, .unset, .unset, .unset] [] M3 Q := by
      intro M3 k1 k2 k3
      have hP3 := zPk_F hPa k1
      have b58 : ∀ j, zf_I M3 58 j = zf_I M2 58 j := fun j => (k1.2.1 58 (by omega) j).1
      have hW3 : zWF M M3 := zWF_tr hWa ⟨zF_mo k1 (fun b hb => by omega), fun j _ _ _ _ => b58 j⟩
      have hS3 := zSM_F hSa k1 (by omega) (by omega)
      have hMF3 := zMF_F hMFa k1 (by omega) (by omega) (by omega) (by omega) (fun j _ => b58 j)
      have hV := zst_V hp
      simp only [w129_124, w129_125, w129_128, w129_129, w129_132, w129_133, w129_134, w129_137, w129_138, w129_139, w129_142, w129_143, w129_144, w129_147, w129_148, zk_sI, zk_sJ, zk_sP, zn_sI, zn_sJ, zn_sP, zI_sI, zI_sJ, zI_sP, zJ_sI, zJ_sJ, zJ_sP, zP_sI, zP_sJ, zP_sP, Option.toList_some, Option.toList_none, List.cons_append, List.nil_append, zk_of hP3.1, zn_of hP3.1, zix, ziN, ne_eq, reduceCtorEq, not_false_eq_true, true_and, and_true, Option.getD_some, Nat.reduceLeDiff, Nat.reduceLT, c_ofNat, zkd58, zp_58_1 hP3, zp_58_2 hP3, zp_58_6 hP3, zp_58_7 hP3, zp_58_10 hP3, zp_58_11 hP3, zp_58_12 hP3, zp_58_14 hP3, zp_58_15 hP3, zp_58_17 hP3, zp_58_18 hP3, zp_58_19 hP3, zp_58_20 hP3, zp_58_21 hP3, zp_58_22 hP3, zp_58_24 hP3, zp_58_26 hP3, zp_58_29 hP3, zp_58_32 hP3, zp_58_33 hP3, zp_58_34 hP3, zp_58_35 hP3, zp_58_36 hP3, zp_58_37 hP3, zp_58_38 hP3, zp_58_39 hP3, zkd59, znd59, zfx59, zkd60, znd60, zfx60, zkd61, znd61, zfx61, zkd62, znd62, zfx62, zkd63, znd63, zfx63, zkd64, znd64, zfx64, zkd65, znd65, zfx65, zkd66, znd66, zfx66, zkd67, znd67, zfx67, zkd68, znd68, zfx68, zkd69, znd69, zfx69, zkd70, znd70, zfx70, zkd71, znd71, zfx71, zkd72, znd72, zfx72, zkd73, znd73, zfx73, zkd74, znd74, zfx74]
      refine s117 hP3 hS3 ?_
      by_cases hz : zwin (zst p) = -1
      · rw [zwm, if_pos hz]
        simp only [w129_124, w129_125, w129_128, w129_129, w129_132, w129_133, w129_134, w129_137, w129_138, w129_139, w129_142, w129_143, w129_144, w129_147, w129_148, w129_149, w129_150, w129_151, w129_154, w129_155, w129_158, w129_159, w129_160, w129_163, w129_164, w129_165, w129_168, w129_169, w129_170, w129_171, w129_172, zk_sI, zk_sJ, zk_sP, zn_sI, zn_sJ, zn_sP, zI_sI, zI_sJ, zI_sP, zJ_sI, zJ_sJ, zJ_sP, zP_sI, zP_sJ, zP_sP, Option.toList_some, Option.toList_none, List.cons_append, List.nil_append, zk_of hP3.1, zn_of hP3.1, zix, ziN, ne_eq, reduceCtorEq, not_false_eq_true, true_and, and_true, Option.getD_some, Nat.reduceLeDiff, Nat.reduceLT, c_ofNat, zkd58, zp_58_1 hP3, zp_58_2 hP3, zp_58_6 hP3, zp_58_7 hP3, zp_58_10 hP3, zp_58_11 hP3, zp_58_12 hP3, zp_58_14 hP3, zp_58_15 hP3, zp_58_17 hP3, zp_58_18 hP3, zp_58_19 hP3, zp_58_20 hP3, zp_58_21 hP3, zp_58_22 hP3, zp_58_24 hP3, zp_58_26 hP3, zp_58_29 hP3, zp_58_32 hP3, zp_58_33 hP3, zp_58_34 hP3, zp_58_35 hP3, zp_58_36 hP3, zp_58_37 hP3, zp_58_38 hP3, zp_58_39 hP3, zkd59, znd59, zfx59, zkd60, znd60, zfx60, zkd61, znd61, zfx61, zkd62, znd62, zfx62, zkd63, znd63, zfx63, zkd64, znd64, zfx64, zkd65, znd65, zfx65, zkd66, znd66, zfx66, zkd67, znd67, zfx67, zkd68, znd68, zfx68, zkd69, znd69, zfx69, zkd70, znd70, zfx70, zkd71, znd71, zfx71, zkd72, znd72, zfx72, zkd73, znd73, zfx73, zkd74, znd74, zfx74, Int32.le_refl, true_implies, not_true_eq_false, false_implies, and_true]
        have hFb : zF (fun b => b = 58) M3 (zf_sI M3 58 13 1) := zF_sI (zF_rf _ _) rfl
        have hrk : zrk p = ((zgo p (pr p * pn p) 0 ([(zst p, 1)], zA0) 0).1, (zgo p (pr p * pn p) 0 ([(zst p, 1)], zA0) 0).2.1.2, (zgo p (pr p * pn p) 0 ([(zst p, 1)], zA0) 0).2.2) := by
          rw [zrk, if_neg (fun z => z hz)]
        have hup : 1 ≤ pn p := by
          refine Classical.byContradiction (fun g => ?_)
          have e0 : pn p = 0 := by omega
          have : zst p = 0 := by unfold zst; rw [e0]; rfl
          rw [this] at hz
          exact absurd hz (by decide)
        have hpos : 1 ≤ r * pn p := Nat.mul_le_mul hr6.1 hup
        obtain ⟨m, hm⟩ : ∃ m, r * pn p = m + 1 := ⟨r * pn p - 1, by omega⟩
        refine s123 (zPk_F hP3 hFb) (zSM_F hS3 hFb (by omega) (by omega)) ?_
        have v0 : vp_in 0 400 := vp_in_nI (n := 0) (by decide) (by decide)
        simp only [w129_163, w129_164, w129_165, w129_168, w129_169, w129_170, w129_171, w129_172, zk_sI, zk_sJ, zk_sP, zn_sI, zn_sJ, zn_sP, zI_sI, zI_sJ, zI_sP, zJ_sI, zJ_sJ, zJ_sP, zP_sI, zP_sJ, zP_sP, Option.toList_some, Option.toList_none, List.cons_append, List.nil_append, zk_of hP3.1, zn_of hP3.1, zix, ziN, ne_eq, reduceCtorEq, not_false_eq_true, true_and, and_true, Option.getD_some, Nat.reduceLeDiff, Nat.reduceLT, c_ofNat, zkd58, zp_58_1 hP3, zp_58_2 hP3, zp_58_6 hP3, zp_58_7 hP3, zp_58_10 hP3, zp_58_11 hP3, zp_58_12 hP3, zp_58_14 hP3, zp_58_15 hP3, zp_58_17 hP3, zp_58_18 hP3, zp_58_19 hP3, zp_58_20 hP3, zp_58_21 hP3, zp_58_22 hP3, zp_58_24 hP3, zp_58_26 hP3, zp_58_29 hP3, zp_58_32 hP3, zp_58_33 hP3, zp_58_34 hP3, zp_58_35 hP3, zp_58_36 hP3, zp_58_37 hP3, zp_58_38 hP3, zp_58_39 hP3, zkd59, znd59, zfx59, zkd60, znd60, zfx60, zkd61, znd61, zfx61, zkd62, znd62, zfx62, zkd63, znd63, zfx63, zkd64, znd64, zfx64, zkd65, znd65, zfx65, zkd66, znd66, zfx66, zkd67, znd67, zfx67, zkd68, znd68, zfx68, zkd69, znd69, zfx69, zkd70, znd70, zfx70, zkd71, znd71, zfx71, zkd72, znd72, zfx72, zkd73, znd73, zfx73, zkd74, znd74, zfx74]
        refine ⟨v0, v0, ?_⟩
        have hFc : zF (fun c => c = 58 ∨ 64 ≤ c ∧ c ≤ 73) M3 (zf_sJ (zf_sJ (zf_sI M3 58 13 1) 66 (Int32.toNatClampNeg 0) (lN (zpk (zst p) 6))) 67 (Int32.toNatClampNeg 0) 1) := zF_sJ (zF_sJ (zF_sI (zF_rf _ _) (by omega)) (by omega)) (by omega)
        have hc58 : ∀ j, j ≠ 13 → zf_I (zf_sJ (zf_sJ (zf_sI M3 58 13 1) 66 (Int32.toNatClampNeg 0) (lN (zpk (zst p) 6))) 67 (Int32.toNatClampNeg 0) 1) 58 j = zf_I M3 58 j := fun j hj => by
          rw [zI_sJ, zI_sJ, zI_sI, if_pos rfl, if_neg hj]
        refine s129e (sl := r * pn p) (M0 := M3) hpe hp hP3 hMF3 k2 rfl hsl22 (zgo p (pr p * pn p) 0 ([(zst p, 1)], zA0) 0) (fun M4 q1 q2 q3 q4 q5 => ?_) (fun M4 q1 q2 q3 => ?_) m 0 [(zst p, 1)] zA0 0 _ _ _ _ _ _ _ (by omega) hFc (fun j x _ _ => hc58 j x) (fun i q hq => ?_) (show 1 ≤ 400 by decide) (fun q hq => ?_) (fun q hq => ?_) rfl (by rw [hc58 23 (by decide), b58]; exact h23) (by decide) ⟨k3.1, k3.2.1, k3.2.2⟩ (by rw [hprr, hm])
        · have hrun : zrun p := ⟨by rw [hprr]; exact hsl22, by rw [hrk]; exact q3⟩
          have := hQ M4 (zWF_tr hW3 ⟨zF_mo q1 (fun b hb => by omega), fun j _ x y z => q2 j x y z⟩) (by rw [q2 9 (by decide) (by decide) (by decide), b58]; exact h9a) (fun _ => ⟨by rw [hrk]; exact q4, ?_, by rw [hrk]; exact q5⟩)
          · rw [if_pos hrun] at this
            exact this
          · rw [(q1.2.1 74 (by omega) _).2, hprr]
            exact k2 _ (Nat.le_refl _)
        · have hnr : ¬ zrun p := fun z => by
            have := z.2
            rw [hrk, q3] at this
            exact absurd this (by decide)
          have := hQ M4 (zWF_tr hW3 ⟨zF_mo q1 (fun b hb => by omega), fun j _ x y z => q2 j x y z⟩) (by rw [q2 9 (by decide) (by decide) (by decide), b58]; exact h9a) (fun z => absurd z hnr)
          rw [if_neg hnr] at this
          exact this
        · have hi : i = 0 := by
            have := (List.getElem?_eq_some_iff.mp hq).1
            simp only [List.length_singleton] at this
            omega
          subst hi
          cases hq
          exact ⟨rfl, rfl⟩
        · simp only [List.mem_singleton] at hq
          rw [hq]
          exact hV
        · simp only [List.mem_singleton] at hq
          rw [hq]
          exact ⟨hz, Nat.one_ne_zero⟩
      · have hzw := zwin_e hz
        have he2 : zwe (zst p) < 2 := by unfold zwe; split <;> decide
        have hrk : zrk p = (true, ztl (po p) (pn p) zA0 (zst p) (6 ^ (pr p * pn p)) (zwe (zst p)) 0, 0) := by
          rw [zrk, if_pos hz]
        rw [zwm, if_neg hz, hzw]
        have e2 : (2 : Int32) ≤ nI (zwe (zst p)) ↔ False := by
          rw [c_2, n_le (by decide) (by omega)]
          exact ⟨fun z => by omega, fun z => z.elim⟩
        simp only [w129_124, w129_125, w129_128, w129_129, w129_132, w129_133, w129_134, w129_137, w129_138, w129_139, w129_142, w129_143, w129_144, w129_147, w129_148, zk_sI, zk_sJ, zk_sP, zn_sI, zn_sJ, zn_sP, zI_sI, zI_sJ, zI_sP, zJ_sI, zJ_sJ, zJ_sP, zP_sI, zP_sJ, zP_sP, Option.toList_some, Option.toList_none, List.cons_append, List.nil_append, zk_of hP3.1, zn_of hP3.1, zix, ziN, ne_eq, reduceCtorEq, not_false_eq_true, true_and, and_true, Option.getD_some, Nat.reduceLeDiff, Nat.reduceLT, c_ofNat, zkd58, zp_58_1 hP3, zp_58_2 hP3, zp_58_6 hP3, zp_58_7 hP3, zp_58_10 hP3, zp_58_11 hP3, zp_58_12 hP3, zp_58_14 hP3, zp_58_15 hP3, zp_58_17 hP3, zp_58_18 hP3, zp_58_19 hP3, zp_58_20 hP3, zp_58_21 hP3, zp_58_22 hP3, zp_58_24 hP3, zp_58_26 hP3, zp_58_29 hP3, zp_58_32 hP3, zp_58_33 hP3, zp_58_34 hP3, zp_58_35 hP3, zp_58_36 hP3, zp_58_37 hP3, zp_58_38 hP3, zp_58_39 hP3, zkd59, znd59, zfx59, zkd60, znd60, zfx60, zkd61, znd61, zfx61, zkd62, znd62, zfx62, zkd63, znd63, zfx63, zkd64, znd64, zfx64, zkd65, znd65, zfx65, zkd66, znd66, zfx66, zkd67, znd67, zfx67, zkd68, znd68, zfx68, zkd69, znd69, zfx69, zkd70, znd70, zfx70, zkd71, znd71, zfx71, zkd72, znd72, zfx72, zkd73, znd73, zfx73, zkd74, znd74, zfx74, e2, not_false_eq_true, false_implies, true_implies, true_and]
        refine s117 hP3 hS3 ?_
        rw [zwm, if_neg hz, hzw]
        simp only [w129_124, w129_125, w129_128, w129_129, w129_132, w129_133, w129_134, w129_137, w129_138, w129_139, w129_142, w129_143, w129_144, w129_147, w129_148, zk_sI, zk_sJ, zk_sP, zn_sI, zn_sJ, zn_sP, zI_sI, zI_sJ, zI_sP, zJ_sI, zJ_sJ, zJ_sP, zP_sI, zP_sJ, zP_sP, Option.toList_some, Option.toList_none, List.cons_append, List.nil_append, zk_of hP3.1, zn_of hP3.1, zix, ziN, ne_eq, reduceCtorEq, not_false_eq_true, true_and, and_true, Option.getD_some, Nat.reduceLeDiff, Nat.reduceLT, c_ofNat, zkd58, zp_58_1 hP3, zp_58_2 hP3, zp_58_6 hP3, zp_58_7 hP3, zp_58_10 hP3, zp_58_11 hP3, zp_58_12 hP3, zp_58_14 hP3, zp_58_15 hP3, zp_58_17 hP3, zp_58_18 hP3, zp_58_19 hP3, zp_58_20 hP3, zp_58_21 hP3, zp_58_22 hP3, zp_58_24 hP3, zp_58_26 hP3, zp_58_29 hP3, zp_58_32 hP3, zp_58_33 hP3, zp_58_34 hP3, zp_58_35 hP3, zp_58_36 hP3, zp_58_37 hP3, zp_58_38 hP3, zp_58_39 hP3, zkd59, znd59, zfx59, zkd60, znd60, zfx60, zkd61, znd61, zfx61, zkd62, znd62, zfx62, zkd63, znd63, zfx63, zkd64, znd64, zfx64, zkd65, znd65, zfx65, zkd66, znd66, zfx66, zkd67, znd67, zfx67, zkd68, znd68, zfx68, zkd69, znd69, zfx69, zkd70, znd70, zfx70, zkd71, znd71, zfx71, zkd72, znd72, zfx72, zkd73, znd73, zfx73, zkd74, znd74, zfx74, n_cl (show r * pn p < 2 ^ 31 by omega), n_in (show r * pn p < 24 by omega) (show 24 < 2 ^ 31 by decide), k2 _ (Nat.le_refl _)]
        refine s125 (od := po p) (n := pn p) (e := zwe (zst p)) (r := 0) (w := 6 ^ (r * pn p)) hP3 hS3 (zV_20 hp hV) k3 (by omega) (by decide) (fun M4 q1 q2 => ?_)
        simp only [w129_147, w129_148, zk_sI, zk_sJ, zk_sP, zn_sI, zn_sJ, zn_sP, zI_sI, zI_sJ, zI_sP, zJ_sI, zJ_sJ, zJ_sP, zP_sI, zP_sJ, zP_sP, Option.toList_some, Option.toList_none, List.cons_append, List.nil_append]
        have hrun : zrun p := ⟨by rw [hprr]; exact hsl22, by rw [hrk]⟩
        have := hQ M4 (zWF_tr hW3 ⟨zF_mo q1 (fun b hb => by omega), fun j _ _ _ _ => (q1.2.1 58 (by omega) j).1⟩) (by rw [(q1.2.1 58 (by omega) 9).1, b58]; exact h9a) (fun _ => ⟨?_, ?_, ?_⟩)
        · rw [if_pos hrun] at this
          exact this
        · rw [hrk, hprr]
          exact q2
        · rw [(q1.2.1 74 (by omega) _).2, hprr]
          exact k2 _ (Nat.le_refl _)
        · rw [(q1.2.1 58 (by omega) 23).1, b58, hrk]
          exact h23
    have l4 : ∀ (q i : Nat) (M3 : zf_M), i + q = 252 → zF (fun b => 71 ≤ b ∧ b ≤ 74) M2 M3 → (∀ j, j ≤ r * pn p → zf_J M3 74 j = lN (6 ^ j)) → (∀ j, j < 3 → zf_J M3 71 j = 0) → (∀ j, j < 7 → zf_J M3 72 j = 0) → (∀ j, j < i → zf_J M3 73 j = 0) → zW X 129 104 [.val (.ref 58), .val (.int (nI (r * pn p))), .val (.int (nI i)), .unset, .unset, .unset, .unset, .unset, .unset] [] M3 Q := by
      intro q
      induction q with
      | zero =>
        intro i M3 hi k1 k2 x1 x2 x3
        obtain rfl : i = 252 := by omega
        have hP3 := zPk_F hPa k1
        rw [w129_104]
        simp only [w129_105, w129_108, w129_111, w129_112, w129_115, w129_116, w129_117, w129_118, w129_121, zk_sI, zk_sJ, zk_sP, zn_sI, zn_sJ, zn_sP, zI_sI, zI_sJ, zI_sP, zJ_sI, zJ_sJ, zJ_sP, zP_sI, zP_sJ, zP_sP, Option.toList_some, Option.toList_none, List.cons_append, List.nil_append, zk_of hP3.1, zn_of hP3.1, zix, ziN, ne_eq, reduceCtorEq, not_false_eq_true, true_and, and_true, Option.getD_some, Nat.reduceLeDiff, Nat.reduceLT, c_ofNat, zkd58, zp_58_1 hP3, zp_58_2 hP3, zp_58_6 hP3, zp_58_7 hP3, zp_58_10 hP3, zp_58_11 hP3, zp_58_12 hP3, zp_58_14 hP3, zp_58_15 hP3, zp_58_17 hP3, zp_58_18 hP3, zp_58_19 hP3, zp_58_20 hP3, zp_58_21 hP3, zp_58_22 hP3, zp_58_24 hP3, zp_58_26 hP3, zp_58_29 hP3, zp_58_32 hP3, zp_58_33 hP3, zp_58_34 hP3, zp_58_35 hP3, zp_58_36 hP3, zp_58_37 hP3, zp_58_38 hP3, zp_58_39 hP3, zkd59, znd59, zfx59, zkd60, znd60, zfx60, zkd61, znd61, zfx61, zkd62, znd62, zfx62, zkd63, znd63, zfx63, zkd64, znd64, zfx64, zkd65, znd65, zfx65, zkd66, znd66, zfx66, zkd67, znd67, zfx67, zkd68, znd68, zfx68, zkd69, znd69, zfx69, zkd70, znd70, zfx70, zkd71, znd71, zfx71, zkd72, znd72, zfx72, zkd73, znd73, zfx73, zkd74, znd74, zfx74]
        exact ⟨fun _ => fin M3 k1 k2 ⟨x1, x2, fun k l u hk _ hl hu => x3 _ (by omega)⟩, fun z => absurd (by decide) z⟩
      | succ q ih =>
        intro i M3 hi k1 k2 x1 x2 x3
        have hP3 := zPk_F hPa k1
        rw [w129_104]
        simp only [w129_105, w129_108, w129_111, w129_112, w129_115, w129_116, w129_117, w129_118, w129_121, zk_sI, zk_sJ, zk_sP, zn_sI, zn_sJ, zn_sP, zI_sI, zI_sJ, zI_sP, zJ_sI, zJ_sJ, zJ_sP, zP_sI, zP_sJ, zP_sP, Option.toList_some, Option.toList_none, List.cons_append, List.nil_append, zk_of hP3.1, zn_of hP3.1, zix, ziN, ne_eq, reduceCtorEq, not_false_eq_true, true_and, and_true, Option.getD_some, Nat.reduceLeDiff, Nat.reduceLT, c_ofNat, zkd58, zp_58_1 hP3, zp_58_2 hP3, zp_58_6 hP3, zp_58_7 hP3, zp_58_10 hP3, zp_58_11 hP3, zp_58_12 hP3, zp_58_14 hP3, zp_58_15 hP3, zp_58_17 hP3, zp_58_18 hP3, zp_58_19 hP3, zp_58_20 hP3, zp_58_21 hP3, zp_58_22 hP3, zp_58_24 hP3, zp_58_26 hP3, zp_58_29 hP3, zp_58_32 hP3, zp_58_33 hP3, zp_58_34 hP3, zp_58_35 hP3, zp_58_36 hP3, zp_58_37 hP3, zp_58_38 hP3, zp_58_39 hP3, zkd59, znd59, zfx59, zkd60, znd60, zfx60, zkd61, znd61, zfx61, zkd62, znd62, zfx62, zkd63, znd63, zfx63, zkd64, znd64, zfx64, zkd65, znd65, zfx65, zkd66, znd66, zfx66, zkd67, znd67, zfx67, zkd68, znd68, zfx68, zkd69, znd69, zfx69, zkd70, znd70, zfx70, zkd71, znd71, zfx71, zkd72, znd72, zfx72, zkd73, znd73, zfx73, zkd74, znd74, zfx74, n_a1, n_cl (show i < 2 ^ 31 by omega), n_in (show i < 252 by omega) (show 252 < 2 ^ 31 by decide)]
        rw [show (252 : Int32) = nI 252 from rfl, n_le (by decide) (by omega)]
        refine ⟨fun z => by omega, fun _ => ih (i + 1) _ (by omega) (zF_sJ k1 (by omega)) k2 x1 x2 (fun j hj => ?_)⟩
        rw [zJ_sJ, if_pos rfl]
        by_cases e : j = i
        · rw [if_pos e]
        · rw [if_neg e]
          exact x3 j (by omega)
    have l3 : ∀ (q i : Nat) (M3 : zf_M), i + q = 7 → zF (fun b => 71 ≤ b ∧ b ≤ 74) M2 M3 → (∀ j, j ≤ r * pn p → zf_J M3 74 j = lN (6 ^ j)) → (∀ j, j < 3 → zf_J M3 71 j = 0) → (∀ j, j < i → zf_J M3 72 j = 0) → zW X 129 83 [.val (.ref 58), .val (.int (nI (r * pn p))), .val (.int (nI i)), .unset, .unset, .unset, .unset, .unset, .unset] [] M3 Q := by
      intro q
      induction q with
      | zero =>
        intro i M3 hi k1 k2 x1 x2
        obtain rfl : i = 7 := by omega
        have hP3 := zPk_F hPa k1
        rw [w129_83]
        simp only [w129_84, w129_86, w129_89, w129_90, w129_93, w129_94, w129_95, w129_96, w129_99, w129_102, w129_103, zk_sI, zk_sJ, zk_sP, zn_sI, zn_sJ, zn_sP, zI_sI, zI_sJ, zI_sP, zJ_sI, zJ_sJ, zJ_sP, zP_sI, zP_sJ, zP_sP, Option.toList_some, Option.toList_none, List.cons_append, List.nil_append, zk_of hP3.1, zn_of hP3.1, zix, ziN, ne_eq, reduceCtorEq, not_false_eq_true, true_and, and_true, Option.getD_some, Nat.reduceLeDiff, Nat.reduceLT, c_ofNat, zkd58, zp_58_1 hP3, zp_58_2 hP3, zp_58_6 hP3, zp_58_7 hP3, zp_58_10 hP3, zp_58_11 hP3, zp_58_12 hP3, zp_58_14 hP3, zp_58_15 hP3, zp_58_17 hP3, zp_58_18 hP3, zp_58_19 hP3, zp_58_20 hP3, zp_58_21 hP3, zp_58_22 hP3, zp_58_24 hP3, zp_58_26 hP3, zp_58_29 hP3, zp_58_32 hP3, zp_58_33 hP3, zp_58_34 hP3, zp_58_35 hP3, zp_58_36 hP3, zp_58_37 hP3, zp_58_38 hP3, zp_58_39 hP3, zkd59, znd59, zfx59, zkd60, znd60, zfx60, zkd61, znd61, zfx61, zkd62, znd62, zfx62, zkd63, znd63, zfx63, zkd64, znd64, zfx64, zkd65, znd65, zfx65, zkd66, znd66, zfx66, zkd67, znd67, zfx67, zkd68, znd68, zfx68, zkd69, znd69, zfx69, zkd70, znd70, zfx70, zkd71, znd71, zfx71, zkd72, znd72, zfx72, zkd73, znd73, zfx73, zkd74, znd74, zfx74]
        exact ⟨fun _ => l4 252 0 M3 rfl k1 k2 x1 x2 (fun j hj => by omega), fun z => absurd (by decide) z⟩
      | succ q ih =>
        intro i M3 hi k1 k2 x1 x2
        have hP3 := zPk_F hPa k1
        rw [w129_83]
        simp only [w129_84, w129_86, w129_89, w129_90, w129_93, w129_94, w129_95, w129_96, w129_99, w129_102, w129_103, zk_sI, zk_sJ, zk_sP, zn_sI, zn_sJ, zn_sP, zI_sI, zI_sJ, zI_sP, zJ_sI, zJ_sJ, zJ_sP, zP_sI, zP_sJ, zP_sP, Option.toList_some, Option.toList_none, List.cons_append, List.nil_append, zk_of hP3.1, zn_of hP3.1, zix, ziN, ne_eq, reduceCtorEq, not_false_eq_true, true_and, and_true, Option.getD_some, Nat.reduceLeDiff, Nat.reduceLT, c_ofNat, zkd58, zp_58_1 hP3, zp_58_2 hP3, zp_58_6 hP3, zp_58_7 hP3, zp_58_10 hP3, zp_58_11 hP3, zp_58_12 hP3, zp_58_14 hP3, zp_58_15 hP3, zp_58_17 hP3, zp_58_18 hP3, zp_58_19 hP3, zp_58_20 hP3, zp_58_21 hP3, zp_58_22 hP3, zp_58_24 hP3, zp_58_26 hP3, zp_58_29 hP3, zp_58_32 hP3, zp_58_33 hP3, zp_58_34 hP3, zp_58_35 hP3, zp_58_36 hP3, zp_58_37 hP3, zp_58_38 hP3, zp_58_39 hP3, zkd59, znd59, zfx59, zkd60, znd60, zfx60, zkd61, znd61, zfx61, zkd62, znd62, zfx62, zkd63, znd63, zfx63, zkd64, znd64, zfx64, zkd65, znd65, zfx65, zkd66, znd66, zfx66, zkd67, znd67, zfx67, zkd68, znd68, zfx68, zkd69, znd69, zfx69, zkd70, znd70, zfx70, zkd71, znd71, zfx71, zkd72, znd72, zfx72, zkd73, znd73, zfx73, zkd74, znd74, zfx74, n_a1, n_cl (show i < 2 ^ 31 by omega), n_in (show i < 7 by omega) (show 7 < 2 ^ 31 by decide)]
        rw [show (7 : Int32) = nI 7 from rfl, n_le (by decide) (by omega)]
        refine ⟨fun z => by omega, fun _ => ih (i + 1) _ (by omega) (zF_sJ k1 (by omega)) k2 x1 (fun j hj => ?_)⟩
        rw [zJ_sJ, if_pos rfl]
        by_cases e : j = i
        · rw [if_pos e]
        · rw [if_neg e]
          exact x2 j (by omega)
    have l2 : ∀ (q i : Nat) (M3 : zf_M), i + q = 3 → zF (fun b => 71 ≤ b ∧ b ≤ 74) M2 M3 → (∀ j, j ≤ r * pn p → zf_J M3 74 j = lN (6 ^ j)) → (∀ j, j < i → zf_J M3 71 j = 0) → zW X 129 63 [.val (.ref 58), .val (.int (nI (r * pn p))), .val (.int (nI i)), .unset, .unset, .unset, .unset, .unset, .unset] [] M3 Q := by
      intro q
      induction q with
      | zero =>
        intro i M3 hi k1 k2 x1
        obtain rfl : i = 3 := by omega
        have hP3 := zPk_F hPa k1
        rw [w129_63]
        simp only [w129_64, w129_65, w129_68, w129_69, w129_72, w129_73, w129_74, w129_75, w129_78, w129_81, w129_82, zk_sI, zk_sJ, zk_sP, zn_sI, zn_sJ, zn_sP, zI_sI, zI_sJ, zI_sP, zJ_sI, zJ_sJ, zJ_sP, zP_sI, zP_sJ, zP_sP, Option.toList_some, Option.toList_none, List.cons_append, List.nil_append, zk_of hP3.1, zn_of hP3.1, zix, ziN, ne_eq, reduceCtorEq, not_false_eq_true, true_and, and_true, Option.getD_some, Nat.reduceLeDiff, Nat.reduceLT, c_ofNat, zkd58, zp_58_1 hP3, zp_58_2 hP3, zp_58_6 hP3, zp_58_7 hP3, zp_58_10 hP3, zp_58_11 hP3, zp_58_12 hP3, zp_58_14 hP3, zp_58_15 hP3, zp_58_17 hP3, zp_58_18 hP3, zp_58_19 hP3, zp_58_20 hP3, zp_58_21 hP3, zp_58_22 hP3, zp_58_24 hP3, zp_58_26 hP3, zp_58_29 hP3, zp_58_32 hP3, zp_58_33 hP3, zp_58_34 hP3, zp_58_35 hP3, zp_58_36 hP3, zp_58_37 hP3, zp_58_38 hP3, zp_58_39 hP3, zkd59, znd59, zfx59, zkd60, znd60, zfx60, zkd61, znd61, zfx61, zkd62, znd62, zfx62, zkd63, znd63, zfx63, zkd64, znd64, zfx64, zkd65, znd65, zfx65, zkd66, znd66, zfx66, zkd67, znd67, zfx67, zkd68, znd68, zfx68, zkd69, znd69, zfx69, zkd70, znd70, zfx70, zkd71, znd71, zfx71, zkd72, znd72, zfx72, zkd73, znd73, zfx73, zkd74, znd74, zfx74]
        exact ⟨fun _ => l3 7 0 M3 rfl k1 k2 x1 (fun j hj => by omega), fun z => absurd (by decide) z⟩
      | succ q ih =>
        intro i M3 hi k1 k2 x1
        have hP3 := zPk_F hPa k1
        rw [w129_63]
        simp only [w129_64, w129_65, w129_68, w129_69, w129_72, w129_73, w129_74, w129_75, w129_78, w129_81, w129_82, zk_sI, zk_sJ, zk_sP, zn_sI, zn_sJ, zn_sP, zI_sI, zI_sJ, zI_sP, zJ_sI, zJ_sJ, zJ_sP, zP_sI, zP_sJ, zP_sP, Option.toList_some, Option.toList_none, List.cons_append, List.nil_append, zk_of hP3.1, zn_of hP3.1, zix, ziN, ne_eq, reduceCtorEq, not_false_eq_true, true_and, and_true, Option.getD_some, Nat.reduceLeDiff, Nat.reduceLT, c_ofNat, zkd58, zp_58_1 hP3, zp_58_2 hP3, zp_58_6 hP3, zp_58_7 hP3, zp_58_10 hP3, zp_58_11 hP3, zp_58_12 hP3, zp_58_14 hP3, zp_58_15 hP3, zp_58_17 hP3, zp_58_18 hP3, zp_58_19 hP3, zp_58_20 hP3, zp_58_21 hP3, zp_58_22 hP3, zp_58_24 hP3, zp_58_26 hP3, zp_58_29 hP3, zp_58_32 hP3, zp_58_33 hP3, zp_58_34 hP3, zp_58_35 hP3, zp_58_36 hP3, zp_58_37 hP3, zp_58_38 hP3, zp_58_39 hP3, zkd59, znd59, zfx59, zkd60, znd60, zfx60, zkd61, znd61, zfx61, zkd62, znd62, zfx62, zkd63, znd63, zfx63, zkd64, znd64, zfx64, zkd65, znd65, zfx65, zkd66, znd66, zfx66, zkd67, znd67, zfx67, zkd68, znd68, zfx68, zkd69, znd69, zfx69, zkd70, znd70, zfx70, zkd71, znd71, zfx71, zkd72, znd72, zfx72, zkd73, znd73, zfx73, zkd74, znd74, zfx74, n_a1, n_cl (show i < 2 ^ 31 by omega), n_in (show i < 3 by omega) (show 3 < 2 ^ 31 by decide)]
        rw [c_3, n_le (by decide) (by omega)]
        refine ⟨fun z => by omega, fun _ => ih (i + 1) _ (by omega) (zF_sJ k1 (by omega)) k2 (fun j hj => ?_)⟩
        rw [zJ_sJ, if_pos rfl]
        by_cases e : j = i
        · rw [if_pos e]
        · rw [if_neg e]
          exact x1 j (by omega)
    have l1 : ∀ (q i : Nat) (M3 : zf_M), i + q = r * pn p → zF (fun b => 71 ≤ b ∧ b ≤ 74) M2 M3 → (∀ j, j ≤ i → zf_J M3 74 j = lN (6 ^ j)) → zW X 129 32 [.val (.ref 58), .val (.int (nI (r * pn p))), .val (.int (nI (i + 1))), .unset, .unset, .unset, .unset, .unset, .unset] [] M3 Q := by
      intro q
      induction q with
      | zero =>
        intro i M3 hi k1 k2
        have hP3 := zPk_F hPa k1
        rw [w129_32]
        simp only [w129_33, w129_34, w129_37, w129_38, w129_41, w129_42, w129_45, w129_46, w129_49, w129_50, w129_51, w129_52, w129_53, w129_54, w129_55, w129_58, w129_61, w129_62, zk_sI, zk_sJ, zk_sP, zn_sI, zn_sJ, zn_sP, zI_sI, zI_sJ, zI_sP, zJ_sI, zJ_sJ, zJ_sP, zP_sI, zP_sJ, zP_sP, Option.toList_some, Option.toList_none, List.cons_append, List.nil_append, zk_of hP3.1, zn_of hP3.1, zix, ziN, ne_eq, reduceCtorEq, not_false_eq_true, true_and, and_true, Option.getD_some, Nat.reduceLeDiff, Nat.reduceLT, c_ofNat, zkd58, zp_58_1 hP3, zp_58_2 hP3, zp_58_6 hP3, zp_58_7 hP3, zp_58_10 hP3, zp_58_11 hP3, zp_58_12 hP3, zp_58_14 hP3, zp_58_15 hP3, zp_58_17 hP3, zp_58_18 hP3, zp_58_19 hP3, zp_58_20 hP3, zp_58_21 hP3, zp_58_22 hP3, zp_58_24 hP3, zp_58_26 hP3, zp_58_29 hP3, zp_58_32 hP3, zp_58_33 hP3, zp_58_34 hP3, zp_58_35 hP3, zp_58_36 hP3, zp_58_37 hP3, zp_58_38 hP3, zp_58_39 hP3, zkd59, znd59, zfx59, zkd60, znd60, zfx60, zkd61, znd61, zfx61, zkd62, znd62, zfx62, zkd63, znd63, zfx63, zkd64, znd64, zfx64, zkd65, znd65, zfx65, zkd66, znd66, zfx66, zkd67, znd67, zfx67, zkd68, znd68, zfx68, zkd69, znd69, zfx69, zkd70, znd70, zfx70, zkd71, znd71, zfx71, zkd72, znd72, zfx72, zkd73, znd73, zfx73, zkd74, znd74, zfx74]
        rw [n_lt (by omega) (by omega)]
        exact ⟨fun _ => l2 3 0 M3 rfl k1 (fun j hj => k2 j (by omega)) (fun j hj => by omega), fun z => by omega⟩
      | succ q ih =>
        intro i M3 hi k1 k2
        have hP3 := zPk_F hPa k1
        have e1 : nI (i + 1) - 1 = nI i := nI_pred i
        have e6 : (6 : Int64) * lN (6 ^ i) = lN (6 ^ (i + 1)) := by
          have : (6 : Int64) * lN (6 ^ i) = lN (6 * 6 ^ i) := lN_mul 6 _
          rw [this, Nat.pow_succ, Nat.mul_comm]
        rw [w129_32]
        simp only [w129_33, w129_34, w129_37, w129_38, w129_41, w129_42, w129_45, w129_46, w129_49, w129_50, w129_51, w129_52, w129_53, w129_54, w129_55, w129_58, w129_61, w129_62, zk_sI, zk_sJ, zk_sP, zn_sI, zn_sJ, zn_sP, zI_sI, zI_sJ, zI_sP, zJ_sI, zJ_sJ, zJ_sP, zP_sI, zP_sJ, zP_sP, Option.toList_some, Option.toList_none, List.cons_append, List.nil_append, zk_of hP3.1, zn_of hP3.1, zix, ziN, ne_eq, reduceCtorEq, not_false_eq_true, true_and, and_true, Option.getD_some, Nat.reduceLeDiff, Nat.reduceLT, c_ofNat, zkd58, zp_58_1 hP3, zp_58_2 hP3, zp_58_6 hP3, zp_58_7 hP3, zp_58_10 hP3, zp_58_11 hP3, zp_58_12 hP3, zp_58_14 hP3, zp_58_15 hP3, zp_58_17 hP3, zp_58_18 hP3, zp_58_19 hP3, zp_58_20 hP3, zp_58_21 hP3, zp_58_22 hP3, zp_58_24 hP3, zp_58_26 hP3, zp_58_29 hP3, zp_58_32 hP3, zp_58_33 hP3, zp_58_34 hP3, zp_58_35 hP3, zp_58_36 hP3, zp_58_37 hP3, zp_58_38 hP3, zp_58_39 hP3, zkd59, znd59, zfx59, zkd60, znd60, zfx60, zkd61, znd61, zfx61, zkd62, znd62, zfx62, zkd63, znd63, zfx63, zkd64, znd64, zfx64, zkd65, znd65, zfx65, zkd66, znd66, zfx66, zkd67, znd67, zfx67, zkd68, znd68, zfx68, zkd69, znd69, zfx69, zkd70, znd70, zfx70, zkd71, znd71, zfx71, zkd72, znd72, zfx72, zkd73, znd73, zfx73, zkd74, znd74, zfx74, e1, k2 i (Nat.le_refl _), e6, n_a1, n_cl (show i < 2 ^ 31 by omega), n_cl (show i + 1 < 2 ^ 31 by omega), n_in (show i < 24 by omega) (show 24 < 2 ^ 31 by decide), n_in (show i + 1 < 24 by omega) (show 24 < 2 ^ 31 by decide)]
        rw [n_lt (by omega) (by omega)]
        refine ⟨fun z => by omega, fun _ => ih (i + 1) _ (by omega) (zF_sJ k1 (by omega)) (fun j hj => ?_)⟩
        rw [zJ_sJ, if_pos rfl]
        by_cases e : j = i + 1
        · rw [if_pos e, e]
        · rw [if_neg e]
          exact k2 j (by omega)
    refine ⟨vp_in_nI (by decide) (by decide), l1 (r * pn p) 0 _ (Nat.zero_add _) (zF_sJ (zF_rf _ _) (by omega)) (fun j hj => ?_)⟩
    obtain rfl : j = 0 := by omega
    rfl
  · have hnr : ¬ zrun p := fun z => by
      have := z.1
      rw [hprr] at this
      omega
    have := hQ M2 hWa h9a (fun z => absurd z hnr)
    rw [if_neg hnr] at this
    exact this
end ZMz
