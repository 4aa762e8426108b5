/-! ===== the model: works, one state ===== -/
theorem zV_20 {p : zPm} {N : Nat} (hp : zPo p) (h : zV p N) : ∀ j, j < 6 → dg N j % 32 ≤ 20 := by
  intro j hj
  by_cases e : dg N j = 0
  · omega
  · obtain ⟨⟨i, i1, i2⟩, h2⟩ := h.2 j hj e
    have := (hp.2.2.2.1 i i1).2.2.1
    rw [i2] at this
    omega
/-- what a fight of the model begins with -/
def zMS (c : zCs) (n : Nat) (am su : Int32) (r : Nat) (M : zf_M) : Prop := zMC c n M ∧ (∀ k, k < 6 → zf_I M 62 k = nI (c.2.2 k) ∧ c.2.2 k ≤ 9) ∧ zf_I M 58 3 = nI r ∧ zf_I M 58 4 = am ∧ zf_I M 58 8 = su ∧ 1 ≤ r ∧ r ≤ 6
/-- and what works holds fast -/
def zMF (c : zCs) (n : Nat) (am su : Int32) (r : Nat) (M : zf_M) : Prop := zMS c n am su r M ∧ zf_I M 58 9 = nI (zol c 6).length ∧ ∀ i, i < (zol c 6).length → zf_I M 63 i = nI (zod c i)
theorem zMS_F {S : Nat → Prop} {M M1 : zf_M} {c : zCs} {n r : Nat} {am su : Int32} (h : zMS c n am su r M) (hF : zF S M M1) (h1 : ¬ S 59) (h2 : ¬ S 61) (h3 : ¬ S 62) (h4 : ∀ j, j = 3 ∨ j = 4 ∨ j = 8 → zf_I M1 58 j = zf_I M 58 j) : zMS c n am su r M1 := by
  obtain ⟨a1, a2, a3, a4, a5, a6⟩ := h
  exact ⟨zMC_F a1 hF h1 h2, fun k hk => by rw [(hF.2.1 62 h3 k).1]; exact a2 k hk, by rw [h4 3 (by omega)]; exact a3, by rw [h4 4 (by omega)]; exact a4, by rw [h4 8 (by omega)]; exact a5, a6⟩
theorem zMF_F {S : Nat → Prop} {M M1 : zf_M} {c : zCs} {n r : Nat} {am su : Int32} (h : zMF c n am su r M) (hF : zF S M M1) (h1 : ¬ S 59) (h2 : ¬ S 61) (h3 : ¬ S 62) (h5 : ¬ S 63) (h4 : ∀ j, j = 3 ∨ j = 4 ∨ j = 8 ∨ j = 9 → zf_I M1 58 j = zf_I M 58 j) : zMF c n am su r M1 :=
  ⟨zMS_F h.1 hF h1 h2 h3 (fun j hj => h4 j (by omega)), by rw [h4 9 (by omega)]; exact h.2.1, fun i hi => by rw [(hF.2.1 63 h5 i).1]; exact h.2.2 i hi⟩
/-- states and ways ahead -/
def zML (M : zf_M) (L : List (Nat × Nat)) : Prop := ∀ i q, L[i]? = some q → zf_J M 66 i = lN (zpk q.1 6) ∧ zf_J M 67 i = lN q.2
theorem zML_F {S : Nat → Prop} {M M1 : zf_M} {L : List (Nat × Nat)} (h : zML M L) (hF : zF S M M1) (h1 : ¬ S 66) (h2 : ¬ S 67) : zML M1 L := fun i q hq => by
  rw [(hF.2.1 66 h1 i).2, (hF.2.1 67 h2 i).2]
  exact h i q hq
theorem zps_0 (p : zPm) (bh r : Nat) (la : Bool) (S : List (Nat × Nat) × zA) (N : Nat) : zps p bh r la S N 0 = S := by
  unfold zps
  rw [if_pos rfl]
section ZMw
variable {X : zf_X} {M : zf_M} {Q : Option Value → zf_M → Prop} {n : Nat} {c : zCs} {am su : Int32} {r : Nat} {p : zPm}
theorem s129b {L : List (Nat × Nat)} {i k rd bh N w : Nat} {S : List (Nat × Nat) × zA} {sl t : Int32} {l8 : Slot} (hpe : p = zpm c am su r) (hp : zPo p) (hP : zPk M) (hF : zMF c n am su r M) (hi : L[i]? = some (N, w)) (hL : zML M L) (hl4 : L.length ≤ 400) (hV : zV p N) (hz : zwin N = -1) (hw : w ≠ 0) (hk : ∃ q, q < pn p ∧ po p q = k) (hrd : rd < 6) (hK : zTL M S.1) (hlen : S.1.length < 799) (hA : zAN M S.2 (zon p)) (h13 : zf_I M 58 13 = nI L.length)
    (h : ∀ M1 l8, zF (fun c => c = 58 ∨ 64 ≤ c ∧ c ≤ 65 ∨ 68 ≤ c ∧ c ≤ 73) M M1 → (∀ j, j ≠ 16 → zf_I M1 58 j = zf_I M 58 j) → zTL M1 (zst1 p bh (rd + 1) false w S (zouts p (rd + 1) k N)).1 → zAN M1 (zst1 p bh (rd + 1) false w S (zouts p (rd + 1) k N)).2 (zon p) → zW X 129 269 [.val (.ref 58), .val (.int sl), .val (.int t), .val (.int (nI rd)), .val (.int (nI k)), .val (.long (lN bh)), .second, .val (.int (nI (i + 1))), l8] [] M1 Q) :
    zW X 129 269 [.val (.ref 58), .val (.int sl), .val (.int t), .val (.int (nI rd)), .val (.int (nI k)), .val (.long (lN bh)), .second, .val (.int (nI i)), l8] [] M Q := by
  have hil := (List.getElem?_eq_some_iff.mp hi).1
  obtain ⟨m1, m2⟩ := hL i _ hi
  obtain ⟨kq, kq1, kq2⟩ := hk
  have hk6 : k < 6 := by rw [← kq2]; exact hp.2.1 kq kq1
  have hph := (hp.2.2.2.1 kq kq1).2.2.2.1
  rw [kq2] at hph
  have f1 : ps p = su := by rw [hpe]; rfl
  have f2 : pe p k = znu c k 4 := by rw [hpe]; rfl
  have f3 : ph p k = znu c k 2 := by rw [hpe]; rfl
  have f4 : zhit (nI (pk p k)) (pa p) (pf p k) (pl p) N k = zhit (nI (znu c k 0)) am (znu c k 3 + c.2.2 k) (fun j => znu c j 1) N k := by rw [hpe]; rfl
  have f5 : c.2.1 k ≠ none := by
    rw [hpe] at kq1 kq2
    have := (zod_6 (c := c) kq1).2
    rw [← kq2]
    exact this
  have f6 : ∀ j, j < 6 → 32 ≤ dg N j → c.2.1 j ≠ none ∧ dg N j % 32 ≤ znu c j 1 := by
    intro j hj hu
    obtain ⟨⟨q, q1, q2⟩, g2⟩ := hV.2 j hj (by omega)
    rw [hpe] at q1 q2 g2
    have := (zod_6 (c := c) q1).2
    refine ⟨?_, g2⟩
    rw [← q2]
    exact this
  have hov := zouts_V (r := rd + 1) hp hV hk6
  have h20 := zV_20 hp hV
  have hX := hF.1.1
  have hsu := hF.1.2.2.2.2.1
  have ham := hF.1.2.2.2.1
  have hfo := hF.1.2.1
  have e6 : (6 : Int64) * lN w = lN (6 * w) := lN_mul 6 w
  have hw6 : 6 * w ≠ 0 := by omega
  cases hf : c.2.1 k with
  | none => exact absurd hf f5
  | some f =>
  have hfn := hX.2.2 k f hf
  have hn16 := hX.1.1.1
  rw [w129_269]
  simp only [w129_271, w129_272, w129_275, w129_278, w129_279, w129_280, w129_283, w129_285, w129_286, zk_sI, zk_sJ, zk_sP, zn_sI, zn_sJ, zn_sP, zI_sI, zI_sJ, zI_sP, zJ_sI, zJ_sJ, zJ_sP, zP_sI, zP_sJ, zP_sP, Option.toList_some, Option.toList_none, List.cons_append, List.nil_append, zk_of hP.1, zn_of hP.1, zix, ziN, ne_eq, reduceCtorEq, not_false_eq_true, true_and, and_true, Option.getD_some, Nat.reduceLeDiff, Nat.reduceLT, c_ofNat, zkd58, zp_58_1 hP, zp_58_2 hP, zp_58_6 hP, zp_58_7 hP, zp_58_10 hP, zp_58_11 hP, zp_58_12 hP, zp_58_14 hP, zp_58_15 hP, zp_58_17 hP, zp_58_18 hP, zp_58_19 hP, zp_58_20 hP, zp_58_21 hP, zp_58_22 hP, zp_58_24 hP, zp_58_26 hP, zp_58_29 hP, zp_58_32 hP, zp_58_33 hP, zp_58_34 hP, zp_58_35 hP, zp_58_36 hP, zp_58_37 hP, zp_58_38 hP, zp_58_39 hP, zkd59, znd59, zfx59, zkd60, znd60, zfx60, zkd61, znd61, zfx61, zkd62, znd62, zfx62, zkd63, znd63, zfx63, zkd64, znd64, zfx64, zkd65, znd65, zfx65, zkd66, znd66, zfx66, zkd67, znd67, zfx67, zkd68, znd68, zfx68, zkd69, znd69, zfx69, zkd70, znd70, zfx70, zkd71, znd71, zfx71, zkd72, znd72, zfx72, zkd73, znd73, zfx73, zkd74, znd74, zfx74, h13, n_cl (show i < 2 ^ 31 by omega), n_in (show i < 400 by omega) (show 400 < 2 ^ 31 by decide), m1]
  rw [n_le (by omega) (by omega)]
  refine ⟨fun z => by omega, fun _ => ?_⟩
  refine s124b hP (fun M1 g1 g2 => ?_)
  have hP1 := zPk_F hP g1
  have b58 : ∀ j, zf_I M1 58 j = zf_I M 58 j := fun j => (g1.2.1 58 (by omega) j).1
  have hX1 := zMC_F hX g1 (by omega) (by omega)
  have hK1 := zTL_F hK g1 (b58 16) (by omega) (by omega) (by omega)
  have hA1 := zAN_F hA g1 (by omega) (by omega) (by omega)
  have m2' : zf_J M1 67 i = lN w := by rw [(g1.2.1 67 (by omega) i).2]; exact m2
  have ew : zf_I M1 61 k = nI f := by rw [hX1.2.1 k hk6, hf]; rfl
  have e62 : (6 : Int32) * nI f + 2 = nI (6 * f + 2) := by rw [n_m6]; exact nI_add _ 2
  have e7 : zf_I M1 59 (6 * f + 2) = nI (ph p k) := by
    rw [hX1.1.2 (6 * f + 2) (by omega), f3]
    simp only [znu, hf]
  have hg1 : zF (fun c => c = 58 ∨ 64 ≤ c ∧ c ≤ 65 ∨ 68 ≤ c ∧ c ≤ 73) M M1 := zF_mo g1 (fun c hc => by omega)
  simp only [w129_286, w129_289, w129_290, w129_292, w129_293, zk_sI, zk_sJ, zk_sP, zn_sI, zn_sJ, zn_sP, zI_sI, zI_sJ, zI_sP, zJ_sI, zJ_sJ, zJ_sP, zP_sI, zP_sJ, zP_sP, Option.toList_some, Option.toList_none, List.cons_append, List.nil_append, zk_of hP1.1, zn_of hP1.1, zix, ziN, ne_eq, reduceCtorEq, not_false_eq_true, true_and, and_true, Option.getD_some, Nat.reduceLeDiff, Nat.reduceLT, c_ofNat, zkd58, zp_58_1 hP1, zp_58_2 hP1, zp_58_6 hP1, zp_58_7 hP1, zp_58_10 hP1, zp_58_11 hP1, zp_58_12 hP1, zp_58_14 hP1, zp_58_15 hP1, zp_58_17 hP1, zp_58_18 hP1, zp_58_19 hP1, zp_58_20 hP1, zp_58_21 hP1, zp_58_22 hP1, zp_58_24 hP1, zp_58_26 hP1, zp_58_29 hP1, zp_58_32 hP1, zp_58_33 hP1, zp_58_34 hP1, zp_58_35 hP1, zp_58_36 hP1, zp_58_37 hP1, zp_58_38 hP1, zp_58_39 hP1, zkd59, znd59, zfx59, zkd60, znd60, zfx60, zkd61, znd61, zfx61, zkd62, znd62, zfx62, zkd63, znd63, zfx63, zkd64, znd64, zfx64, zkd65, znd65, zfx65, zkd66, znd66, zfx66, zkd67, znd67, zfx67, zkd68, znd68, zfx68, zkd69, znd69, zfx69, zkd70, znd70, zfx70, zkd71, znd71, zfx71, zkd72, znd72, zfx72, zkd73, znd73, zfx73, zkd74, znd74, zfx74]
  refine s120 hP1 g2 hk6 (by omega) ?_
  rw [b58 8, hsu]
  simp only [w129_296, w129_299, w129_300, w129_303, w129_304, w129_307, w129_309, w129_310, w129_311, w129_314, w129_317, zk_sI, zk_sJ, zk_sP, zn_sI, zn_sJ, zn_sP, zI_sI, zI_sJ, zI_sP, zJ_sI, zJ_sJ, zJ_sP, zP_sI, zP_sJ, zP_sP, Option.toList_some, Option.toList_none, List.cons_append, List.nil_append, zk_of hP1.1, zn_of hP1.1, zix, ziN, ne_eq, reduceCtorEq, not_false_eq_true, true_and, and_true, Option.getD_some, Nat.reduceLeDiff, Nat.reduceLT, c_ofNat, zkd58, zp_58_1 hP1, zp_58_2 hP1, zp_58_6 hP1, zp_58_7 hP1, zp_58_10 hP1, zp_58_11 hP1, zp_58_12 hP1, zp_58_14 hP1, zp_58_15 hP1, zp_58_17 hP1, zp_58_18 hP1, zp_58_19 hP1, zp_58_20 hP1, zp_58_21 hP1, zp_58_22 hP1, zp_58_24 hP1, zp_58_26 hP1, zp_58_29 hP1, zp_58_32 hP1, zp_58_33 hP1, zp_58_34 hP1, zp_58_35 hP1, zp_58_36 hP1, zp_58_37 hP1, zp_58_38 hP1, zp_58_39 hP1, zkd59, znd59, zfx59, zkd60, znd60, zfx60, zkd61, znd61, zfx61, zkd62, znd62, zfx62, zkd63, znd63, zfx63, zkd64, znd64, zfx64, zkd65, znd65, zfx65, zkd66, znd66, zfx66, zkd67, znd67, zfx67, zkd68, znd68, zfx68, zkd69, znd69, zfx69, zkd70, znd70, zfx70, zkd71, znd71, zfx71, zkd72, znd72, zfx72, zkd73, znd73, zfx73, zkd74, znd74, zfx74, zB_0, n_cl (show i < 2 ^ 31 by omega), n_in (show i < 400 by omega) (show 400 < 2 ^ 31 by decide), m2', e6]
  refine ⟨fun ht => ?_, fun ht => ?_⟩
  · have ht2 := Classical.not_not.mp ht
    have hu := ht2.1
    have hz0 : zouts p (rd + 1) k N = if dg N k % 32 ≤ pe p k then [(sd N k (dg N k % 32), 6)] else [(N, 6 - ph p k), (zhit (nI (pk p k)) (pa p) (pf p k) (pl p) N k, ph p k)] := by
      unfold zouts
      rw [if_neg (by rw [f1]; exact fun z => z ht2)]
    rw [hz0] at h hov
    simp only [w129_318, w129_320, zk_sI, zk_sJ, zk_sP, zn_sI, zn_sJ, zn_sP, zI_sI, zI_sJ, zI_sP, zJ_sI, zJ_sJ, zJ_sP, zP_sI, zP_sJ, zP_sP, Option.toList_some, Option.toList_none, List.cons_append, List.nil_append, zk_of hP1.1, zn_of hP1.1, zix, ziN, ne_eq, reduceCtorEq, not_false_eq_true, true_and, and_true, Option.getD_some, Nat.reduceLeDiff, Nat.reduceLT, c_ofNat, zkd58, zp_58_1 hP1, zp_58_2 hP1, zp_58_6 hP1, zp_58_7 hP1, zp_58_10 hP1, zp_58_11 hP1, zp_58_12 hP1, zp_58_14 hP1, zp_58_15 hP1, zp_58_17 hP1, zp_58_18 hP1, zp_58_19 hP1, zp_58_20 hP1, zp_58_21 hP1, zp_58_22 hP1, zp_58_24 hP1, zp_58_26 hP1, zp_58_29 hP1, zp_58_32 hP1, zp_58_33 hP1, zp_58_34 hP1, zp_58_35 hP1, zp_58_36 hP1, zp_58_37 hP1, zp_58_38 hP1, zp_58_39 hP1, zkd59, znd59, zfx59, zkd60, znd60, zfx60, zkd61, znd61, zfx61, zkd62, znd62, zfx62, zkd63, znd63, zfx63, zkd64, znd64, zfx64, zkd65, znd65, zfx65, zkd66, znd66, zfx66, zkd67, znd67, zfx67, zkd68, znd68, zfx68, zkd69, znd69, zfx69, zkd70, znd70, zfx70, zkd71, znd71, zfx71, zkd72, znd72, zfx72, zkd73, znd73, zfx73, zkd74, znd74, zfx74]
    refine s121 hP1 hX1 g2 hk6 hf ?_
    rw [f2] at h hov
    simp only [w129_323, w129_326, w129_327, w129_330, w129_332, w129_333, w129_334, w129_335, w129_336, w129_339, w129_340, w129_343, w129_345, w129_346, w129_347, w129_349, w129_352, w129_355, w129_356, w129_359, w129_361, w129_362, w129_365, w129_367, w129_368, w129_369, w129_370, w129_371, w129_372, w129_374, w129_376, w129_378, w129_381, w129_382, w129_385, w129_387, w129_388, w129_389, w129_390, w129_393, w129_395, w129_396, w129_397, zk_sI, zk_sJ, zk_sP, zn_sI, zn_sJ, zn_sP, zI_sI, zI_sJ, zI_sP, zJ_sI, zJ_sJ, zJ_sP, zP_sI, zP_sJ, zP_sP, Option.toList_some, Option.toList_none, List.cons_append, List.nil_append, zk_of hP1.1, zn_of hP1.1, zix, ziN, ne_eq, reduceCtorEq, not_false_eq_true, true_and, and_true, Option.getD_some, Nat.reduceLeDiff, Nat.reduceLT, c_ofNat, zkd58, zp_58_1 hP1, zp_58_2 hP1, zp_58_6 hP1, zp_58_7 hP1, zp_58_10 hP1, zp_58_11 hP1, zp_58_12 hP1, zp_58_14 hP1, zp_58_15 hP1, zp_58_17 hP1, zp_58_18 hP1, zp_58_19 hP1, zp_58_20 hP1, zp_58_21 hP1, zp_58_22 hP1, zp_58_24 hP1, zp_58_26 hP1, zp_58_29 hP1, zp_58_32 hP1, zp_58_33 hP1, zp_58_34 hP1, zp_58_35 hP1, zp_58_36 hP1, zp_58_37 hP1, zp_58_38 hP1, zp_58_39 hP1, zkd59, znd59, zfx59, zkd60, znd60, zfx60, zkd61, znd61, zfx61, zkd62, znd62, zfx62, zkd63, znd63, zfx63, zkd64, znd64, zfx64, zkd65, znd65, zfx65, zkd66, znd66, zfx66, zkd67, znd67, zfx67, zkd68, znd68, zfx68, zkd69, znd69, zfx69, zkd70, znd70, zfx70, zkd71, znd71, zfx71, zkd72, znd72, zfx72, zkd73, znd73, zfx73, zkd74, znd74, zfx74, zB_0, n_cl (show i < 2 ^ 31 by omega), n_in (show i < 400 by omega) (show 400 < 2 ^ 31 by decide), n_cl (show k < 2 ^ 31 by omega), n_in hk6 (show 6 < 2 ^ 31 by decide), m2', e6, ew, e62, e7, n_cl (show 6 * f + 2 < 2 ^ 31 by omega), n_in (show 6 * f + 2 < 96 by omega) (show 96 < 2 ^ 31 by decide)]
    have ey : ∀ a, (nI a).toInt64 = lN a → (6 : Int64) - (nI a).toInt64 = (6 : Int64) - lN a := fun a e => by rw [e]
    refine ⟨fun hfl => ?_, fun hfl => ?_⟩
    · rw [if_neg hfl] at h hov
      have hst : zst1 p bh (rd + 1) false w S [(N, 6 - ph p k), (zhit (nI (pk p k)) (pa p) (pf p k) (pl p) N k, ph p k)] = zps p bh (rd + 1) false (zps p bh (rd + 1) false S N ((6 - ph p k) * w)) (zhit (nI (pk p k)) (pa p) (pf p k) (pl p) N k) (ph p k * w) := rfl
      rw [hst] at h
      have hHV := hov _ (List.mem_cons_of_mem _ List.mem_cons_self)
      have K2 : ∀ (M2 : zf_M) (S2 : List (Nat × Nat) × zA), zF (fun c => c = 58 ∨ 68 ≤ c ∧ c ≤ 73) M1 M2 → (∀ j, j ≠ 16 → zf_I M2 58 j = zf_I M1 58 j) → zTL M2 S2.1 → zAN M2 S2.2 (zon p) → S2.1.length < 800 → S2 = zps p bh (rd + 1) false S N ((6 - ph p k) * w) → zW X 129 400 [.val (.ref 58), .val (.int sl), .val (.int t), .val (.int (nI rd)), .val (.int (nI k)), .val (.long (lN bh)), .second, .val (.int (nI i)), .val (.int (nI (ph p k)))] [] M2 Q := by
        intro M2 S2 q1 q2 q3 q4 q5 q6
        have hP2 := zPk_F hP1 q1
        rw [← q6] at h
        have m3 : zf_J M2 67 i = lN w := by rw [(q1.2.1 67 (by omega) i).2]; exact m2'
        have hg2 : zF (fun c => c = 58 ∨ 64 ≤ c ∧ c ≤ 65 ∨ 68 ≤ c ∧ c ≤ 73) M M2 := zF_tr hg1 (zF_mo q1 (fun c hc => by omega))
        have hF2 := zMF_F hF hg2 (by omega) (by omega) (by omega) (by omega) (fun j hj => by rw [q2 j (by omega), b58])
        simp only [w129_400, w129_402, w129_405, w129_406, w129_408, w129_411, w129_412, w129_413, w129_415, w129_416, w129_417, w129_420, w129_422, w129_423, w129_424, w129_426, zk_sI, zk_sJ, zk_sP, zn_sI, zn_sJ, zn_sP, zI_sI, zI_sJ, zI_sP, zJ_sI, zJ_sJ, zJ_sP, zP_sI, zP_sJ, zP_sP, Option.toList_some, Option.toList_none, List.cons_append, List.nil_append, zk_of hP2.1, zn_of hP2.1, zix, ziN, ne_eq, reduceCtorEq, not_false_eq_true, true_and, and_true, Option.getD_some, Nat.reduceLeDiff, Nat.reduceLT, c_ofNat, zkd58, zp_58_1 hP2, zp_58_2 hP2, zp_58_6 hP2, zp_58_7 hP2, zp_58_10 hP2, zp_58_11 hP2, zp_58_12 hP2, zp_58_14 hP2, zp_58_15 hP2, zp_58_17 hP2, zp_58_18 hP2, zp_58_19 hP2, zp_58_20 hP2, zp_58_21 hP2, zp_58_22 hP2, zp_58_24 hP2, zp_58_26 hP2, zp_58_29 hP2, zp_58_32 hP2, zp_58_33 hP2, zp_58_34 hP2, zp_58_35 hP2, zp_58_36 hP2, zp_58_37 hP2, zp_58_38 hP2, zp_58_39 hP2, zkd59, znd59, zfx59, zkd60, znd60, zfx60, zkd61, znd61, zfx61, zkd62, znd62, zfx62, zkd63, znd63, zfx63, zkd64, znd64, zfx64, zkd65, znd65, zfx65, zkd66, znd66, zfx66, zkd67, znd67, zfx67, zkd68, znd68, zfx68, zkd69, znd69, zfx69, zkd70, znd70, zfx70, zkd71, znd71, zfx71, zkd72, znd72, zfx72, zkd73, znd73, zfx73, zkd74, znd74, zfx74]
        rw [c_0, n_le (by omega) (by decide)]
        refine ⟨fun g => ?_, fun g => ?_⟩
        · rw [show ph p k * w = 0 by rw [show ph p k = 0 by omega, Nat.zero_mul], zps_0] at h
          simp only [w129_429, w129_432, zk_sI, zk_sJ, zk_sP, zn_sI, zn_sJ, zn_sP, zI_sI, zI_sJ, zI_sP, zJ_sI, zJ_sJ, zJ_sP, zP_sI, zP_sJ, zP_sP, Option.toList_some, Option.toList_none, List.cons_append, List.nil_append, n_a1]
          exact h M2 _ hg2 (fun j hj => by rw [q2 j hj, b58]) q3 q4
        · refine s122 hP2 hF2.1.1 (hF2.1.2.1 k hk6) hF2.1.2.2.2.1 (zSM_F g2 q1 (by omega) (by omega)) hk6 hf hz hu f6 (fun M3 x1 x2 => ?_)
          have hP3 := zPk_F hP2 x1
          have m4 : zf_J M3 67 i = lN w := by rw [(x1.2.1 67 (by omega) i).2]; exact m3
          have y58 : ∀ j, zf_I M3 58 j = zf_I M2 58 j := fun j => (x1.2.1 58 (by omega) j).1
          rw [← f4] at x2
          have e64 : (nI (ph p k)).toInt64 * lN w = lN (ph p k * w) := by rw [nI_l (by omega), lN_mul]
          simp only [w129_405, w129_406, w129_408, w129_411, w129_412, w129_413, w129_415, w129_416, w129_417, w129_420, w129_422, w129_423, w129_424, w129_426, zk_sI, zk_sJ, zk_sP, zn_sI, zn_sJ, zn_sP, zI_sI, zI_sJ, zI_sP, zJ_sI, zJ_sJ, zJ_sP, zP_sI, zP_sJ, zP_sP, Option.toList_some, Option.toList_none, List.cons_append, List.nil_append, zk_of hP3.1, zn_of hP3.1, zix, ziN, ne_eq, reduceCtorEq, not_false_eq_true, true_and, and_true, Option.getD_some, Nat.reduceLeDiff, Nat.reduceLT, c_ofNat, zkd58, zp_58_1 hP3, zp_58_2 hP3, zp_58_6 hP3, zp_58_7 hP3, zp_58_10 hP3, zp_58_11 hP3, zp_58_12 hP3, zp_58_14 hP3, zp_58_15 hP3, zp_58_17 hP3, zp_58_18 hP3, zp_58_19 hP3, zp_58_20 hP3, zp_58_21 hP3, zp_58_22 hP3, zp_58_24 hP3, zp_58_26 hP3, zp_58_29 hP3, zp_58_32 hP3, zp_58_33 hP3, zp_58_34 hP3, zp_58_35 hP3, zp_58_36 hP3, zp_58_37 hP3, zp_58_38 hP3, zp_58_39 hP3, zkd59, znd59, zfx59, zkd60, znd60, zfx60, zkd61, znd61, zfx61, zkd62, znd62, zfx62, zkd63, znd63, zfx63, zkd64, znd64, zfx64, zkd65, znd65, zfx65, zkd66, znd66, zfx66, zkd67, znd67, zfx67, zkd68, znd68, zfx68, zkd69, znd69, zfx69, zkd70, znd70, zfx70, zkd71, znd71, zfx71, zkd72, znd72, zfx72, zkd73, znd73, zfx73, zkd74, znd74, zfx74, n_cl (show i < 2 ^ 31 by omega), n_in (show i < 400 by omega) (show 400 < 2 ^ 31 by decide), m4, e64]
          refine s127 (S := S2) hP3 x2 hHV.1 (zV_20 hp hHV) (zTL_F q3 x1 (y58 16) (by omega) (by omega) (by omega)) q5 (zAN_F q4 x1 (by omega) (by omega) (by omega)) hrd (Nat.mul_ne_zero (by omega) hw) (fun M4 z1 z2 z3 z4 => ?_)
          simp only [w129_429, w129_432, zk_sI, zk_sJ, zk_sP, zn_sI, zn_sJ, zn_sP, zI_sI, zI_sJ, zI_sP, zJ_sI, zJ_sJ, zJ_sP, zP_sI, zP_sJ, zP_sP, Option.toList_some, Option.toList_none, List.cons_append, List.nil_append, n_a1]
          exact h M4 _ (zF_tr hg2 (zF_tr (zF_mo x1 (fun c hc => by omega)) (zF_mo z1 (fun c hc => by omega)))) (fun j hj => by rw [z2 j hj, y58, q2 j hj, b58]) z3 z4
      rw [c_6, n_le (by decide) (by omega)]
      refine ⟨fun g => ?_, fun g => ?_⟩
      · refine K2 M1 S (zF_rf _ _) (fun _ _ => rfl) hK1 hA1 (by omega) ?_
        rw [show 6 - ph p k = 0 by omega, Nat.zero_mul, zps_0]
      · have e65 : (6 - (nI (ph p k)).toInt64) * lN w = lN ((6 - ph p k) * w) := by
          have e : (6 : Int64) - lN (ph p k) = lN (6 - ph p k) := lN_subN (a := 6) (by omega)
          rw [nI_l (by omega), e, lN_mul]
        rw [e65]
        have hst2 : zps p bh (rd + 1) false S N ((6 - ph p k) * w) = (zins S.1 N ((6 - ph p k) * w), S.2) := by
          unfold zps
          rw [if_neg (Nat.mul_ne_zero (by omega) hw), if_neg (fun z => z hz), if_neg (by decide)]
        refine s126L hP1 g2 hV.1 hK1 (by omega) (fun M2 q1 q2 q3 => ?_)
        refine K2 M2 (zins S.1 N ((6 - ph p k) * w), S.2) (zF_mo q1 (fun c hc => by omega)) q2 q3 (zAN_F hA1 q1 (by omega) (by omega) (by omega)) ?_ hst2.symm
        have := zins_lenU N ((6 - ph p k) * w) S.1
        show (zins S.1 N ((6 - ph p k) * w)).length < 800
        omega
    · have hfl := Classical.not_not.mp hfl
      rw [if_pos hfl] at h hov
      have hst : zst1 p bh (rd + 1) false w S [(sd N k (dg N k % 32), 6)] = zps p bh (rd + 1) false S (sd N k (dg N k % 32)) (6 * w) := rfl
      rw [hst] at h
      have hHV := hov _ List.mem_cons_self
      have hd := dg_lt N k
      have hg2 : zF (fun c => c = 64 ∨ c = 65) M1 (zf_sI M1 65 k 0) := zF_sI (zF_rf _ _) (Or.inr rfl)
      have hSM : zSM (zf_sI M1 65 k 0) (sd N k (dg N k % 32)) := by
        intro j hj
        simp only [zI_sI, Nat.reduceEqDiff, if_false, if_true]
        by_cases e : j = k
        · rw [if_pos e, e, dg_sd hk6 (by omega), zB_f (by omega), (g2 k hk6).1]
          exact ⟨by congr 1; omega, rfl⟩
        · rw [if_neg e, dg_sd_ne hk6 hj (by omega) e]
          exact g2 j hj
      refine ⟨rfl, ?_⟩
      refine s127 (S := S) (zPk_F hP1 hg2) hSM hHV.1 (zV_20 hp hHV) (zTL_F hK1 hg2 rfl (by omega) (by omega) (by omega)) (by omega) (zAN_F hA1 hg2 (by omega) (by omega) (by omega)) hrd hw6 (fun M2 q1 q2 q3 q4 => ?_)
      simp only [w129_429, w129_432, zk_sI, zk_sJ, zk_sP, zn_sI, zn_sJ, zn_sP, zI_sI, zI_sJ, zI_sP, zJ_sI, zJ_sJ, zJ_sP, zP_sI, zP_sJ, zP_sP, Option.toList_some, Option.toList_none, List.cons_append, List.nil_append, n_a1]
      exact h M2 l8 (zF_tr hg1 (zF_tr (zF_mo hg2 (fun c hc => by omega)) (zF_mo q1 (fun c hc => by omega)))) (fun j hj => by rw [q2 j hj]; exact b58 j) q3 q4
  · have hz1 : zouts p (rd + 1) k N = [(N, 6)] := by
      unfold zouts
      rw [if_pos (by rw [f1]; exact Classical.not_not.mp ht)]
    rw [hz1] at h
    have hst : zst1 p bh (rd + 1) false w S [(N, 6)] = (zins S.1 N (6 * w), S.2) := by
      show zps p bh (rd + 1) false S N (6 * w) = _
      unfold zps
      rw [if_neg hw6, if_neg (fun z => z hz), if_neg (by decide)]
    rw [hst] at h
    refine s126L hP1 g2 hV.1 hK1 (by omega) (fun M2 q1 q2 q3 => ?_)
    simp only [w129_429, w129_432, zk_sI, zk_sJ, zk_sP, zn_sI, zn_sJ, zn_sP, zI_sI, zI_sJ, zI_sP, zJ_sI, zJ_sJ, zJ_sP, zP_sI, zP_sJ, zP_sP, Option.toList_some, Option.toList_none, List.cons_append, List.nil_append, n_a1]
    exact h M2 l8 (zF_tr hg1 (zF_mo q1 (fun c hc => by omega))) (fun j hj => by rw [q2 j hj, b58]) q3 (zAN_F hA1 q1 (by omega) (by omega) (by omega))
end ZMw
