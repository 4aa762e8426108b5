/-! ===== the model: works ===== -/
theorem zis_of {sp : Nat → Nat} {k x : Nat} : ∀ {R : List Nat}, x = k ∨ x ∈ R → x ∈ zis sp R k
  | [], h => by
    simp only [zis, List.mem_singleton]
    exact h.elim id (fun z => by cases z)
  | y :: t, h => by
    rw [zis]
    split
    · rcases h with h | h
      · exact List.mem_cons_of_mem _ (zis_of (Or.inl h))
      · rcases List.mem_cons.mp h with h | h
        · rw [h]
          exact List.mem_cons_self
        · exact List.mem_cons_of_mem _ (zis_of (Or.inr h))
    · rcases h with h | h
      · rw [h]
        exact List.mem_cons_self
      · exact List.mem_cons_of_mem _ h
theorem zol_of {c : zCs} {k : Nat} (hk : c.2.1 k ≠ none) : ∀ {j : Nat}, k < j → k ∈ zol c j
  | j + 1, h => by
    rw [zol]
    by_cases e : k = j
    · subst e
      rw [if_neg hk]
      exact zis_of (Or.inl rfl)
    · split
      · exact zol_of hk (by omega)
      · exact zis_of (Or.inr (zol_of hk (by omega)))
theorem zod_sur {c : zCs} {k : Nat} (hk : c.2.1 k ≠ none) (h6 : k < 6) : ∃ i, i < (zol c 6).length ∧ zod c i = k := by
  obtain ⟨i, h1, h2⟩ := List.mem_iff_getElem.mp (zol_of hk h6)
  refine ⟨(zol c 6).length - 1 - i, by omega, ?_⟩
  have h3 := zod_in (c := c) (i := (zol c 6).length - 1 - i) (by omega)
  rw [show (zol c 6).length - 1 - ((zol c 6).length - 1 - i) = i by omega, List.getElem?_eq_getElem h1, Option.some.injEq] at h3
  rw [← h3, h2]
theorem zslot_W (p : zPm) (bh r k : Nat) : ∀ (L : List (Nat × Nat)) (S : List (Nat × Nat) × zA), zLW S.1 → zLW (zslot p bh r k false S L).1
  | [], S, hS => hS
  | q :: t, S, hS => by
    rw [zslot]
    exact zslot_W p bh r k t _ (zst1_W p bh r q.2 _ S hS)
theorem zst_ok {p : zPm} (hp : zPo p) : zst p < 64 ^ 6 ∧ ∀ k, k < 6 → dg (zst p) k = if ∃ i, i < pn p ∧ po p i = k then pl p k + 32 else 0 :=
  zbg_ok (lf := pl p) (od := po p) (n := pn p) (fun i hi => hp.2.1 i hi) (fun i hi => by have := (hp.2.2.2.1 i hi).2.2.1; omega) hp.2.2.1
theorem zst_V {p : zPm} (hp : zPo p) : zV p (zst p) := by
  obtain ⟨h1, h2⟩ := zst_ok hp
  refine ⟨h1, fun j hj hne => ?_⟩
  rw [h2 j hj] at hne ⊢
  by_cases hx : ∃ i, i < pn p ∧ po p i = j
  · rw [if_pos hx]
    obtain ⟨i, i1, i2⟩ := hx
    have := (hp.2.2.2.1 i i1).2.2.1
    rw [i2] at this
    exact ⟨⟨i, i1, i2⟩, by omega⟩
  · rw [if_neg hx] at hne
    exact absurd rfl hne
section ZMy
variable {X : zf_X} {M : zf_M} {Q : Option Value → zf_M → Prop} {n : Nat} {c : zCs} {am su : Int32} {r : Nat} {p : zPm}
/-- the cells and fields that works may change -/
def zWF (M M1 : zf_M) : Prop := zF (fun c => c = 58 ∨ 63 ≤ c ∧ c ≤ 74) M M1 ∧ ∀ j, j ≠ 9 → j ≠ 13 → j ≠ 16 → j ≠ 23 → zf_I M1 58 j = zf_I M 58 j
theorem zWF_rf (M : zf_M) : zWF M M := ⟨zF_rf _ _, fun _ _ _ _ _ => rfl⟩
theorem zWF_tr {M M1 M2 : zf_M} (h : zWF M M1) (h2 : zWF M1 M2) : zWF M M2 := ⟨zF_tr h.1 h2.1, fun j a b c d => by rw [h2.2 j a b c d, h.2 j a b c d]⟩
/-- the draws at the end -/
theorem s129f {K : List (Nat × Nat)} {sl : Nat} {l3 l4 l5 l6 l7 l8 : Slot} (hp : zPo p) {M0 : zf_M} (hP : zPk M0) (hr : zf_I M0 58 3 = nI r) (hr6 : r ≤ 6) (hK : zTL M0 K) (hK8 : K.length ≤ 800) (hV : zLV p K) (R : zA)
    (h : ∀ M1, zF (fun c => 64 ≤ c ∧ c ≤ 65 ∨ 71 ≤ c ∧ c ≤ 73) M0 M1 → zAN M1 R (zon p) → Q (some (.int 0)) M1) :
    ∀ (m i : Nat) (M1 : zf_M) (A : zA), i + m = K.length → zF (fun c => 64 ≤ c ∧ c ≤ 65 ∨ 71 ≤ c ∧ c ≤ 73) M0 M1 → zAN M1 A (zon p) → zfn p r A (K.drop i) = R → zW X 129 524 [.val (.ref 58), .val (.int (nI sl)), .val (.int (nI i)), l3, l4, l5, l6, l7, l8] [] M1 Q := by
  intro m
  induction m with
  | zero =>
    intro i M1 A hi hF hA hz
    obtain rfl : i = K.length := by omega
    rw [List.drop_length, zfn] at hz
    rw [hz] at hA
    have hP1 := zPk_F hP hF
    have h16 : zf_I M1 58 16 = nI K.length := by rw [(hF.2.1 58 (by omega) 16).1]; obtain ⟨⟨sp, g⟩, -⟩ := hK; exact g.1
    rw [w129_524]
    simp only [w129_525, w129_526, w129_529, w129_532, w129_533, w129_534, w129_537, w129_538, w129_539, w129_542, w129_543, w129_544, w129_545, w129_548, w129_549, w129_552, w129_553, w129_554, w129_557, w129_560, w129_563, w129_564, zk_sI, zk_sJ, zk_sP, zn_sI, zn_sJ, zn_sP, zI_sI, zI_sJ, zI_sP, zJ_sI, zJ_sJ, zJ_sP, zP_sI, zP_sJ, zP_sP, Option.toList_some, Option.toList_none, List.cons_append, List.nil_append, zk_of hP1.1, zn_of hP1.1, zix, ziN, ne_eq, reduceCtorEq, not_false_eq_true, true_and, and_true, Option.getD_some, Nat.reduceLeDiff, Nat.reduceLT, c_ofNat, zkd58, zp_58_1 hP1, zp_58_2 hP1, zp_58_6 hP1, zp_58_7 hP1, zp_58_10 hP1, zp_58_11 hP1, zp_58_12 hP1, zp_58_14 hP1, zp_58_15 hP1, zp_58_17 hP1, zp_58_18 hP1, zp_58_19 hP1, zp_58_20 hP1, zp_58_21 hP1, zp_58_22 hP1, zp_58_24 hP1, zp_58_26 hP1, zp_58_29 hP1, zp_58_32 hP1, zp_58_33 hP1, zp_58_34 hP1, zp_58_35 hP1, zp_58_36 hP1, zp_58_37 hP1, zp_58_38 hP1, zp_58_39 hP1, zkd59, znd59, zfx59, zkd60, znd60, zfx60, zkd61, znd61, zfx61, zkd62, znd62, zfx62, zkd63, znd63, zfx63, zkd64, znd64, zfx64, zkd65, znd65, zfx65, zkd66, znd66, zfx66, zkd67, znd67, zfx67, zkd68, znd68, zfx68, zkd69, znd69, zfx69, zkd70, znd70, zfx70, zkd71, znd71, zfx71, zkd72, znd72, zfx72, zkd73, znd73, zfx73, zkd74, znd74, zfx74, h16, Int32.le_refl]
    exact ⟨fun _ => h M1 hF hA, fun z => absurd trivial z⟩
  | succ m ih =>
    intro i M1 A hi hF hA hz
    have hil : i < K.length := by omega
    have hP1 := zPk_F hP hF
    have h16 : zf_I M1 58 16 = nI K.length := by rw [(hF.2.1 58 (by omega) 16).1]; obtain ⟨⟨sp, g⟩, -⟩ := hK; exact g.1
    have h3 : zf_I M1 58 3 = nI r := by rw [(hF.2.1 58 (by omega) 3).1]; exact hr
    obtain ⟨j1, j2, j3⟩ := hK.2 i _ (List.getElem?_eq_getElem hil)
    have j1' : zf_J M1 68 i = lN (zpk K[i].1 6) := by rw [(hF.2.1 68 (by omega) i).2]; exact j1
    have hm : K[i] ∈ K := List.getElem_mem hil
    rw [List.drop_eq_getElem_cons hil, zfn] at hz
    rw [w129_524]
    simp only [w129_525, w129_526, w129_529, w129_532, w129_533, w129_534, w129_537, w129_538, w129_539, w129_542, w129_543, w129_544, w129_545, w129_548, w129_549, w129_552, w129_553, w129_554, w129_557, w129_560, w129_563, w129_564, zk_sI, zk_sJ, zk_sP, zn_sI, zn_sJ, zn_sP, zI_sI, zI_sJ, zI_sP, zJ_sI, zJ_sJ, zJ_sP, zP_sI, zP_sJ, zP_sP, Option.toList_some, Option.toList_none, List.cons_append, List.nil_append, zk_of hP1.1, zn_of hP1.1, zix, ziN, ne_eq, reduceCtorEq, not_false_eq_true, true_and, and_true, Option.getD_some, Nat.reduceLeDiff, Nat.reduceLT, c_ofNat, zkd58, zp_58_1 hP1, zp_58_2 hP1, zp_58_6 hP1, zp_58_7 hP1, zp_58_10 hP1, zp_58_11 hP1, zp_58_12 hP1, zp_58_14 hP1, zp_58_15 hP1, zp_58_17 hP1, zp_58_18 hP1, zp_58_19 hP1, zp_58_20 hP1, zp_58_21 hP1, zp_58_22 hP1, zp_58_24 hP1, zp_58_26 hP1, zp_58_29 hP1, zp_58_32 hP1, zp_58_33 hP1, zp_58_34 hP1, zp_58_35 hP1, zp_58_36 hP1, zp_58_37 hP1, zp_58_38 hP1, zp_58_39 hP1, zkd59, znd59, zfx59, zkd60, znd60, zfx60, zkd61, znd61, zfx61, zkd62, znd62, zfx62, zkd63, znd63, zfx63, zkd64, znd64, zfx64, zkd65, znd65, zfx65, zkd66, znd66, zfx66, zkd67, znd67, zfx67, zkd68, znd68, zfx68, zkd69, znd69, zfx69, zkd70, znd70, zfx70, zkd71, znd71, zfx71, zkd72, znd72, zfx72, zkd73, znd73, zfx73, zkd74, znd74, zfx74, h16, j1', n_cl (show i < 2 ^ 31 by omega), n_in (show i < 800 by omega) (show 800 < 2 ^ 31 by decide)]
    rw [n_le (by omega) (by omega)]
    refine ⟨fun z => by omega, fun _ => ?_⟩
    refine s124b hP1 (fun M2 g1 g2 => ?_)
    have hP2 := zPk_F hP1 g1
    have h3' : zf_I M2 58 3 = nI r := by rw [(g1.2.1 58 (by omega) 3).1]; exact h3
    have j2' : zf_J M2 69 i = lN K[i].2 := by rw [(g1.2.1 69 (by omega) i).2, (hF.2.1 69 (by omega) i).2]; exact j2
    simp only [w129_542, w129_543, w129_544, w129_545, w129_548, w129_549, w129_552, w129_553, w129_554, w129_557, w129_560, w129_563, w129_564, zk_sI, zk_sJ, zk_sP, zn_sI, zn_sJ, zn_sP, zI_sI, zI_sJ, zI_sP, zJ_sI, zJ_sJ, zJ_sP, zP_sI, zP_sJ, zP_sP, Option.toList_some, Option.toList_none, List.cons_append, List.nil_append, zk_of hP2.1, zn_of hP2.1, zix, ziN, ne_eq, reduceCtorEq, not_false_eq_true, true_and, and_true, Option.getD_some, Nat.reduceLeDiff, Nat.reduceLT, c_ofNat, zkd58, zp_58_1 hP2, zp_58_2 hP2, zp_58_6 hP2, zp_58_7 hP2, zp_58_10 hP2, zp_58_11 hP2, zp_58_12 hP2, zp_58_14 hP2, zp_58_15 hP2, zp_58_17 hP2, zp_58_18 hP2, zp_58_19 hP2, zp_58_20 hP2, zp_58_21 hP2, zp_58_22 hP2, zp_58_24 hP2, zp_58_26 hP2, zp_58_29 hP2, zp_58_32 hP2, zp_58_33 hP2, zp_58_34 hP2, zp_58_35 hP2, zp_58_36 hP2, zp_58_37 hP2, zp_58_38 hP2, zp_58_39 hP2, zkd59, znd59, zfx59, zkd60, znd60, zfx60, zkd61, znd61, zfx61, zkd62, znd62, zfx62, zkd63, znd63, zfx63, zkd64, znd64, zfx64, zkd65, znd65, zfx65, zkd66, znd66, zfx66, zkd67, znd67, zfx67, zkd68, znd68, zfx68, zkd69, znd69, zfx69, zkd70, znd70, zfx70, zkd71, znd71, zfx71, zkd72, znd72, zfx72, zkd73, znd73, zfx73, zkd74, znd74, zfx74, h3', j2', n_cl (show i < 2 ^ 31 by omega), n_in (show i < 800 by omega) (show 800 < 2 ^ 31 by decide)]
    refine s125 (od := po p) (n := pn p) (e := 2) (r := r) (w := K[i].2) hP2 g2 (zV_20 hp (hV _ hm)) (zAN_F hA g1 (by omega) (by omega) (by omega)) (by decide) (by omega) (fun M3 k1 k2 => ?_)
    simp only [w129_557, w129_560, w129_563, w129_564, zk_sI, zk_sJ, zk_sP, zn_sI, zn_sJ, zn_sP, zI_sI, zI_sJ, zI_sP, zJ_sI, zJ_sJ, zJ_sP, zP_sI, zP_sJ, zP_sP, Option.toList_some, Option.toList_none, List.cons_append, List.nil_append, n_a1]
    exact ih (i + 1) M3 _ (by omega) (zF_tr hF (zF_tr (zF_mo g1 (fun c hc => by omega)) (zF_mo k1 (fun c hc => by omega)))) k2 hz
/-- slot after slot -/
theorem s129e {sl : Nat} (hpe : p = zpm c am su r) (hp : zPo p) {M0 : zf_M} (hP : zPk M0) (hF : zMF c n am su r M0) (hpw : ∀ j, j ≤ sl → zf_J M0 74 j = lN (6 ^ j)) (hsl2 : sl = r * pn p) (hsl3 : sl ≤ 22) (R : Bool × (List (Nat × Nat) × zA) × Nat)
    (h1 : ∀ M1, zF (fun c => c = 58 ∨ 64 ≤ c ∧ c ≤ 73) M0 M1 → (∀ j, j ≠ 13 → j ≠ 16 → j ≠ 23 → zf_I M1 58 j = zf_I M0 58 j) → R.1 = true → zAN M1 R.2.1.2 (zon p) → zf_I M1 58 23 = nI R.2.2 → Q (some (.int 0)) M1)
    (h2 : ∀ M1, zF (fun c => c = 58 ∨ 64 ≤ c ∧ c ≤ 73) M0 M1 → (∀ j, j ≠ 13 → j ≠ 16 → j ≠ 23 → zf_I M1 58 j = zf_I M0 58 j) → R.1 = false → Q (some (.int (-5))) M1) :
    ∀ (m t : Nat) (L : List (Nat × Nat)) (A : zA) (wd : Nat) (M1 : zf_M) (l3 l4 l5 l6 l7 l8 : Slot), sl = t + (m + 1) → zF (fun c => c = 58 ∨ 64 ≤ c ∧ c ≤ 73) M0 M1 → (∀ j, j ≠ 13 → j ≠ 16 → j ≠ 23 → zf_I M1 58 j = zf_I M0 58 j) → zML M1 L → L.length ≤ 400 → zLV p L → zLW L → zf_I M1 58 13 = nI L.length → zf_I M1 58 23 = nI wd → wd ≤ 400 → zAN M1 A (zon p) → zgo p (m + 1) t (L, A) wd = R → zW X 129 173 [.val (.ref 58), .val (.int (nI sl)), .val (.int (nI t)), l3, l4, l5, l6, l7, l8] [] M1 Q := by
  have hr6 := hF.1.2.2.2.2.2.2
  have hpos : 0 < pn p ∨ sl = 0 := by
    by_cases e : pn p = 0
    · rw [e, Nat.mul_zero] at hsl2
      exact Or.inr hsl2
    · exact Or.inl (by omega)
  intro m
  induction m with
  | zero =>
    intro t L A wd M1 l3 l4 l5 l6 l7 l8 ht hF1 hb hL hl4 hV hW h13 h23 hwd hA hz
    have hpos : 0 < pn p := by omega
    have hP1 := zPk_F hP hF1
    have hMF := zMF_F hF hF1 (by omega) (by omega) (by omega) (by omega) (fun j hj => hb j (by omega) (by omega) (by omega))
    have hk6 : po p (t % pn p) < 6 := hp.2.1 _ (Nat.mod_lt t hpos)
    refine s129d (m := 0) (A := A) hpe hp hP1 hMF hL hl4 hV hW h13 h23 hwd hA (fun j hj => by rw [(hF1.2.1 74 (by omega) j).2]; exact hpw j hj) ht hsl2 hsl3 (fun M2 l3 l4 l5 l6 l7 l8 g1 g2 g3 g4 g5 g6 => ?_)
    have hl : zslot p (6 ^ 0) (t / pn p + 1) (po p (t % pn p)) (decide (0 = 0)) ([], A) L = ([], zfn p r (zslot p (6 ^ 0) (t / pn p + 1) (po p (t % pn p)) false ([], A) L).2 (zslot p (6 ^ 0) (t / pn p + 1) (po p (t % pn p)) false ([], A) L).1) := zslot_last p (t / pn p + 1) r (po p (t % pn p)) L ([], A)
    rw [zgo, hl, if_neg (by show ¬ 400 < 0; omega), zgo] at hz
    have hKV := zslot_V (6 ^ 0) (t / pn p + 1) (po p (t % pn p)) false hp hk6 L ([], A) (fun q hq => by simp at hq) hV
    generalize zslot p (6 ^ 0) (t / pn p + 1) (po p (t % pn p)) false ([], A) L = K at *
    have hP2 := zPk_F hP1 g1
    have hb2 : ∀ j, j ≠ 13 → j ≠ 16 → j ≠ 23 → zf_I M2 58 j = zf_I M0 58 j := fun j x y z => by rw [g2 j y z, hb j x y z]
    have hF2 : zF (fun c => c = 58 ∨ 64 ≤ c ∧ c ≤ 73) M0 M2 := zF_tr hF1 (zF_mo g1 (fun c hc => by omega))
    have e1 : nI t + 1 = nI sl := by rw [n_a1, ht]
    simp only [w129_435, w129_436, w129_437, w129_438, w129_439, w129_442, w129_443, w129_446, w129_449, w129_452, w129_454, w129_455, w129_456, w129_457, w129_458, w129_459, w129_462, w129_463, w129_464, w129_467, w129_470, w129_471, w129_516, w129_519, w129_522, w129_523, zk_sI, zk_sJ, zk_sP, zn_sI, zn_sJ, zn_sP, zI_sI, zI_sJ, zI_sP, zJ_sI, zJ_sJ, zJ_sP, zP_sI, zP_sJ, zP_sP, Option.toList_some, Option.toList_none, List.cons_append, List.nil_append, e1, Int32.le_refl, true_implies, not_true_eq_false, false_implies, and_true]
    rw [w129_173]
    simp only [w129_174, w129_175, w129_522, w129_523, zk_sI, zk_sJ, zk_sP, zn_sI, zn_sJ, zn_sP, zI_sI, zI_sJ, zI_sP, zJ_sI, zJ_sJ, zJ_sP, zP_sI, zP_sJ, zP_sP, Option.toList_some, Option.toList_none, List.cons_append, List.nil_append, Int32.le_refl, true_implies, not_true_eq_false, false_implies, and_true]
    refine s129f (K := K.1) hp hP2 (by rw [hb2 3 (by decide) (by decide) (by decide)]; exact hF.1.2.2.1) hr6 g4 g6 hKV (zfn p r K.2 K.1) (fun M3 k1 k2 => ?_) K.1.length 0 M2 K.2 (Nat.zero_add _) (zF_rf _ _) g5 rfl
    refine h1 M3 (zF_tr hF2 (zF_mo k1 (fun c hc => by omega))) (fun j x y z => by rw [(k1.2.1 58 (by omega) j).1]; exact hb2 j x y z) ?_ ?_ ?_
    · rw [← hz]
    · rw [← hz]
      exact k2
    · rw [← hz, (k1.2.1 58 (by omega) 23).1]
      exact g3
  | succ m ih =>
    intro t L A wd M1 l3 l4 l5 l6 l7 l8 ht hF1 hb hL hl4 hV hW h13 h23 hwd hA hz
    have hpos : 0 < pn p := by omega
    have hP1 := zPk_F hP hF1
    have hMF := zMF_F hF hF1 (by omega) (by omega) (by omega) (by omega) (fun j hj => hb j (by omega) (by omega) (by omega))
    have hk6 : po p (t % pn p) < 6 := hp.2.1 _ (Nat.mod_lt t hpos)
    refine s129d (m := m + 1) (A := A) hpe hp hP1 hMF hL hl4 hV hW h13 h23 hwd hA (fun j hj => by rw [(hF1.2.1 74 (by omega) j).2]; exact hpw j hj) ht hsl2 hsl3 (fun M2 l3 l4 l5 l6 l7 l8 g1 g2 g3 g4 g5 g6 => ?_)
    have hdc : decide (m + 1 = 0) = false := decide_eq_false (by omega)
    rw [zgo, hdc] at hz
    have hKV := zslot_V (6 ^ (m + 1)) (t / pn p + 1) (po p (t % pn p)) false hp hk6 L ([], A) (fun q hq => by simp at hq) hV
    have hKW := zslot_W p (6 ^ (m + 1)) (t / pn p + 1) (po p (t % pn p)) L ([], A) (fun q hq => by simp at hq)
    generalize zslot p (6 ^ (m + 1)) (t / pn p + 1) (po p (t % pn p)) false ([], A) L = K at *
    have hP2 := zPk_F hP1 g1
    have hb2 : ∀ j, j ≠ 13 → j ≠ 16 → j ≠ 23 → zf_I M2 58 j = zf_I M0 58 j := fun j x y z => by rw [g2 j y z, hb j x y z]
    have hF2 : zF (fun c => c = 58 ∨ 64 ≤ c ∧ c ≤ 73) M0 M2 := zF_tr hF1 (zF_mo g1 (fun c hc => by omega))
    have h16 : zf_I M2 58 16 = nI K.1.length := by obtain ⟨⟨sp, g⟩, -⟩ := g4; exact g.1
    simp only [w129_435, w129_436, w129_437, w129_438, w129_439, w129_442, w129_443, w129_446, w129_449, w129_452, w129_454, w129_455, w129_456, w129_457, w129_458, w129_459, w129_462, w129_463, w129_464, w129_467, w129_470, w129_471, zk_sI, zk_sJ, zk_sP, zn_sI, zn_sJ, zn_sP, zI_sI, zI_sJ, zI_sP, zJ_sI, zJ_sJ, zJ_sP, zP_sI, zP_sJ, zP_sP, Option.toList_some, Option.toList_none, List.cons_append, List.nil_append, zk_of hP2.1, zn_of hP2.1, zix, ziN, ne_eq, reduceCtorEq, not_false_eq_true, true_and, and_true, Option.getD_some, Nat.reduceLeDiff, Nat.reduceLT, c_ofNat, zkd58, zp_58_1 hP2, zp_58_2 hP2, zp_58_6 hP2, zp_58_7 hP2, zp_58_10 hP2, zp_58_11 hP2, zp_58_12 hP2, zp_58_14 hP2, zp_58_15 hP2, zp_58_17 hP2, zp_58_18 hP2, zp_58_19 hP2, zp_58_20 hP2, zp_58_21 hP2, zp_58_22 hP2, zp_58_24 hP2, zp_58_26 hP2, zp_58_29 hP2, zp_58_32 hP2, zp_58_33 hP2, zp_58_34 hP2, zp_58_35 hP2, zp_58_36 hP2, zp_58_37 hP2, zp_58_38 hP2, zp_58_39 hP2, zkd59, znd59, zfx59, zkd60, znd60, zfx60, zkd61, znd61, zfx61, zkd62, znd62, zfx62, zkd63, znd63, zfx63, zkd64, znd64, zfx64, zkd65, znd65, zfx65, zkd66, znd66, zfx66, zkd67, znd67, zfx67, zkd68, znd68, zfx68, zkd69, znd69, zfx69, zkd70, znd70, zfx70, zkd71, znd71, zfx71, zkd72, znd72, zfx72, zkd73, znd73, zfx73, zkd74, znd74, zfx74, h16, n_a1]
    rw [n_le (by omega) (by omega), show (400 : Int32) = nI 400 from rfl, n_le (by omega) (by decide)]
    have hmx : max wd L.length ≤ 400 := by omega
    have copy : K.1.length ≤ 400 → ∀ (x8 : Slot), zW X 129 473 [.val (.ref 58), .val (.int (nI sl)), .val (.int (nI t)), l3, l4, l5, l6, .val (.int 0), x8] [] (zf_sI M2 58 13 (nI K.1.length)) Q := by
      intro hk4 x8
      rw [if_neg (by omega)] at hz
      have hFa : zF (fun c => c = 58 ∨ 64 ≤ c ∧ c ≤ 73) M0 (zf_sI M2 58 13 (nI K.1.length)) := zF_sI hF2 (by omega)
      have hPa := zPk_F hP hFa
      have loop : ∀ (q i : Nat) (M3 : zf_M), i + q = K.1.length → zF (fun c => 66 ≤ c ∧ c ≤ 67) (zf_sI M2 58 13 (nI K.1.length)) M3 → (∀ j, j < i → zf_J M3 66 j = zf_J M2 68 j ∧ zf_J M3 67 j = zf_J M2 69 j) → zW X 129 473 [.val (.ref 58), .val (.int (nI sl)), .val (.int (nI t)), l3, l4, l5, l6, .val (.int (nI i)), x8] [] M3 Q := by
        intro q
        induction q with
        | zero =>
          intro i M3 hi k1 k2
          obtain rfl : i = K.1.length := by omega
          have hP3 := zPk_F hPa k1
          have h16' : zf_I M3 58 16 = nI K.1.length := by rw [(k1.2.1 58 (by omega) 16).1]; exact h16
          rw [w129_473]
          simp only [w129_475, w129_476, w129_479, w129_482, w129_483, w129_486, w129_488, w129_489, w129_492, w129_494, w129_495, w129_496, w129_497, w129_500, w129_502, w129_503, w129_506, w129_508, w129_509, w129_510, w129_513, w129_516, w129_519, w129_522, w129_523, zk_sI, zk_sJ, zk_sP, zn_sI, zn_sJ, zn_sP, zI_sI, zI_sJ, zI_sP, zJ_sI, zJ_sJ, zJ_sP, zP_sI, zP_sJ, zP_sP, Option.toList_some, Option.toList_none, List.cons_append, List.nil_append, zk_of hP3.1, zn_of hP3.1, zix, ziN, ne_eq, reduceCtorEq, not_false_eq_true, true_and, and_true, Option.getD_some, Nat.reduceLeDiff, Nat.reduceLT, c_ofNat, zkd58, zp_58_1 hP3, zp_58_2 hP3, zp_58_6 hP3, zp_58_7 hP3, zp_58_10 hP3, zp_58_11 hP3, zp_58_12 hP3, zp_58_14 hP3, zp_58_15 hP3, zp_58_17 hP3, zp_58_18 hP3, zp_58_19 hP3, zp_58_20 hP3, zp_58_21 hP3, zp_58_22 hP3, zp_58_24 hP3, zp_58_26 hP3, zp_58_29 hP3, zp_58_32 hP3, zp_58_33 hP3, zp_58_34 hP3, zp_58_35 hP3, zp_58_36 hP3, zp_58_37 hP3, zp_58_38 hP3, zp_58_39 hP3, zkd59, znd59, zfx59, zkd60, znd60, zfx60, zkd61, znd61, zfx61, zkd62, znd62, zfx62, zkd63, znd63, zfx63, zkd64, znd64, zfx64, zkd65, znd65, zfx65, zkd66, znd66, zfx66, zkd67, znd67, zfx67, zkd68, znd68, zfx68, zkd69, znd69, zfx69, zkd70, znd70, zfx70, zkd71, znd71, zfx71, zkd72, znd72, zfx72, zkd73, znd73, zfx73, zkd74, znd74, zfx74, h16', Int32.le_refl, true_implies, not_true_eq_false, false_implies, and_true, n_a1]
          refine ih (t + 1) K.1 K.2 (max wd L.length) M3 _ _ _ _ _ _ (by omega) (zF_tr hFa (zF_mo k1 (fun c hc => by omega))) (fun j x y z => ?_) (fun j qq hq => ?_) hk4 hKV hKW ?_ ?_ hmx (zAN_F (zAN_F (S := fun c => c = 58) g5 (zF_sI (zF_rf _ _) rfl) (by omega) (by omega) (by omega)) k1 (by omega) (by omega) (by omega)) hz
          · rw [(k1.2.1 58 (by omega) j).1, zI_sI, if_pos rfl, if_neg x]
            exact hb2 j x y z
          · have hjl := (List.getElem?_eq_some_iff.mp hq).1
            obtain ⟨u1, u2⟩ := k2 j hjl
            obtain ⟨v1, v2, v3⟩ := g4.2 j qq hq
            exact ⟨by rw [u1, v1], by rw [u2, v2]⟩
          · rw [(k1.2.1 58 (by omega) 13).1, zI_sI, if_pos rfl, if_pos rfl]
          · rw [(k1.2.1 58 (by omega) 23).1, zI_sI, if_pos rfl, if_neg (by decide)]
            exact g3
        | succ q ih2 =>
          intro i M3 hi k1 k2
          have hP3 := zPk_F hPa k1
          have h16' : zf_I M3 58 16 = nI K.1.length := by rw [(k1.2.1 58 (by omega) 16).1]; exact h16
          have e68 : zf_J M3 68 i = zf_J M2 68 i := (k1.2.1 68 (by omega) i).2
          have e69 : zf_J M3 69 i = zf_J M2 69 i := (k1.2.1 69 (by omega) i).2
          rw [w129_473]
          simp only [w129_475, w129_476, w129_479, w129_482, w129_483, w129_486, w129_488, w129_489, w129_492, w129_494, w129_495, w129_496, w129_497, w129_500, w129_502, w129_503, w129_506, w129_508, w129_509, w129_510, w129_513, zk_sI, zk_sJ, zk_sP, zn_sI, zn_sJ, zn_sP, zI_sI, zI_sJ, zI_sP, zJ_sI, zJ_sJ, zJ_sP, zP_sI, zP_sJ, zP_sP, Option.toList_some, Option.toList_none, List.cons_append, List.nil_append, zk_of hP3.1, zn_of hP3.1, zix, ziN, ne_eq, reduceCtorEq, not_false_eq_true, true_and, and_true, Option.getD_some, Nat.reduceLeDiff, Nat.reduceLT, c_ofNat, zkd58, zp_58_1 hP3, zp_58_2 hP3, zp_58_6 hP3, zp_58_7 hP3, zp_58_10 hP3, zp_58_11 hP3, zp_58_12 hP3, zp_58_14 hP3, zp_58_15 hP3, zp_58_17 hP3, zp_58_18 hP3, zp_58_19 hP3, zp_58_20 hP3, zp_58_21 hP3, zp_58_22 hP3, zp_58_24 hP3, zp_58_26 hP3, zp_58_29 hP3, zp_58_32 hP3, zp_58_33 hP3, zp_58_34 hP3, zp_58_35 hP3, zp_58_36 hP3, zp_58_37 hP3, zp_58_38 hP3, zp_58_39 hP3, zkd59, znd59, zfx59, zkd60, znd60, zfx60, zkd61, znd61, zfx61, zkd62, znd62, zfx62, zkd63, znd63, zfx63, zkd64, znd64, zfx64, zkd65, znd65, zfx65, zkd66, znd66, zfx66, zkd67, znd67, zfx67, zkd68, znd68, zfx68, zkd69, znd69, zfx69, zkd70, znd70, zfx70, zkd71, znd71, zfx71, zkd72, znd72, zfx72, zkd73, znd73, zfx73, zkd74, znd74, zfx74, h16', e68, e69, n_cl (show i < 2 ^ 31 by omega), n_in (show i < 800 by omega) (show 800 < 2 ^ 31 by decide), n_in (show i < 400 by omega) (show 400 < 2 ^ 31 by decide), Nat.reduceEqDiff, if_false, n_a1]
          rw [n_le (by omega) (by omega)]
          refine ⟨fun z => by omega, fun _ => ih2 (i + 1) _ (by omega) (zF_sJ (zF_sJ k1 (by omega)) (by omega)) (fun j hj => ?_)⟩
          simp only [zJ_sJ, Nat.reduceEqDiff, if_false, if_true]
          by_cases e : j = i
          · rw [if_pos e, if_pos e, e]
            exact ⟨rfl, rfl⟩
          · rw [if_neg e, if_neg e]
            exact k2 j (by omega)
      exact loop K.1.length 0 _ (Nat.zero_add _) (zF_rf _ _) (fun j hj => by omega)
    refine ⟨fun z => by omega, fun _ => ⟨fun g => ⟨fun z => by omega, fun _ => copy g l8⟩, fun g => ?_⟩⟩
    rw [if_pos (by omega)] at hz
    exact h2 M2 hF2 hb2 (by rw [← hz])
end ZMy
