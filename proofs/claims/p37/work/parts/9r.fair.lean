/-! ===== the law's fights ===== -/
theorem zol_s {c : zCs} {j : Nat} (h : c.2.1 j = none) : (zol c (j + 1)).length = (zol c j).length := by rw [zol, if_pos h]
theorem zol_t {c : zCs} {j : Nat} (h : c.2.1 j ≠ none) : (zol c (j + 1)).length = (zol c j).length + 1 := by rw [zol, if_neg h, zis_len]
theorem zol_zca {nu : Nat → Nat} {h : Nat} {w : Nat → Nat} {hf : Nat} {wf : Nat → Nat} {b : Nat} (h3 : h ≤ 3) (f3 : hf ≤ 3) : (zol (zca nu h w hf wf b) 6).length = h + hf := by
  have h1 : ∀ j, j ≤ 3 → (zol (zca nu h w hf wf b) j).length = min j h := by
    intro j
    induction j with
    | zero => intro _; exact (Nat.zero_min h).symm
    | succ j ih =>
      intro hj
      have ih := ih (by omega)
      by_cases e : j < h
      · rw [zol_t (by rw [(zca_h e h3).1]; intro z; cases z), ih]
        omega
      · rw [zol_s (zca_hn (by omega) (by omega)), ih]
        omega
  have h2 : ∀ j, j ≤ 3 → (zol (zca nu h w hf wf b) (3 + j)).length = h + min j hf := by
    intro j
    induction j with
    | zero =>
      intro _
      rw [Nat.add_zero, h1 3 (Nat.le_refl _)]
      omega
    | succ j ih =>
      intro hj
      have ih := ih (by omega)
      by_cases e : j < hf
      · rw [← Nat.add_assoc, zol_t (by rw [(zca_f e).1]; intro z; cases z), ih]
        omega
      · rw [← Nat.add_assoc, zol_s (zca_fn (by omega)), ih]
        omega
  have := h2 3 (Nat.le_refl _)
  rw [this]
  omega
/-- the fight that the law makes -/
def yQ (q : tQ) : Prop := vQ q ∧ (1 ≤ (qB q).1.1 ∧ (qB q).1.1 ≤ 2) ∧ (1 ≤ (qB q).2.1 ∧ (qB q).2.1 ≤ 2) ∧ (qL q).1 ≤ 4
section YFa
variable {q q1 : tQ}
theorem yN (hv : vQ q) : pn (zpq q 0) = (qB q).1.1 + (qB q).2.1 := zol_zca hv.2.1.1.1 hv.2.1.2.1
theorem ySl (hv : vQ q) : aSlots q = pr (zpq q 0) * pn (zpq q 0) := by
  rw [yN hv]
  rfl
theorem yS16 (h : yQ q) : pr (zpq q 0) * pn (zpq q 0) ≤ 16 := by
  rw [yN h.1]
  have h1 : pr (zpq q 0) ≤ 4 := h.2.2.2
  have h2 := h.2.1.2
  have h3 := h.2.2.1.2
  exact Nat.mul_le_mul h1 (show (qB q).1.1 + (qB q).2.1 ≤ 4 by omega)
theorem y0p (h : yQ q) : 0 < pn (zpq q 0) := by
  rw [yN h.1]
  have h2 := h.2.1.1
  omega
theorem yOc {k : Nat} (h : (zcq q 0).2.1 k ≠ none) (h6 : k < 6) : ∃ i, i < pn (zpq q 0) ∧ po (zpq q 0) i = k := zod_sur h h6
theorem yC (h : yQ q) {s : Nat} (hs : s < 2) : (zcq q 0).2.1 (3 * s) ≠ none := by
  rcases (show s = 0 ∨ s = 1 by omega) with rfl | rfl
  · have := (zca_h (nu := (qA q).2) (w := (qB q).1.2) (hf := (qB q).2.1) (wf := (qB q).2.2) (b := 0) (show 0 < (qB q).1.1 by have := h.2.1.1; omega) h.1.2.1.1.1).1
    show (zcq q 0).2.1 0 ≠ none
    unfold zcq
    rw [this]
    intro z
    cases z
  · have := (zca_f (nu := (qA q).2) (h := (qB q).1.1) (w := (qB q).1.2) (wf := (qB q).2.2) (b := 0) (show 0 < (qB q).2.1 by have := h.2.2.1.1; omega)).1
    show (zcq q 0).2.1 (3 + 0) ≠ none
    unfold zcq
    rw [this]
    intro z
    cases z
theorem yW (h : yQ q) : zwin (zst (zpq q 0)) = -1 := by
  have hp : zPo (zpq q 0) := zpq_ok h.1 (by decide)
  have key : ∀ s, s < 2 → 32 ≤ dg (zst (zpq q 0)) (3 * s) := by
    intro s hs
    rw [(zst_ok hp).2 (3 * s) (by omega), if_pos (yOc (yC h hs) (by omega))]
    omega
  unfold zwin
  rw [if_pos (Or.inl (key 0 (by decide))), if_pos (Or.inl (key 1 (by decide)))]
/-- another state over the same fight, its first sheet of 24 shorts -/
def yG (q q1 : tQ) : Prop := vQ q1 ∧ qA q1 = qA q ∧ qB q1 = qB q ∧ qL q1 = qL q ∧ (qS q1).1 0 = 1 ∧ (qS q1).2.1 0 = 24
def yT24 (q1 : tQ) : Prop := yIt ((qS q1).2.2 0) 24
theorem zpq_e (h : yG q q1) : zpq q1 0 = zpq q 0 := by
  obtain ⟨-, h1, h2, h3, -⟩ := h
  unfold zpq zcq
  rw [h1, h2, h3]
theorem zcq_e (h : yG q q1) : zcq q1 0 = zcq q 0 := by
  obtain ⟨-, h1, h2, h3, -⟩ := h
  unfold zcq
  rw [h1, h2]
theorem yShake (h : yG q q1) (r : Int32) : aShake q1 0 = 24 ∧ yG q (nShake q1 0 r) ∧ yT24 (nShake q1 0 r) := by
  obtain ⟨hv, h1, h2, h3, h4, h5⟩ := h
  have e0 : zin (0 : Int32) 0 3 := by decide
  have e1 : ¬ (qS q1).1 (0 : Int32).toNatClampNeg < 0 := by
    show ¬ (qS q1).1 0 < 0
    rw [h4]
    decide
  have hn : nShake q1 0 r = uS q1 ((qS q1).1, (qS q1).2.1, zud (qS q1).2.2 (0 : Int32).toNatClampNeg (fun i => zrv (zrs r (i + 1)))) := by
    unfold nShake
    rw [if_pos e0, if_neg e1]
  refine ⟨?_, ⟨vShake 0 r hv, ?_⟩, ?_⟩
  · unfold aShake
    rw [if_pos e0, if_neg e1]
    show nI ((qS q1).2.1 0) = 24
    rw [h5]
    rfl
  · rw [hn]
    exact ⟨h1, h2, h3, h4, h5⟩
  · rw [hn]
    intro j hj
    show ∃ m, 1 ≤ m ∧ m ≤ 6 ∧ zud (qS q1).2.2 0 (fun i => zrv (zrs r (i + 1))) 0 j = nI m
    unfold zud
    rw [if_pos rfl]
    exact zrv_ok _
theorem yPut (h : yG q q1) (ht : yT24 q1) {i m : Nat} (hi : i < 24) (m1 : 1 ≤ m) (m6 : m ≤ 6) : aPut q1 0 1 (nI i) = 1 ∧ yG q (nPut q1 0 1 (nI i) (nI m)) ∧ yT24 (nPut q1 0 1 (nI i) (nI m)) := by
  obtain ⟨hv, h1, h2, h3, h4, h5⟩ := h
  have e0 : bPut 0 1 := by decide
  have hf : zft q1 (0 : Int32).toNatClampNeg 1 (nI i) = 0 := by
    show zft q1 0 1 (nI i) = 0
    unfold zft
    rw [h4, h5, if_neg (by decide), if_neg (by decide), if_pos]
    refine ⟨?_, ?_⟩
    · rw [c_0, n_le (by decide) (by omega)]
      omega
    · rw [n_lt (by omega) (by decide)]
      exact hi
  have hn : nPut q1 0 1 (nI i) (nI m) = uS q1 ((qS q1).1, (qS q1).2.1, zud (qS q1).2.2 (0 : Int32).toNatClampNeg (zud ((qS q1).2.2 (0 : Int32).toNatClampNeg) (nI i).toNatClampNeg (zcv 1 (nI m)))) := by
    unfold nPut
    rw [if_pos e0, if_pos hf]
  refine ⟨?_, ⟨vPut 0 1 (nI i) (nI m) hv, ?_⟩, ?_⟩
  · unfold aPut
    rw [if_pos e0, if_pos hf]
  · rw [hn]
    exact ⟨h1, h2, h3, h4, h5⟩
  · rw [hn]
    intro j hj
    show ∃ m', 1 ≤ m' ∧ m' ≤ 6 ∧ zud (qS q1).2.2 0 (zud ((qS q1).2.2 0) (nI i).toNatClampNeg (zcv 1 (nI m))) 0 j = nI m'
    rw [zcv_small 1 (by decide) m m6]
    unfold zud
    rw [if_pos rfl]
    by_cases e : j = (nI i).toNatClampNeg
    · rw [if_pos e]
      exact ⟨m, m1, m6, rfl⟩
    · rw [if_neg e]
      exact ht j hj
theorem yzw (N : Nat) : zwm N = nI (ye N) ∧ ye N ≤ 2 := by
  unfold zwm ye
  by_cases e : zwin N = -1
  · rw [if_pos e, if_pos e]
    exact ⟨rfl, Nat.le_refl _⟩
  · rw [if_neg e, if_neg e]
    exact ⟨zwin_e e, by have := zwe_lt N; omega⟩
/-- the counters of the fight -/
def yCn (q : tQ) : zA := (zrk (zpq q 0)).2.1
def yAll (q : tQ) : Nat := 6 ^ (pr (zpq q 0) * pn (zpq q 0))
theorem yAll_b (h : yQ q) : yAll q ≤ 2821109907456 := Nat.le_trans (Nat.pow_le_pow_right (by decide) (yS16 h)) (by decide)
theorem yCn_s (h : yQ q) (hz : zrun (zpq q 0)) : (yCn q).1 0 + (yCn q).1 1 + (yCn q).1 2 = yAll q ∧ yA (yCn q) := by
  obtain ⟨h1, h2, -⟩ := yRk (zpq_ok h.1 (by decide)) (y0p h) (yW h) hz.2
  exact ⟨h1, h2⟩
theorem yA_b (h : yQ q) (hz : zrun (zpq q 0)) : (∀ i, (yCn q).2.1 i ≤ yAll q) ∧ ∀ i, (yCn q).2.2 i ≤ yAll q := by
  obtain ⟨h1, h2, h3⟩ := yCn_s h hz
  have e : zsm (yCn q) = yAll q := h1
  rw [← e]
  exact ⟨h2, h3⟩
theorem yPlay (h0 : yQ q) (hz : zrun (zpq q 0)) (h : yG q q1) (ht : yT24 q1) : ∃ N u R, aPlay q1 0 = nI (ye N) ∧ yG q (nPlay q1 0) ∧ qP (nPlay q1 0) = ((nI (ye N), nI u, nI R), zlv q N) ∧ u ≤ aSlots q ∧ 1 ≤ R ∧ R ≤ (qL q).1 ∧ (zV (zpq q 0) N ∧ yU N) ∧ yH (zpq q 0) (yCn q) N (ye N) R := by
  obtain ⟨N, u, R, h1, h2, h3, h4, h5, h6⟩ := yPl (zpq_ok h0.1 (by decide)) (y0p h0) (yW h0) hz.2 ht (Nat.le_trans (yS16 h0) (by decide))
  have e0 : zin (0 : Int32) 0 3 := by decide
  have e1 : ¬ (qS q1).1 (0 : Int32).toNatClampNeg < 0 := by
    show ¬ (qS q1).1 0 < 0
    rw [h.2.2.2.2.1]
    decide
  have e2 : zpR q1 (0 : Int32).toNatClampNeg = some (N, u, R) := by
    show zpR q1 0 = _
    unfold zpR
    rw [zpq_e h, h.2.2.2.2.2]
    exact h1
  have hn : nPlay q1 0 = uP q1 ((nI (ye N), nI u, nI R), zlv q N) := by
    unfold nPlay
    rw [if_pos e0, if_neg e1, e2]
    show uP q1 ((zwm N, nI u, nI R), zlv q1 N) = _
    rw [(yzw N).1]
    have e3 : zlv q1 N = zlv q N := by
      funext k
      unfold zlv
      rw [zcq_e h]
    rw [e3]
  refine ⟨N, u, R, ?_, ⟨vPlay 0 h.1, ?_⟩, ?_, by rw [ySl h0.1]; exact h2, h3, h4, h5, h6⟩
  · unfold aPlay
    rw [if_pos e0, if_neg e1, e2]
    exact (yzw N).1
  · rw [hn]
    exact h.2
  · rw [hn]
    rfl
theorem aWays_e (h : yG q q1) (hz : zrun (zpq q 0)) {e : Nat} (he : e ≤ 2) : aWays q1 (nI e) = lN ((yCn q).1 e) := by
  unfold aWays
  rw [if_pos (show zin (nI e) 0 2 from (zin_k (N := 2) (n := 2) rfl (by decide) (by omega)).mpr he), n_cl (by omega), zpq_e h]
  unfold zend'
  rw [if_pos hz]
  rfl
theorem aAll_e (h : yG q q1) (hz : zrun (zpq q 0)) : zall' (zpq q1 0) = lN (yAll q) := by
  rw [zpq_e h]
  unfold zall'
  rw [if_pos hz]
  rfl
theorem aEnds_e (h0 : yQ q) (h : yG q q1) (hz : zrun (zpq q 0)) {r : Nat} (hr : r ≤ (qL q).1) : aEnds q1 (nI r) = lN ((yCn q).2.1 r) := by
  have h4 := h0.2.2.2
  have hL := h.2.2.2.1
  unfold aEnds
  rw [hL, if_pos ((zin_k (n := (qL q).1) rfl (by omega) (by omega)).mpr hr), n_cl (by omega), zpq_e h]
  unfold zrnd'
  rw [if_pos hz]
  rfl
theorem aSlots_e (h : yG q q1) : aSlots q1 = aSlots q := by
  unfold aSlots
  rw [h.2.2.1, h.2.2.2.1]
theorem aPl_0 : aPl q1 0 = (qP q1).1.1 := if_pos rfl
theorem aPl_1 : aPl q1 1 = (qP q1).1.2.1 := by
  unfold aPl
  rw [if_neg (by decide), if_pos rfl]
theorem aPl_2 : aPl q1 2 = (qP q1).1.2.2 := by
  unfold aPl
  rw [if_neg (by decide), if_neg (by decide), if_pos rfl]
theorem aPl_k {k : Nat} (hk : k < 6) : aPl q1 (nI (10 + k)) = (qP q1).2 k := by
  have e : ∀ j, j < 3 → ¬ nI (10 + k) = nI j := by
    intro j hj
    rw [n_eq (by omega) (by omega)]
    omega
  unfold aPl
  rw [if_neg (show ¬ nI (10 + k) = 0 from e 0 (by decide)), if_neg (show ¬ nI (10 + k) = 1 from e 1 (by decide)), if_neg (show ¬ nI (10 + k) = 2 from e 2 (by decide)), if_pos]
  · have e2 : nI (10 + k) - 10 = nI k := by
      have := pk_sub (a := 10 + k) (b := 10) (by omega)
      rw [show (10 + k) - 10 = k by omega] at this
      exact this
    rw [e2, n_cl (by omega)]
  · show nI 10 ≤ nI (10 + k) ∧ nI (10 + k) ≤ nI 15
    rw [n_le (by decide) (by omega), n_le (by omega) (by decide)]
    omega
theorem aLeft_e (h0 : yQ q) (h : yG q q1) (hz : zrun (zpq q 0)) {s l u : Nat} (hs : s < 2) (hl : l ≤ 20) (hu : u ≤ 1) : aLeft q1 (nI s) 0 (nI l) (nI u) = lN ((yCn q).2.2 (64 * (3 * s) + l + 32 * u)) := by
  have hw : zwh q1 s 0 ≠ none := by
    unfold zwh
    rw [h.2.2.1]
    unfold zat
    rcases (show s = 0 ∨ s = 1 by omega) with rfl | rfl
    · rw [if_pos rfl, if_pos (show 0 < (qB q).1.1 by have := h0.2.1.1; omega)]
      intro z
      cases z
    · rw [if_neg (show ¬ (1 : Nat) = 0 by decide), if_pos (show 0 < (qB q).2.1 by have := h0.2.2.1.1; omega)]
      intro z
      cases z
  unfold aLeft
  rw [n_cl (show s < 2 ^ 31 by omega), n_cl (show l < 2 ^ 31 by omega), n_cl (show u < 2 ^ 31 by omega), if_pos (show zin (nI s) 0 1 ∧ zin (0 : Int32) 0 2 ∧ zin (nI l) 0 20 ∧ zin (nI u) 0 1 ∧ zwh q1 s (0 : Int32).toNatClampNeg ≠ none from ⟨(zin_k (N := 1) (n := 1) rfl (by decide) (by omega)).mpr (by omega), by decide, (zin_k (N := 20) (n := 20) rfl (by decide) (by omega)).mpr hl, (zin_k (N := 1) (n := 1) rfl (by decide) (by omega)).mpr hu, hw⟩), zpq_e h]
  unfold zlft'
  rw [if_pos hz]
  rfl
/-- a life that is left has ways -/
theorem yLife (h0 : yQ q) (hz : zrun (zpq q 0)) {N s e R : Nat} (hs : s < 2) (hN : zV (zpq q 0) N ∧ yU N) (hH : yH (zpq q 0) (yCn q) N e R) : ∃ l, l ≤ 20 ∧ zlv q N (3 * s) = nI l ∧ 1 ≤ (yCn q).2.2 (64 * (3 * s) + l + 32 * 0) + (yCn q).2.2 (64 * (3 * s) + l + 32 * 1) ∧ (l = 0 → 1 ≤ (yCn q).2.2 (64 * (3 * s) + l + 32 * 0)) := by
  have hp : zPo (zpq q 0) := zpq_ok h0.1 (by decide)
  obtain ⟨i, i1, i2⟩ := yOc (yC h0 hs) (show 3 * s < 6 by omega)
  have hw := hH.2.2 i i1
  rw [i2] at hw
  have hd := dg_lt N (3 * s)
  have hU := hN.2 (3 * s) (by omega)
  have hl : dg N (3 * s) % 32 ≤ 20 := by
    by_cases g : dg N (3 * s) = 0
    · rw [g]
      decide
    · have h1 := (hN.1.2 (3 * s) (by omega) g).2
      have h2 := (hp.2.2.2.1 i i1).2.2.1
      rw [i2] at h2
      omega
  refine ⟨dg N (3 * s) % 32, hl, ?_, ?_, ?_⟩
  · unfold zlv
    rw [if_neg (yC h0 hs)]
  · by_cases g : dg N (3 * s) < 32
    · rw [show 64 * (3 * s) + dg N (3 * s) % 32 + 32 * 0 = 64 * (3 * s) + dg N (3 * s) by omega]
      omega
    · rw [show 64 * (3 * s) + dg N (3 * s) % 32 + 32 * 1 = 64 * (3 * s) + dg N (3 * s) by omega]
      omega
  · intro g
    rw [show 64 * (3 * s) + dg N (3 * s) % 32 + 32 * 0 = 64 * (3 * s) + dg N (3 * s) by omega]
    exact hw
end YFa
