/-! ===== the model: a next state more ===== -/
/-- states J, table T, by any hash -/
def zT0 (hh : Int64 → Nat) (J : Nat → Int64) (T : Nat → Int32) (n : Nat) (sp : Nat → Nat) : Prop := n ≤ 800 ∧ (∀ i j, i < n → j < n → J i = J j → i = j) ∧ (∀ i, i < n → ∃ d, d < 2048 ∧ sp i = (hh (J i) + d) % 2048 ∧ T (sp i) = nI (i + 1) ∧ ∀ e, e < d → T ((hh (J i) + e) % 2048) ≠ 0) ∧ (∀ p, p < 2048 → T p = 0 ∨ ∃ i, i < n ∧ T p = nI (i + 1) ∧ sp i = p)
theorem zT0_new {hh : Int64 → Nat} {J J2 : Nat → Int64} {T T2 : Nat → Int32} {n d q : Nat} {sp sp2 : Nat → Nat} {s : Int64} (h : zT0 hh J T n sp) (hn : n < 800) (hs : ∀ i, i < n → J i ≠ s) (hd : d < 2048) (hq : q = (hh s + d) % 2048) (h0 : T q = 0) (hb : ∀ e, e < d → T ((hh s + e) % 2048) ≠ 0) (hJ1 : J2 n = s) (hJ2 : ∀ i, i ≠ n → J2 i = J i) (hT1 : T2 q = nI (n + 1)) (hT2 : ∀ p, p ≠ q → T2 p = T p) (hp1 : sp2 n = q) (hp2 : ∀ i, i ≠ n → sp2 i = sp i) : zT0 hh J2 T2 (n + 1) sp2 := by
  obtain ⟨h2, h3, h4, h5⟩ := h
  have hTn : ∀ p, T p ≠ 0 → T2 p ≠ 0 := by
    intro p hp
    by_cases e : p = q
    · rw [e, hT1]
      exact n_ne0 (by omega)
    · rw [hT2 p e]
      exact hp
  refine ⟨by omega, ?_, ?_, ?_⟩
  · intro i j hi hj e
    by_cases ei : i = n
    · by_cases ej : j = n
      · omega
      · rw [ei, hJ1, hJ2 j ej] at e
        exact absurd e.symm (hs j (by omega))
    · by_cases ej : j = n
      · rw [ej, hJ1, hJ2 i ei] at e
        exact absurd e (hs i (by omega))
      · rw [hJ2 i ei, hJ2 j ej] at e
        exact h3 i j (by omega) (by omega) e
  · intro i hi
    by_cases ei : i = n
    · rw [ei, hJ1, hp1, hT1]
      exact ⟨d, hd, hq, rfl, fun e he => hTn _ (hb e he)⟩
    · rw [hJ2 i ei, hp2 i ei]
      obtain ⟨d2, g1, g2, g3, g4⟩ := h4 i (by omega)
      have hne : sp i ≠ q := by
        intro e
        rw [e, h0] at g3
        exact n_ne0 (by omega) g3.symm
      exact ⟨d2, g1, g2, by rw [hT2 _ hne]; exact g3, fun e he => hTn _ (g4 e he)⟩
  · intro p hp
    by_cases ep : p = q
    · rw [ep, hT1]
      exact Or.inr ⟨n, by omega, rfl, hp1⟩
    · rw [hT2 p ep]
      rcases h5 p hp with g | ⟨i, g1, g2, g3⟩
      · exact Or.inl g
      · exact Or.inr ⟨i, by omega, g2, by rw [hp2 i (by omega)]; exact g3⟩
theorem zTI_0 {M : zf_M} {n : Nat} {sp : Nat → Nat} (h : zTI M n sp) : zT0 zht (fun i => zf_J M 68 i) (fun p => zf_I M 70 p) n sp := h.2
theorem zTI_of {M : zf_M} {n : Nat} {sp : Nat → Nat} (h1 : zf_I M 58 16 = nI n) (h : zT0 zht (fun i => zf_J M 68 i) (fun p => zf_I M 70 p) n sp) : zTI M n sp := ⟨h1, h⟩
theorem zjm_J (M : zf_M) (n p : Nat) (s w : Int64) (i : Nat) : zf_J (zjm M n p s w) 68 i = if i = n then s else zf_J M 68 i := by
  unfold zjm
  rw [zJ_sJ, if_neg (by decide), zJ_sI, zJ_sI, zJ_sJ, if_neg (by decide), zJ_sJ, if_pos rfl]
theorem zjm_K (M : zf_M) (n p : Nat) (s w : Int64) (i : Nat) : zf_J (zjm M n p s w) 69 i = if i = n then w else zf_J M 69 i := by
  unfold zjm
  rw [zJ_sJ, if_pos rfl, zJ_sI, zJ_sI, zJ_sJ, if_pos rfl]
  by_cases e : i = n
  · rw [if_pos e, if_pos e]
  · rw [if_neg e, if_neg e, if_neg e, zJ_sJ, if_neg (by decide)]
theorem zjm_T (M : zf_M) (n q : Nat) (s w : Int64) (p : Nat) : zf_I (zjm M n q s w) 70 p = if p = q then nI (n + 1) else zf_I M 70 p := by
  unfold zjm
  rw [zI_sJ, zI_sI, if_pos rfl, zI_sI, if_neg (show ¬ (70 : Nat) = 58 by decide), zI_sJ, zI_sJ]
theorem zjm_n (M : zf_M) (n q : Nat) (s w : Int64) : zf_I (zjm M n q s w) 58 16 = nI (n + 1) := by
  unfold zjm
  rw [zI_sJ, zI_sI, if_neg (by decide), zI_sI, if_pos rfl, if_pos rfl]
theorem zjm_5 (M : zf_M) (n q : Nat) (s w : Int64) (j : Nat) (hj : j ≠ 16) : zf_I (zjm M n q s w) 58 j = zf_I M 58 j := by
  unfold zjm
  rw [zI_sJ, zI_sI, if_neg (by decide), zI_sI, if_pos rfl, if_neg hj, zI_sJ, zI_sJ]
theorem zTI_new {M : zf_M} {n d : Nat} {sp : Nat → Nat} {s w : Int64} (h : zTI M n sp) (hn : n < 800) (hs : ∀ i, i < n → zf_J M 68 i ≠ s) (hd : d < 2048) (h0 : zf_I M 70 ((zht s + d) % 2048) = 0) (hb : ∀ e, e < d → zf_I M 70 ((zht s + e) % 2048) ≠ 0) : zTI (zjm M n ((zht s + d) % 2048) s w) (n + 1) (fun i => if i = n then (zht s + d) % 2048 else sp i) := by
  refine zTI_of (zjm_n _ _ _ _ _) (zT0_new (zTI_0 h) hn hs hd rfl h0 hb ?_ (fun i hi => ?_) ?_ (fun p hp => ?_) (if_pos rfl) (fun i hi => if_neg hi))
  · show zf_J _ 68 n = _
    rw [zjm_J, if_pos rfl]
  · show zf_J _ 68 i = _
    rw [zjm_J, if_neg hi]
  · show zf_I _ 70 _ = _
    rw [zjm_T, if_pos rfl]
  · show zf_I _ 70 p = _
    rw [zjm_T, if_neg hp]
/-- the model's next states as a list -/
def zTL (M : zf_M) (K : List (Nat × Nat)) : Prop := (∃ sp, zTI M K.length sp) ∧ ∀ i q, K[i]? = some q → zf_J M 68 i = lN (zpk q.1 6) ∧ zf_J M 69 i = lN q.2 ∧ q.1 < 64 ^ 6
theorem zpk6 (N : Nat) : zpk N 6 < 64 ^ 6 := zpk_lt N 6
section ZMn
variable {X : zf_X} {M : zf_M} {Q : Option Value → zf_M → Prop} {N w : Nat}
/-- comes, on lists -/
theorem s126L {K : List (Nat × Nat)} (hP : zPk M) (hS : zSM M N) (hN : N < 64 ^ 6) (hK : zTL M K) (hl : K.length < 800)
    (h : ∀ M1, zF (fun c => c = 58 ∨ c = 68 ∨ c = 69 ∨ c = 70) M M1 → (∀ j, j ≠ 16 → zf_I M1 58 j = zf_I M 58 j) → zTL M1 (zins K N w) → Q none M1) : zC X 126 [.ref 58, .long (lN w)] M Q := by
  obtain ⟨⟨sp, hI⟩, hJ⟩ := hK
  have hx : ∀ i, i < K.length → ∃ p, K[i]? = some p := fun i hi => ⟨K[i], List.getElem?_eq_getElem hi⟩
  have h6 := zpk6 N
  generalize hv : zpk N 6 = v at *
  have hnew : (∀ i, i < K.length → zf_J M 68 i ≠ lN v) → zins K N w = K ++ [(N, w)] := by
    intro hs
    refine zins_new K N w (fun j q hq e => ?_)
    have hl := (List.getElem?_eq_some_iff.mp hq).1
    exact hs j hl (by rw [(hJ j q hq).1, e, hv])
  refine s126 hP hS hI hl (fun i hi e => ?_) (fun hs d hd h0 hb => ?_)
  · obtain ⟨q, hq⟩ := hx i hi
    obtain ⟨j1, j2, j3⟩ := hJ i q hq
    have hqN : q.1 = N := by
      refine zpk_inj j3 hN ((lN_inj (zpk6 _) (zpk6 _)).mp ?_)
      rw [← j1, e]
    have hset := zins_set K N w i q hq hqN (fun j hj q2 hq2 e2 => by
      have := hI.2.2.1 j i (by omega) hi (by rw [(hJ j q2 hq2).1, j1, e2, hqN])
      omega)
    rw [hset] at h
    refine h _ (zF_sJ (zF_rf _ _) (by omega)) (fun j _ => rfl) ⟨⟨sp, ?_⟩, fun j q2 hq2 => ?_⟩
    · rw [List.length_set]
      refine zTI_of hI.1 ?_
      have h2 := zTI_0 hI
      have e1 : (fun i_1 => zf_J (zf_sJ M 69 i (zf_J M 69 i + lN w)) 68 i_1) = fun i => zf_J M 68 i := by
        funext j
        rw [zJ_sJ, if_neg (by decide)]
      rw [e1]
      exact h2
    · rw [zJ_sJ, if_neg (by decide), zJ_sJ, if_pos rfl]
      by_cases hji : j = i
      · subst hji
        rw [List.getElem?_set_self hi] at hq2
        cases hq2
        exact ⟨j1, by rw [if_pos rfl, j2, lN_add], j3⟩
      · rw [List.getElem?_set_ne (Ne.symm hji)] at hq2
        rw [if_neg hji]
        exact hJ j q2 hq2
  · rw [hv] at hs h0 hb ⊢
    rw [hnew hs] at h
    have hnl : (K ++ [(N, w)]).length = K.length + 1 := by simp
    have hz := zTI_new (w := lN w) hI hl hs hd h0 hb
    refine h _ (zF_sJ (zF_sI (zF_sI (zF_sJ (zF_sJ (zF_rf _ _) (by omega)) (by omega)) (by omega)) (by omega)) (by omega)) (fun j hj => zjm_5 _ _ _ _ _ j hj) ⟨⟨_, by rw [hnl]; exact hz⟩, fun j q hq => ?_⟩
    rw [zjm_J, zjm_K]
    by_cases hj : j < K.length
    · rw [List.getElem?_append_left hj] at hq
      rw [if_neg (by omega), if_neg (by omega)]
      exact hJ j q hq
    · have hjl := (List.getElem?_eq_some_iff.mp hq).1
      rw [hnl] at hjl
      obtain rfl : j = K.length := by omega
      rw [List.getElem?_append_right (Nat.le_refl _), Nat.sub_self] at hq
      cases hq
      exact ⟨by rw [if_pos rfl, hv], if_pos rfl, hN⟩
end ZMn
