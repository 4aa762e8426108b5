/-! ===== who fights: the numbers out of the roster ===== -/
theorem zis_mem {sp : Nat → Nat} {k x : Nat} : ∀ {R : List Nat}, x ∈ zis sp R k → x = k ∨ x ∈ R
  | [], h => by
    simp only [zis, List.mem_singleton] at h
    exact Or.inl h
  | y :: t, h => by
    rw [zis] at h
    split at h
    · rcases List.mem_cons.mp h with rfl | h
      · exact Or.inr List.mem_cons_self
      · rcases zis_mem h with e | e
        · exact Or.inl e
        · exact Or.inr (List.mem_cons_of_mem _ e)
    · rcases List.mem_cons.mp h with e | e
      · exact Or.inl e
      · exact Or.inr e
theorem zis_len (sp : Nat → Nat) (k : Nat) : ∀ (R : List Nat), (zis sp R k).length = R.length + 1
  | [] => rfl
  | y :: t => by
    rw [zis]
    split
    · rw [List.length_cons, zis_len sp k t, List.length_cons]
    · rfl
theorem zis_nd {sp : Nat → Nat} {k : Nat} : ∀ {R : List Nat}, R.Pairwise (fun a b => a ≠ b) → (∀ x, x ∈ R → x ≠ k) → (zis sp R k).Pairwise (fun a b => a ≠ b)
  | [], _, _ => by
    rw [zis]
    exact List.pairwise_singleton _ _
  | y :: t, h, hk => by
    rw [List.pairwise_cons] at h
    rw [zis]
    split
    · rw [List.pairwise_cons]
      refine ⟨fun a ha => ?_, zis_nd h.2 (fun x hx => hk x (List.mem_cons_of_mem _ hx))⟩
      rcases zis_mem ha with rfl | e
      · exact hk y List.mem_cons_self
      · exact h.1 a e
    · rw [List.pairwise_cons, List.pairwise_cons]
      exact ⟨fun a ha => (hk a ha).symm, h⟩
/-- the numbers, who sits where, what each gets more -/
abbrev zCs : Type := (Nat → Nat) × (Nat → Option Nat) × (Nat → Nat)
def znu (c : zCs) (k w : Nat) : Nat := match c.2.1 k with
  | some f => c.1 (6 * f + w)
  | none => 0
def zol (c : zCs) : Nat → List Nat
  | 0 => []
  | j + 1 => if c.2.1 j = none then zol c j else zis (fun k => znu c k 5) (zol c j) j
theorem zol_in {c : zCs} : ∀ {j k : Nat}, k ∈ zol c j → k < j ∧ c.2.1 k ≠ none
  | 0, k, h => by cases h
  | j + 1, k, h => by
    rw [zol] at h
    split at h
    next e =>
      obtain ⟨h1, h2⟩ := zol_in h
      exact ⟨by omega, h2⟩
    next e =>
      rcases zis_mem h with rfl | h
      · exact ⟨by omega, e⟩
      · obtain ⟨h1, h2⟩ := zol_in h
        exact ⟨by omega, h2⟩
theorem zol_nd (c : zCs) : ∀ j, (zol c j).Pairwise (fun a b => a ≠ b)
  | 0 => List.Pairwise.nil
  | j + 1 => by
    rw [zol]
    split
    · exact zol_nd c j
    · exact zis_nd (zol_nd c j) (fun x hx => by have := (zol_in hx).1; omega)
theorem zol_len (c : zCs) : ∀ j, (zol c j).length ≤ j
  | 0 => Nat.le_refl _
  | j + 1 => by
    rw [zol]
    have := zol_len c j
    split
    · omega
    · rw [zis_len]
      omega
/-- the order, the first first -/
def zod (c : zCs) (i : Nat) : Nat := ((zol c 6)[(zol c 6).length - 1 - i]?).getD 0
theorem zod_in {c : zCs} {i : Nat} (h : i < (zol c 6).length) : (zol c 6)[(zol c 6).length - 1 - i]? = some (zod c i) := by
  unfold zod
  have h2 : (zol c 6).length - 1 - i < (zol c 6).length := by omega
  rw [List.getElem?_eq_getElem h2]
  rfl
theorem zod_6 {c : zCs} {i : Nat} (h : i < (zol c 6).length) : zod c i < 6 ∧ c.2.1 (zod c i) ≠ none := zol_in (List.mem_of_getElem? (zod_in h))
theorem zod_inj {c : zCs} {i j : Nat} (hi : i < (zol c 6).length) (hj : j < (zol c 6).length) (h : zod c i = zod c j) : i = j := by
  have hp := List.pairwise_iff_getElem.mp (zol_nd c 6)
  have ei := zod_in hi
  have ej := zod_in hj
  have li : (zol c 6).length - 1 - i < (zol c 6).length := by omega
  have lj : (zol c 6).length - 1 - j < (zol c 6).length := by omega
  rw [List.getElem?_eq_getElem li, Option.some.injEq] at ei
  rw [List.getElem?_eq_getElem lj, Option.some.injEq] at ej
  rcases Nat.lt_trichotomy i j with g | g | g
  · exact absurd (by rw [ei, ej, h]) (hp _ _ lj li (by omega))
  · exact g
  · exact absurd (by rw [ei, ej, h]) (hp _ _ li lj (by omega))
/-- the fight of these -/
def zpm (c : zCs) (am st : Int32) (r : Nat) : zPm := (((zol c 6).length, zod c), ((fun k => znu c k 0), (fun k => znu c k 1), (fun k => znu c k 2), (fun k => znu c k 3 + c.2.2 k), (fun k => znu c k 4)), (am, st, r))
/-- numbers that a roster of n may hold -/
def zNv (n : Nat) (nu : Nat → Nat) : Prop := n ≤ 16 ∧ ∀ f, f < n → nu (6 * f) ≤ 2 ∧ 1 ≤ nu (6 * f + 1) ∧ nu (6 * f + 1) ≤ 20 ∧ nu (6 * f + 2) ≤ 6 ∧ 1 ≤ nu (6 * f + 3) ∧ nu (6 * f + 3) ≤ 9 ∧ nu (6 * f + 4) ≤ 19 ∧ nu (6 * f + 5) ≤ 9
theorem zpm_ok {c : zCs} {am st : Int32} {r n : Nat} (hn : zNv n c.1) (hw : ∀ k f, c.2.1 k = some f → f < n) (hb : ∀ k, c.2.2 k ≤ 9) (hr : 1 ≤ r ∧ r ≤ 6) : zPo (zpm c am st r) := by
  refine ⟨zol_len c 6, fun i hi => (zod_6 hi).1, fun i j hi hj h => zod_inj hi hj h, fun i hi => ?_, hr⟩
  have hne := (zod_6 hi).2
  show znu c (zod c i) 0 ≤ 2 ∧ 1 ≤ znu c (zod c i) 1 ∧ znu c (zod c i) 1 ≤ 20 ∧ znu c (zod c i) 2 ≤ 6 ∧ 1 ≤ znu c (zod c i) 3 + c.2.2 (zod c i) ∧ znu c (zod c i) 3 + c.2.2 (zod c i) ≤ 18 ∧ znu c (zod c i) 4 ≤ 19
  have hbk := hb (zod c i)
  cases hf : c.2.1 (zod c i) with
  | none => exact absurd hf hne
  | some f =>
    obtain ⟨h1, h2, h3, h4, h5, h6, h7, h8⟩ := hn.2 f (hw _ f hf)
    simp only [znu, hf]
    exact ⟨h1, h2, h3, h4, by omega, by omega, h7⟩
/-- the roster in the class's memory -/
def zRo (n : Nat) (nu : Nat → Nat) (M : zf_M) : Prop := zNv n nu ∧ zf_I M 1 1 = nI n ∧ ∀ i, i < 6 * n → zf_I M 2 i = nI (nu i)
/-- some seats taken -/
def zSt (c : zCs) (M : zf_M) (j : Nat) : Prop := zf_I M 4 7 = nI (zol c j).length ∧ zOr M 11 (zol c j) ∧ ∀ k, k < j → ∀ f, c.2.1 k = some f → zf_I M 5 k = nI (znu c k 0) ∧ zf_I M 6 k = nI (znu c k 1) ∧ zf_I M 7 k = nI (znu c k 2) ∧ zf_I M 8 k = nI (znu c k 3 + c.2.2 k) ∧ zf_I M 9 k = nI (znu c k 4) ∧ zf_I M 10 k = nI (znu c k 5)
theorem zSt_0 {c : zCs} {M : zf_M} (h : zf_I M 4 7 = 0) : zSt c M 0 := ⟨h, fun i k hk => by simp [zol] at hk, fun k hk => by omega⟩
theorem zSt_skip {c : zCs} {M : zf_M} {j : Nat} (h : zSt c M j) (hw : c.2.1 j = none) : zSt c M (j + 1) := by
  obtain ⟨h1, h2, h3⟩ := h
  have e : zol c (j + 1) = zol c j := by rw [zol, if_pos hw]
  refine ⟨by rw [e]; exact h1, by rw [e]; exact h2, fun k hk f hf => ?_⟩
  by_cases hkj : k = j
  · subst hkj
    rw [hw] at hf
    cases hf
  · exact h3 k (by omega) f hf
theorem zSt_FP {c : zCs} {M : zf_M} {am st : Int32} {r : Nat} (h : zSt c M 6) (h1 : zf_I M 4 8 = nI r) (h2 : zf_I M 4 9 = am) (h3 : zf_I M 4 10 = st) : zFP (zpm c am st r) M := by
  obtain ⟨g1, g2, g3⟩ := h
  refine ⟨g1, fun i hi => ?_, fun i hi => ?_, h1, h2, h3⟩
  · change i < (zol c 6).length at hi
    have := g2 _ _ (zod_in hi)
    rw [show (zol c 6).length - 1 - ((zol c 6).length - 1 - i) = i by omega] at this
    exact this
  · obtain ⟨h4, h5⟩ := zod_6 hi
    cases hf : c.2.1 (zod c i) with
    | none => exact absurd hf h5
    | some f =>
      obtain ⟨x1, x2, x3, x4, x5, x6⟩ := g3 _ h4 f hf
      exact ⟨x1, x2, x3, x4, x5⟩
section ZCa
variable {X : zf_X} {M : zf_M} {Q : Option Value → zf_M → Prop} {n j f : Nat} {c : zCs}
/-- seat, as the fight has it -/
theorem s8c (hP : zPk M) (hR : zRo n c.1 M) (hS : zSt c M j) (hj : j < 6) (hw : c.2.1 j = some f) (hwn : ∀ k f, c.2.1 k = some f → f < n)
    (h : ∀ M1, zF (fun c => 4 ≤ c ∧ c ≤ 11) M M1 → zSt c M1 (j + 1) → (∀ i, i ≠ 7 → zf_I M1 4 i = zf_I M 4 i) → Q none M1) : zC X 8 [.ref 4, .int (nI j), .ref 1, .int (nI f), .int (nI (c.2.2 j))] M Q := by
  obtain ⟨h1, h2, h3⟩ := hS
  obtain ⟨r1, r2, r3⟩ := hR
  have hl := zol_len c j
  have hf := hwn j f hw
  have e : zol c (j + 1) = zis (fun k => znu c k 5) (zol c j) j := by rw [zol, if_neg (by rw [hw]; exact fun z => by cases z)]
  have ev : ∀ w, znu c j w = c.1 (6 * f + w) := fun w => by simp only [znu, hw]
  have hc : ∀ w, w < 6 → zf_I M 2 (6 * f + w) = nI (znu c j w) := fun w hw6 => by rw [r3 _ (by omega), ev]
  have big : ∀ k f2, c.2.1 k = some f2 → f2 < n → znu c k 5 < 2 ^ 31 := by
    intro k f2 h4 h5
    have := (r1.2 f2 h5).2.2.2.2.2.2.2
    simp only [znu, h4]
    omega
  refine s8 (b := c.2.2 j) (sp := fun k => znu c k 5) (R := zol c j) hP r2 r1.1 hf hj (by omega) h1 h2 (fun k hk => ?_) ⟨hc 5 (by decide), big j f hw hf⟩ (fun M1 g1 g2 g3 g4 g5 g6 g7 g8 g9 g10 g11 => ?_)
  · obtain ⟨k1, k2⟩ := zol_in hk
    cases hkf : c.2.1 k with
    | none => exact absurd hkf k2
    | some f2 =>
      refine ⟨by omega, (h3 k k1 f2 hkf).2.2.2.2.2, big k f2 hkf (hwn k f2 hkf), by omega⟩
  · refine h M1 g1 ⟨?_, ?_, fun k hk f2 hkf => ?_⟩ g10
    · rw [e, zis_len]
      exact g9
    · rw [e]
      exact g11
    · by_cases hkj : k = j
      · subst hkj
        refine ⟨by rw [g2]; exact hc 0 (by decide), by rw [g3]; exact hc 1 (by decide), by rw [g4]; exact hc 2 (by decide), ?_, by rw [g6]; exact hc 4 (by decide), by rw [g7]; exact hc 5 (by decide)⟩
        rw [g5, hc 3 (by decide), nI_add]
      · obtain ⟨x1, x2, x3, x4, x5, x6⟩ := h3 k (by omega) f2 hkf
        exact ⟨by rw [g8 5 k (by omega) (by omega) hkj]; exact x1, by rw [g8 6 k (by omega) (by omega) hkj]; exact x2, by rw [g8 7 k (by omega) (by omega) hkj]; exact x3, by rw [g8 8 k (by omega) (by omega) hkj]; exact x4, by rw [g8 9 k (by omega) (by omega) hkj]; exact x5, by rw [g8 10 k (by omega) (by omega) hkj]; exact x6⟩
end ZCa

