/-! ===== the roster: both ===== -/
def zud {α : Type} (g : Nat → α) (i : Nat) (v : α) : Nat → α := fun j => if j = i then v else g j
def loN (w : Nat) : Nat := if w = 1 then 1 else if w = 3 then 1 else 0
def hiN (w : Nat) : Nat := if w = 0 then 2 else if w = 1 then 20 else if w = 2 then 6 else if w = 3 then 9 else if w = 4 then 19 else 9
theorem lo_e (w : Nat) : zf_lo w = nI (loN w) := by
  unfold zf_lo loN
  split
  · rfl
  · split <;> rfl
theorem hi_e (w : Nat) : zf_hi w = nI (hiN w) := by
  unfold zf_hi hiN
  split
  · rfl
  · split
    · rfl
    · split
      · rfl
      · split
        · rfl
        · split <;> rfl
theorem hi_lt (w : Nat) : hiN w ≤ 20 := by
  unfold hiN
  split
  · decide
  · split
    · decide
    · split
      · decide
      · split
        · decide
        · split <;> decide
theorem lo_lt (w : Nat) : loN w ≤ 1 := by
  unfold loN
  split
  · decide
  · split <;> decide
abbrev zok (w : Nat) (v : Int32) : Prop := zin v (zf_lo w) (zf_hi w)
theorem zok_n {w : Nat} {v : Int32} (h : zok w v) : ∃ x, v = nI x ∧ loN w ≤ x ∧ x ≤ hiN w := by
  obtain ⟨h1, h2⟩ := h
  have hh := hi_lt w
  have hl := lo_lt w
  have h0 : 0 ≤ v := by
    refine Int32.le_trans ?_ h1
    rw [lo_e]
    exact nI_pos' (by omega)
  obtain ⟨x, x1, rfl⟩ := zin_o (n := hiN w) (hi_e w) (by omega) ⟨h0, h2⟩
  rw [lo_e, n_le (by omega) (by omega)] at h1
  exact ⟨x, rfl, h1, x1⟩
theorem zNv_iff {n : Nat} {nu : Nat → Nat} : zNv n nu ↔ n ≤ 16 ∧ ∀ f w, f < n → w < 6 → loN w ≤ nu (6 * f + w) ∧ nu (6 * f + w) ≤ hiN w := by
  constructor
  · rintro ⟨h1, h2⟩
    refine ⟨h1, fun f w hf hw => ?_⟩
    obtain ⟨x1, x2, x3, x4, x5, x6, x7, x8⟩ := h2 f hf
    rcases k6 hw with rfl | rfl | rfl | rfl | rfl | rfl
    · exact ⟨Nat.zero_le _, x1⟩
    · exact ⟨x2, x3⟩
    · exact ⟨Nat.zero_le _, x4⟩
    · exact ⟨x5, x6⟩
    · exact ⟨Nat.zero_le _, x7⟩
    · exact ⟨Nat.zero_le _, x8⟩
  · rintro ⟨h1, h2⟩
    refine ⟨h1, fun f hf => ?_⟩
    exact ⟨(h2 f 0 hf (by decide)).2, (h2 f 1 hf (by decide)).1, (h2 f 1 hf (by decide)).2, (h2 f 2 hf (by decide)).2, (h2 f 3 hf (by decide)).1, (h2 f 3 hf (by decide)).2, (h2 f 4 hf (by decide)).2, (h2 f 5 hf (by decide)).2⟩
abbrev vhas (n : Nat) (f : Int32) : Prop := 0 ≤ f ∧ f < nI n
theorem vhas_o {n : Nat} {f : Int32} (h : vhas n f) (hn : n ≤ 16) : ∃ k, k < n ∧ f = nI k := by
  obtain ⟨j, j1, rfl⟩ := nI_of (Int32.not_lt.mpr h.1)
  have := h.2
  rw [n_lt j1 (by omega)] at this
  exact ⟨j, this, rfl⟩
theorem zB_iff {a b : Prop} [Decidable a] [Decidable b] (h : a ↔ b) : zB a = zB b := by
  by_cases g : a
  · rw [zB_t g, zB_t (h.mp g)]
  · rw [zB_f g, zB_f (fun z => g (h.mpr z))]
section ZR2
variable {X : zf_X} {M : zf_M} {Q : Option Value → zf_M → Prop} {q : tQ}
theorem s37n {n : Nat} {f : Int32} (hP : zPk M) (hn : zf_I M 1 1 = nI n) (h : Q (some (.int (zB (vhas n f)))) M) : zC X 37 [.ref 1, .int f] M Q := by
  refine s37 hP ?_
  rw [hn]
  exact h
theorem s36n {w : Nat} {v : Int32} (hP : zPk M) (hw : w < 6) (h : Q (some (.int (zB (zok w v)))) M) : zC X 36 [.int (nI w), .int v] M Q := by
  refine s36 hP ?_
  have e : zfit (nI w) v ↔ zok w v := by
    show (0 ≤ nI w ∧ nI w ≤ 5 ∧ zf_lo (nI w).toNatClampNeg ≤ v ∧ v ≤ zf_hi (nI w).toNatClampNeg) ↔ _
    rw [n_cl (by omega), c_0, c_5, n_le (by decide) (by omega), n_le (by omega) (by decide)]
    exact ⟨fun z => z.2.2, fun z => ⟨by omega, by omega, z⟩⟩
  rw [zB_iff e]
  exact h
end ZR2

