/-! ===== wish: the model's; band ===== -/
section ZWm
variable {X : zf_X} {M : zf_M} {Q : Option Value → zf_M → Prop} {q : tQ}
theorem vhas_oN {n : Nat} {f : Int32} (h : vhas n f) (hn : n < 2 ^ 31) : ∃ k, k < n ∧ f = nI k := by
  obtain ⟨j, j1, rfl⟩ := nI_of (Int32.not_lt.mpr h.1)
  have := h.2
  rw [n_lt j1 hn] at this
  exact ⟨j, this, rfl⟩
end ZWm

