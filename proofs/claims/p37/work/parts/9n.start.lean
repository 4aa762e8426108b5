/-! ===== where it begins: the object, and the told array ===== -/
def K14 : zf_M := zf_new K11 (10, 24)
section ZMe
def q0 : tQ := ((0, fun _ => 0), ((0, fun _ => 0), (0, fun _ => 0)), (3, 0, -1), (0, fun _ => (0, fun _ => 0), 1, 1), (0, fun _ => 0), ((0, 0, 0), fun _ => -2), (fun _ => -1, fun _ => 0, fun _ _ => 0), 0)
theorem vQ_0 : vQ q0 := ⟨⟨by decide, fun f hf => absurd hf (Nat.not_lt_zero f)⟩, ⟨⟨by decide, fun j hj => absurd hj (Nat.not_lt_zero j)⟩, ⟨by decide, fun j hj => absurd hj (Nat.not_lt_zero j)⟩⟩, ⟨by decide, by decide⟩, ⟨by decide, by decide, by decide, fun f hf => absurd hf (Nat.not_lt_zero f)⟩, by decide, fun s _ => ⟨(show 0 ≤ 60 by decide), (show (-1 : Int32) ≤ 2 by decide)⟩⟩
theorem zPk_0 : zPk K14 := ⟨by decide +kernel, by decide +kernel⟩
theorem zLI_0 {M : zf_M} {a : Nat} (h1 : zf_I M a 2 = 0) (h2 : ∀ p, p < 1024 → zf_I M (a + 4) p = 0) : zLI M a 0 :=
  ⟨h1, by decide, fun i j hi => absurd hi (Nat.not_lt_zero i), fun i hi => absurd hi (Nat.not_lt_zero i), fun p hp => Or.inl (h2 p hp)⟩
theorem zLO_0 : zLO K14 := ⟨16, 21, 0, 0, Or.inl ⟨rfl, rfl⟩, by decide +kernel, by decide +kernel, zLI_0 (by decide +kernel) (by decide +kernel), zLI_0 (by decide +kernel) (by decide +kernel)⟩
theorem zKC_0 : zKC q0 K14 := by
  refine ⟨zLO_0, ⟨by decide +kernel, fun i hi => absurd hi (Nat.not_lt_zero i)⟩, ⟨by decide +kernel, by decide +kernel, by decide +kernel⟩, ⟨by decide +kernel, by decide +kernel, by decide +kernel⟩, ⟨by decide +kernel, by decide +kernel, by decide +kernel, fun f hf => absurd hf (Nat.not_lt_zero f)⟩, ⟨by decide +kernel, fun k hk => absurd hk (Nat.not_lt_zero k)⟩, ⟨by decide +kernel, by decide +kernel, by decide +kernel, by decide +kernel⟩, fun s hs => ?_, by show zf_I K14 0 12 = 0; decide +kernel⟩
  have key : ∀ s, s < 4 → zf_I K14 (50 + 2 * s) 2 = 0 ∧ zf_I K14 (50 + 2 * s) 3 = 1 := by decide +kernel
  obtain ⟨k1, k2⟩ := key s hs
  exact ⟨k1, k2, fun z => absurd (show (-1 : Int32) < 0 by decide) z, fun j hj => absurd hj (Nat.not_lt_zero j)⟩
end ZMe
