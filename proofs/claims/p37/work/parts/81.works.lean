/-! ===== the model: works ===== -/
theorem zis_of {sp : Nat → Nat} {k x : Nat} : ∀ {R : List Nat}, x = k ∨ x ∈ R → x ∈ zis sp R k
  | [], h => by
    simp only [zis, List.mem_singleton]
    exact h.elim id (fun z => by cases z)
  | y :: t, h => by
    rw [zis]
    split
    · rcases h with h | h
      · exact List.mem_cons_of_mem _ (zis_of (Or.inl h))
      · rcases List.mem_cons.mp h with h | h
        · rw [h]
          exact List.mem_cons_self
        · exact List.mem_cons_of_mem _ (zis_of (Or.inr h))
    · rcases h with h | h
      · rw [h]
        exact List.mem_cons_self
      · exact List.mem_cons_of_mem _ h
theorem zol_of {c : zCs} {k : Nat} (hk : c.2.1 k ≠ none) : ∀ {j : Nat}, k < j → k ∈ zol c j
  | j + 1, h => by
    rw [zol]
    by_cases e : k = j
    · subst e
      rw [if_neg hk]
      exact zis_of (Or.inl rfl)
    · split
      · exact zol_of hk (by omega)
      · exact zis_of (Or.inr (zol_of hk (by omega)))
theorem zod_sur {c : zCs} {k : Nat} (hk : c.2.1 k ≠ none) (h6 : k < 6) : ∃ i, i < (zol c 6).length ∧ zod c i = k := by
  obtain ⟨i, h1, h2⟩ := List.mem_iff_getElem.mp (zol_of hk h6)
  refine ⟨(zol c 6).length - 1 - i, by omega, ?_⟩
  have h3 := zod_in (c := c) (i := (zol c 6).length - 1 - i) (by omega)
  rw [show (zol c 6).length - 1 - ((zol c 6).length - 1 - i) = i by omega, List.getElem?_eq_getElem h1, Option.some.injEq] at h3
  rw [← h3, h2]
theorem zst_ok {p : zPm} (hp : zPo p) : zst p < 64 ^ 6 ∧ ∀ k, k < 6 → dg (zst p) k = if ∃ i, i < pn p ∧ po p i = k then pl p k + 32 else 0 :=
  zbg_ok (lf := pl p) (od := po p) (n := pn p) (fun i hi => hp.2.1 i hi) (fun i hi => by have := (hp.2.2.2.1 i hi).2.2.1; omega) hp.2.2.1
theorem zst_V {p : zPm} (hp : zPo p) : zV p (zst p) := by
  obtain ⟨h1, h2⟩ := zst_ok hp
  refine ⟨h1, fun j hj hne => ?_⟩
  rw [h2 j hj] at hne ⊢
  by_cases hx : ∃ i, i < pn p ∧ po p i = j
  · rw [if_pos hx]
    obtain ⟨i, i1, i2⟩ := hx
    have := (hp.2.2.2.1 i i1).2.2.1
    rw [i2] at this
    exact ⟨⟨i, i1, i2⟩, by omega⟩
  · rw [if_neg hx] at hne
    exact absurd rfl hne
section ZMy
variable {X : zf_X} {M : zf_M} {Q : Option Value → zf_M → Prop} {n : Nat} {c : zCs} {am su : Int32} {r : Nat} {p : zPm}
end ZMy

