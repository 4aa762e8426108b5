/-! ===== the abstract machine beside the machine ===== -/
/-- the locals: what the abstract ones hold, a long only where its second half stands behind it -/
def zf_Lo (ad : Nat → Nat) (nL : Nat) (lsC : Array Slot) (ls : List Slot) : Prop := lsC.size = nL ∧ lv_wf lsC ∧ ls.length = nL ∧ ∀ (i : Nat) (v : Value), ls[i]? = some (.val v) → (v.category = 2 → ls[i + 1]? = some .second) → lsC[i]? = some (.val (zf_v ad v))
theorem zf_vc (ad : Nat → Nat) (v : Value) : (zf_v ad v).category = v.category := by cases v <;> rfl
theorem zf_vcs (ad : Nat → Nat) (st : List Value) : ((st.map (zf_v ad)).map fun v => v.category) = st.map fun v => v.category := by
  simp [zf_vc]
/-- the values that are held, as a list -/
def zf_pl (ad : Nat → Nat) (ls : List Slot) : List (Nat × Value) := (List.range ls.length).filterMap (fun i => match ls[i]? with
  | some (Slot.val v) => if v.category = 2 → ls[i + 1]? = some Slot.second then some (i, zf_v ad v) else none
  | _ => none)
theorem zf_pl_mem {ad : Nat → Nat} {ls : List Slot} {i : Nat} {w : Value} : (i, w) ∈ zf_pl ad ls ↔ ∃ v, ls[i]? = some (.val v) ∧ (v.category = 2 → ls[i + 1]? = some .second) ∧ w = zf_v ad v := by
  unfold zf_pl
  rw [List.mem_filterMap]
  constructor
  · rintro ⟨j, -, h⟩
    split at h
    next v hv =>
      split at h
      next hc =>
        cases h
        exact ⟨v, hv, hc, rfl⟩
      next => cases h
    next => cases h
  · rintro ⟨v, h1, h2, rfl⟩
    refine ⟨i, List.mem_range.mpr (List.getElem?_eq_some_iff.mp h1).1, ?_⟩
    rw [h1]
    simp only
    rw [if_pos h2]
theorem zf_Lo.has {ad : Nat → Nat} {nL : Nat} {lsC : Array Slot} {ls : List Slot} (h : zf_Lo ad nL lsC ls) : lv_has lsC nL (zf_pl ad ls) := by
  refine ⟨h.1, h.2.1, fun q hq => ?_⟩
  obtain ⟨i, w⟩ := q
  obtain ⟨v, h1, h2, rfl⟩ := zf_pl_mem.mp hq
  exact h.2.2.2 i v h1 h2
theorem zf_Lo.put1 {ad : Nat → Nat} {nL : Nat} {lsC lsC' : Array Slot} {ls : List Slot} {i : Nat} {v : Value} (h : zf_Lo ad nL lsC ls) (hi : i < ls.length) (hc : v.category = 1) (h' : lv_has lsC' nL ((i, zf_v ad v) :: (zf_pl ad ls).filter (fun q => !(q.1 == i) && !(q.1 + 1 == i && q.2.category == 2)))) : zf_Lo ad nL lsC' (zf_s1 ls i v) := by
  refine ⟨h'.1, h'.2.1, by simp [zf_s1, h.2.2.1], fun j w hj hw => ?_⟩
  unfold zf_s1 at hj hw
  by_cases hji : j = i
  · subst hji
    rw [List.getElem?_set_self hi] at hj
    cases hj
    exact h'.2.2 (j, zf_v ad v) List.mem_cons_self
  · rw [List.getElem?_set_ne (Ne.symm hji)] at hj
    have hw2 : w.category = 2 → j + 1 ≠ i ∧ ls[j + 1]? = some .second := by
      intro h2
      have h3 := hw h2
      by_cases hj1 : j + 1 = i
      · rw [hj1, List.getElem?_set_self hi] at h3
        cases h3
      · rw [List.getElem?_set_ne (Ne.symm hj1)] at h3
        exact ⟨hj1, h3⟩
    refine h'.2.2 (j, zf_v ad w) (List.mem_cons_of_mem _ (List.mem_filter.mpr ⟨zf_pl_mem.mpr ⟨w, hj, fun h2 => (hw2 h2).2, rfl⟩, ?_⟩))
    simp only [Bool.and_eq_true, Bool.not_eq_true', beq_eq_false_iff_ne, ne_eq, Bool.and_eq_false_iff]
    refine ⟨hji, ?_⟩
    by_cases h2 : w.category = 2
    · exact Or.inl (hw2 h2).1
    · exact Or.inr (by rw [zf_vc]; exact h2)
theorem zf_Lo.put2 {ad : Nat → Nat} {nL : Nat} {lsC lsC' : Array Slot} {ls : List Slot} {i : Nat} {v : Value} (h : zf_Lo ad nL lsC ls) (hi : i + 1 < ls.length) (h' : lv_has lsC' nL ((i, zf_v ad v) :: (zf_pl ad ls).filter (fun q => !(q.1 == i) && (!(q.1 == i + 1) && !(q.1 + 1 == i && q.2.category == 2))))) : zf_Lo ad nL lsC' (zf_s2 ls i v) := by
  have hz : ∀ j, (zf_s2 ls i v)[j]? = if j = i then some (.val v) else if j = i + 1 then some .second else ls[j]? := by
    intro j
    unfold zf_s2
    by_cases h1 : j = i + 1
    · subst h1
      rw [List.getElem?_set_self (by simpa using hi)]
      simp
    · rw [List.getElem?_set_ne (Ne.symm h1)]
      by_cases h0 : j = i
      · subst h0
        rw [List.getElem?_set_self (by omega)]
        simp
      · rw [List.getElem?_set_ne (Ne.symm h0)]
        simp [h0, h1]
  refine ⟨h'.1, h'.2.1, by simp [zf_s2, h.2.2.1], fun j w hj hw => ?_⟩
  rw [hz] at hj hw
  by_cases hji : j = i
  · subst hji
    rw [if_pos rfl] at hj
    cases hj
    exact h'.2.2 (j, zf_v ad v) List.mem_cons_self
  · rw [if_neg hji] at hj
    by_cases hj1 : j = i + 1
    · rw [if_pos hj1] at hj
      cases hj
    · rw [if_neg hj1] at hj
      have hw2 : w.category = 2 → j + 1 ≠ i ∧ ls[j + 1]? = some .second := by
        intro h2
        have h3 := hw h2
        by_cases hj2 : j + 1 = i
        · rw [if_pos hj2] at h3
          cases h3
        · rw [if_neg hj2, if_neg (by omega)] at h3
          exact ⟨hj2, h3⟩
      refine h'.2.2 (j, zf_v ad w) (List.mem_cons_of_mem _ (List.mem_filter.mpr ⟨zf_pl_mem.mpr ⟨w, hj, fun h2 => (hw2 h2).2, rfl⟩, ?_⟩))
      simp only [Bool.and_eq_true, Bool.not_eq_true', beq_eq_false_iff_ne, ne_eq, Bool.and_eq_false_iff]
      refine ⟨hji, hj1, ?_⟩
      by_cases h2 : w.category = 2
      · exact Or.inl (hw2 h2).1
      · exact Or.inr (by rw [zf_vc]; exact h2)
def zf_ms (ad : Nat → Nat) (x : Slot) : Slot := match x with
  | .val v => .val (zf_v ad v)
  | x => x
theorem zf_slm (ad : Nat → Nat) (as : List Value) : lg_sl (as.map (zf_v ad)) = (lg_sl as).map (zf_ms ad) := by
  induction as with
  | nil => rfl
  | cons v t ih =>
    have e1 : lg_sl ((v :: t).map (zf_v ad)) = (if (zf_v ad v).category = 2 then [.val (zf_v ad v), .second] else [.val (zf_v ad v)]) ++ lg_sl (t.map (zf_v ad)) := rfl
    have e2 : lg_sl (v :: t) = (if v.category = 2 then [.val v, .second] else [.val v]) ++ lg_sl t := rfl
    rw [e1, e2, ih, zf_vc, List.map_append]
    by_cases h : v.category = 2
    · rw [if_pos h, if_pos h]
      rfl
    · rw [if_neg h, if_neg h]
      rfl
theorem zf_Lo.entry (ad : Nat → Nat) (k : Nat) (as : List Value) (h : (lg_sl as).length ≤ (zf_g k).2.2.1) : zf_Lo ad (zf_g k).2.2.1 ((lg_sl (as.map (zf_v ad)) ++ List.replicate ((zf_g k).2.2.1 - (lg_sl (as.map (zf_v ad))).length) Slot.unset).toArray) (zf_en k as) := by
  have hl : (lg_sl (as.map (zf_v ad))).length = (lg_sl as).length := by rw [zf_slm, List.length_map]
  have h0 := lv_entry (as.map (zf_v ad)) (n := (zf_g k).2.2.1) (by omega)
  refine ⟨h0.1, h0.2.1, by simp [zf_en]; omega, fun i v hi _ => ?_⟩
  have e : (lg_sl (as.map (zf_v ad)) ++ List.replicate ((zf_g k).2.2.1 - (lg_sl (as.map (zf_v ad))).length) Slot.unset) = (zf_en k as).map (zf_ms ad) := by
    rw [zf_slm, List.length_map]
    unfold zf_en
    rw [List.map_append, List.map_replicate]
    rfl
  rw [e, List.getElem?_toArray, List.getElem?_map, hi]
  rfl
/-- what stays as it is in every frame -/
def zf_F (D : va_G) (ad : Nat → Nat) (cy : Nat → ClassId) (base : Nat) (X : zf_X) (U : State) : Prop :=
  va_K D vwCl (zf_ty cy) U ∧ (va_AO RX6 U ∧ va_AO RX7 U) ∧ (∀ e ∈ zf_nl, va_Nw (.methodLinkNest (zf_oR e.1) e.2.1 (zf_g e.2.2).1 "FairFight") U) ∧
  (va_Z RX5 "LOWEST" "[I" (.ref (ad 1000000)) (fun q => base ≤ q) U U.heap ∧ va_Z RX5 "HIGHEST" "[I" (.ref (ad 1000001)) (fun q => base ≤ q) U U.heap) ∧
  (va_T .int (ad 1000000) 6 (fun j => .int (zf_lo j)) (fun q => base ≤ q) U U.heap ∧ va_T .int (ad 1000001) 6 (fun j => .int (zf_hi j)) (fun q => base ≤ q) U U.heap) ∧
  (va_X (ad 1000002) X.1 X.2 U U.heap ∧ ad 1000002 < base) ∧ base ≤ U.heap.size ∧ ∀ a, a < 1000000 → ad a = base + a
theorem zf_F.moved {D : va_G} {ad : Nat → Nat} {cy : Nat → ClassId} {base : Nat} {X : zf_X} {u U : State} (h : zf_F D ad cy base X u) (hvm : u.vm.Alike U.vm) (hW : u.WarmedH U.vm) (hz : u.heap.size ≤ U.heap.size) (hq : ∀ a : Nat, a < u.heap.size → ¬ base ≤ a → U.heap[a]? = u.heap[a]?) : zf_F D ad cy base X U := by
  obtain ⟨h1, ⟨h2, h3⟩, h4, ⟨h5, h6⟩, ⟨h7, h8⟩, ⟨h9, h10⟩, h11, h12⟩ := h
  exact ⟨h1.moved hvm, ⟨h2.moved hvm, h3.moved hvm⟩, fun e he => va_Nw.warmM hW (h4 e he), ⟨(h5.moved hvm).kept hq, (h6.moved hvm).kept hq⟩, ⟨(h7.moved hvm).kept hq, (h8.moved hvm).kept hq⟩, ⟨(h9.moved hvm).kept (hq _ (by omega) (by omega)), h10⟩, Nat.le_trans h11 hz, h12⟩
/-- the method that runs, its words, its room -/
def zf_C (mi : Nat) (p : Program) (R : Room) (s : State) (m : MethodId) (args : Array Value) (meth : Method) (c : Code) : Prop :=
  p.tables.exec = Jvm.exec ∧ c.code = (zf_g mi).2.1 ∧ c.maxLocals = (zf_g mi).2.2.1 ∧ s.vm.findClass (zf_oR (zf_g mi).2.2.2.2.1) = some m.cls ∧ (∀ w ∈ zf_T, w.before args s = true) ∧ ((zf_g mi).2.2.2.2.2.2.1 = 2 → meth.name = (zf_g mi).1.name) ∧ (zf_g mi).2.2.2.2.2.2.2.1 ≤ R.frames ∧ (zf_g mi).2.2.2.2.2.2.2.2 ≤ R.locals
/-- the heap beside the memory -/
def zf_H (D : va_G) (ad : Nat → Nat) (cy : Nat → ClassId) (base : Nat) (M : zf_M) (H : Heap) : Prop := H.size = base + M.1.length ∧ va_P D vwCl (zf_w ad cy M) H ∧ M.1.length ≤ 1000000
def zf_R (D : va_G) (ad : Nat → Nat) (cy : Nat → ClassId) (base mi : Nat) (s : State) (lsC : Array Slot) (H : Heap) (locs : List Loc) (ls : List Slot) (M : zf_M) : Prop :=
  zf_Lo ad (zf_g mi).2.2.1 lsC ls ∧ zf_H D ad cy base M H ∧ va_S (fun q => base ≤ q) s.heap H locs
theorem zf_wD {ad : Nat → Nat} {cy : Nat → ClassId} {base : Nat} {M : zf_M} (h : ∀ a, a < 1000000 → ad a = base + a) (hl : M.1.length ≤ 1000000) : va_D (fun q => base ≤ q) (zf_w ad cy M) := by
  have key : ∀ (k : Nat) (q : Nat × va_E), (zf_w ad cy M)[k]? = some q → k < 1000000 ∧ q.1 = base + k := by
    intro k q hk
    have hlt := (List.getElem?_eq_some_iff.mp hk).1
    have hk2 : k < M.1.length := by simpa [zf_w] using hlt
    have hg : M.1[k]? = some M.1[k] := List.getElem?_eq_getElem hk2
    rw [zf_wg hg] at hk
    cases hk
    exact ⟨by omega, h k (by omega)⟩
  refine ⟨fun i j x y hi hj hxy => ?_, fun k q hk => ?_⟩
  · obtain ⟨-, h1⟩ := key i x hi
    obtain ⟨-, h2⟩ := key j y hj
    omega
  · obtain ⟨-, h1⟩ := key k q hk
    show base ≤ q.1
    omega
/-- a good state: from every state of the machine beside it, it comes to Q -/
def zf_G (D : va_G) (ad : Nat → Nat) (cy : Nat → ClassId) (base mi : Nat) (p : Program) (l : Launch) (e : Env) (R : Room) (s : State) (m : MethodId) (args : Array Value) (below : List Frame) (meth : Method) (c : Code) (Q : State → Prop) (cells slots : Nat) (S : zf_S) : Prop :=
  ∀ (lsC : Array Slot) (H : Heap) (locs : List Loc), zf_R D ad cy base mi s lsC H locs S.2.1 S.2.2.2 → W p l e R s m args below meth c H locs cells slots Q (F0 m S.1 lsC (S.2.2.1.map (zf_v ad)))
section ZR
variable {D : va_G} {ad : Nat → Nat} {cy : Nat → ClassId} {base mi : Nat} {p : Program} {l : Launch} {e : Env} {R : Room} {s : State} {m : MethodId} {args : Array Value} {below : List Frame} {meth : Method} {c : Code} {Q : State → Prop} {cells slots : Nat} {X : zf_X} {pc pc' : Nat} {ls ls' : List Slot} {st st' : List Value} {M M' : zf_M} {S : zf_S}
theorem zf_st_e (h : zf_st pc ls st M = some (.inl S)) : S = (pc, ls, st, M) := by
  unfold zf_st at h
  cases h
  rfl
theorem zf_go_e {off : Int} (h : zf_go pc off ls st M = some (.inl S)) : ∃ t : Nat, (pc : Int) + off = (t : Int) ∧ S = (t, ls, st, M) := by
  unfold zf_go at h
  split at h
  next h0 => exact ⟨((pc : Int) + off).toNat, by omega, zf_st_e h⟩
  next => cases h
/-- a step that makes no cell and leaves the memory -/
theorem zf_sS (k : zf_G D ad cy base mi p l e R s m args below meth c Q cells slots (pc', ls', st', M))
    (row : ∀ (lsC : Array Slot) (H : Heap) (locs : List Loc), zf_R D ad cy base mi s lsC H locs ls M → (∀ lsC' : Array Slot, zf_Lo ad (zf_g mi).2.2.1 lsC' ls' → W p l e R s m args below meth c H locs cells slots Q (F0 m pc' lsC' (st'.map (zf_v ad)))) → W p l e R s m args below meth c H locs cells slots Q (F0 m pc lsC (st.map (zf_v ad)))) :
    zf_G D ad cy base mi p l e R s m args below meth c Q cells slots (pc, ls, st, M) :=
  fun lsC H locs hR => row lsC H locs hR fun lsC' h' => k lsC' H locs ⟨h', hR.2⟩
/-- a step on the stack alone -/
theorem zf_sT (k : zf_G D ad cy base mi p l e R s m args below meth c Q cells slots (pc', ls, st', M))
    (row : ∀ (lsC : Array Slot) (H : Heap) (locs : List Loc), zf_R D ad cy base mi s lsC H locs ls M → W p l e R s m args below meth c H locs cells slots Q (F0 m pc' lsC (st'.map (zf_v ad))) → W p l e R s m args below meth c H locs cells slots Q (F0 m pc lsC (st.map (zf_v ad)))) :
    zf_G D ad cy base mi p l e R s m args below meth c Q cells slots (pc, ls, st, M) :=
  fun lsC H locs hR => row lsC H locs hR (k lsC H locs hR)
theorem zf_kE {a k : Nat} (h : zf_k M a = k) (hk : k < 99) : ∃ n, M.1[a]? = some (k, n) := by
  unfold zf_k at h
  rw [List.getD_eq_getElem?_getD] at h
  cases hg : M.1[a]? with
  | none => rw [hg] at h; simp at h; omega
  | some q =>
    rw [hg] at h
    exact ⟨q.2, by rw [← h]; rfl⟩
theorem zf_nE {a k : Nat} {i : Int32} (h : vp_in i (zf_n M k a)) : M.1[a]? = some (k, zf_n M k a) := by
  have hpos : 0 < zf_n M k a := by
    rcases Nat.eq_zero_or_pos (zf_n M k a) with h0 | h0
    · rw [h0] at h
      exact absurd (Or.inr (Nat.zero_le _)) h
    · exact h0
  unfold zf_n at hpos ⊢
  rw [List.getD_eq_getElem?_getD] at hpos ⊢
  cases hg : M.1[a]? with
  | none => rw [hg] at hpos; simp at hpos
  | some q =>
    rw [hg] at hpos
    simp only [Option.getD_some] at hpos ⊢
    by_cases hq : q.1 = k
    · rw [if_pos hq, ← hq]
    · rw [if_neg hq] at hpos
      omega
end ZR
