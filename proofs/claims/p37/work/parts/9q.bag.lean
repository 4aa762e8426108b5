/-! ===== a cell more changes no run that makes none ===== -/
def zg (kn : Nat × Nat) (M : zf_M) : zf_M := (M.1 ++ [kn], M.2)
def zgq (kn : Nat × Nat) (q : zf_S ⊕ (Option Value ⊕ (Nat × List Value × Nat × List Value))) : zf_S ⊕ (Option Value ⊕ (Nat × List Value × Nat × List Value)) := match q with
  | .inl S => .inl (S.1, S.2.1, S.2.2.1, zg kn S.2.2.2)
  | .inr x => .inr x
def zgR (kn : Nat × Nat) (M : zf_M) (A B : zf_A) : Prop := ∀ q, A = some q → (∀ S, q = .inl S → S.2.2.2.1 = M.1) → B = some (zgq kn q)
section ZGb
variable {kn : Nat × Nat} {M : zf_M} {X : zf_X} {mi pc own idx k : Nat} {ls : List Slot} {st : List Value}
theorem zg_at {a : Nat} (h : a < M.1.length) : (zg kn M).1.getD a (99, 0) = M.1.getD a (99, 0) := by
  show (M.1 ++ [kn]).getD a (99, 0) = _
  rw [List.getD_eq_getElem?_getD, List.getD_eq_getElem?_getD, List.getElem?_append_left h]
theorem zg_out {a : Nat} (h : M.1.length ≤ a) : M.1.getD a (99, 0) = (99, 0) := by
  rw [List.getD_eq_getElem?_getD, List.getElem?_eq_none h]
  rfl
theorem zg_out2 {a : Nat} (h : M.1.length < a) : (zg kn M).1.getD a (99, 0) = (99, 0) := by
  show (M.1 ++ [kn]).getD a (99, 0) = _
  rw [List.getD_eq_getElem?_getD, List.getElem?_eq_none (by simp; omega)]
  rfl
theorem zg_k {a c : Nat} (h : zf_k M a = c) (hc : c < 99) : zf_k (zg kn M) a = c := by
  by_cases g : a < M.1.length
  · unfold zf_k at h ⊢
    rw [zg_at g]
    exact h
  · unfold zf_k at h
    rw [zg_out (by omega)] at h
    have h : 99 = c := h
    omega
theorem zg_n {c a : Nat} (h : zf_n M c a ≠ 0) : zf_n (zg kn M) c a = zf_n M c a := by
  by_cases g : a < M.1.length
  · unfold zf_n
    rw [zg_at g]
  · refine absurd ?_ h
    unfold zf_n
    rw [zg_out (by omega)]
    split <;> rfl
theorem zg_iN {i : Int32} {c a : Nat} (h : zf_iN i (zf_n M c a) = true) : zf_iN i (zf_n (zg kn M) c a) = true := by
  rw [zg_n (kn := kn)]
  · exact h
  · intro z
    have := zf_iN_e h
    rw [z] at this
    unfold vp_in at this
    omega
theorem zgR_none {B : zf_A} : zgR kn M none B := fun q h => by cases h
theorem zgR_st {M2 : zf_M} : zgR kn M (zf_st pc ls st M2) (zf_st pc ls st (zg kn M2)) := by
  intro q h _
  cases h
  rfl
theorem zgR_if {c d : Prop} [Decidable c] [Decidable d] {A B : zf_A} (h1 : c → d) (h : c → zgR kn M A B) : zgR kn M (if c then A else none) (if d then B else none) := by
  by_cases e : c
  · rw [if_pos e, if_pos (h1 e)]
    exact h e
  · rw [if_neg e]
    exact zgR_none
theorem zgR_ii {c : Prop} [Decidable c] {A B A2 B2 : zf_A} (h : c → zgR kn M A B) (h2 : ¬ c → zgR kn M A2 B2) : zgR kn M (if c then A else A2) (if c then B else B2) := by
  by_cases e : c
  · rw [if_pos e, if_pos e]
    exact h e
  · rw [if_neg e, if_neg e]
    exact h2 e
theorem zgR_call {as rest : List Value} : zgR kn M (zf_call k pc as rest) (zf_call k pc as rest) := by
  unfold zf_call
  refine zgR_if id (fun _ => ?_)
  intro q h _
  cases h
  rfl
theorem zgR_r {A : zf_A} (h : ∀ q, A = some q → ∃ x, q = .inr x) : zgR kn M A A := by
  intro q hq _
  obtain ⟨x, rfl⟩ := h q hq
  exact hq
theorem zgR_cell {kn2 : Nat × Nat} {B : zf_A} : zgR kn M (zf_cell pc kn2 ls st M) B := by
  intro q h hs
  unfold zf_cell at h
  split at h
  · cases h
    have h2 : M.1 ++ [kn2] = M.1 := hs _ rfl
    have h3 := congrArg List.length h2
    simp at h3
  · cases h
theorem zgR_go {off : Int} : zgR kn M (zf_go pc off ls st M) (zf_go pc off ls st (zg kn M)) := zgR_if id (fun _ => zgR_st)
theorem zgR_il : zgR kn M (zf_il pc ls k st M) (zf_il pc ls k st (zg kn M)) := by
  unfold zf_il
  split
  · exact zgR_st
  · exact zgR_none
theorem zgR_al : zgR kn M (zf_al pc ls k st M) (zf_al pc ls k st (zg kn M)) := by
  unfold zf_al
  split
  · exact zgR_st
  · exact zgR_none
theorem zgR_ll : zgR kn M (zf_ll pc ls k st M) (zf_ll pc ls k st (zg kn M)) := by
  unfold zf_ll
  split
  · exact zgR_st
  · exact zgR_none
theorem zgR_is : zgR kn M (zf_is pc ls k st M) (zf_is pc ls k st (zg kn M)) := by
  unfold zf_is
  split
  · exact zgR_if id (fun _ => zgR_st)
  · exact zgR_none
theorem zgR_as : zgR kn M (zf_as pc ls k st M) (zf_as pc ls k st (zg kn M)) := by
  unfold zf_as
  split
  · exact zgR_if id (fun _ => zgR_st)
  · exact zgR_none
theorem zgR_ls : zgR kn M (zf_ls pc ls k st M) (zf_ls pc ls k st (zg kn M)) := by
  unfold zf_ls
  split
  · exact zgR_if id (fun _ => zgR_st)
  · exact zgR_none
theorem zgR_ic {n : Int} : zgR kn M (zf_ic pc ls k n st M) (zf_ic pc ls k n st (zg kn M)) := by
  unfold zf_ic
  split
  · exact zgR_st
  · exact zgR_none
theorem zgR_i2 {f : Int32 → Int32 → Value} : zgR kn M (zf_ii pc f ls st M) (zf_ii pc f ls st (zg kn M)) := by
  unfold zf_ii
  split
  · exact zgR_st
  · exact zgR_none
theorem zgR_id {f : Int32 → Int32 → Value} : zgR kn M (zf_id pc f ls st M) (zf_id pc f ls st (zg kn M)) := by
  unfold zf_id
  split
  · exact zgR_ii (fun _ => zgR_none) (fun _ => zgR_st)
  · exact zgR_none
theorem zgR_jj {f : Int64 → Int64 → Value} : zgR kn M (zf_jj pc f ls st M) (zf_jj pc f ls st (zg kn M)) := by
  unfold zf_jj
  split
  · exact zgR_st
  · exact zgR_none
theorem zgR_jd {f : Int64 → Int64 → Value} : zgR kn M (zf_jd pc f ls st M) (zf_jd pc f ls st (zg kn M)) := by
  unfold zf_jd
  split
  · exact zgR_ii (fun _ => zgR_none) (fun _ => zgR_st)
  · exact zgR_none
theorem zgR_ji {f : Int64 → Int32 → Value} : zgR kn M (zf_ji pc f ls st M) (zf_ji pc f ls st (zg kn M)) := by
  unfold zf_ji
  split
  · exact zgR_st
  · exact zgR_none
theorem zgR_i1 {f : Int32 → Value} : zgR kn M (zf_i1 pc f ls st M) (zf_i1 pc f ls st (zg kn M)) := by
  unfold zf_i1
  split
  · exact zgR_st
  · exact zgR_none
theorem zgR_j1 {f : Int64 → Value} : zgR kn M (zf_j1 pc f ls st M) (zf_j1 pc f ls st (zg kn M)) := by
  unfold zf_j1
  split
  · exact zgR_st
  · exact zgR_none
theorem zgR_cond {c : Jvm.ClassFile.Cond} {off : Int} : zgR kn M (zf_if c pc off ls st M) (zf_if c pc off ls st (zg kn M)) := by
  unfold zf_if
  split
  · exact zgR_if id (fun _ => zgR_ii (fun _ => zgR_st) (fun _ => zgR_st))
  · exact zgR_none
theorem zgR_ip {c : Jvm.ClassFile.Cond} {off : Int} : zgR kn M (zf_ip c pc off ls st M) (zf_ip c pc off ls st (zg kn M)) := by
  unfold zf_ip
  split
  · exact zgR_if id (fun _ => zgR_ii (fun _ => zgR_st) (fun _ => zgR_st))
  · exact zgR_none
theorem zgR_tb {d lo hi : Int} {offs : Array Int} : zgR kn M (zf_tb pc d lo hi offs ls st M) (zf_tb pc d lo hi offs ls st (zg kn M)) := by
  unfold zf_tb
  split
  · refine zgR_ii (fun _ => zgR_go) (fun _ => ?_)
    split
    · exact zgR_go
    · exact zgR_none
  · exact zgR_none
theorem zgR_lk {d : Int} {ps : Array (Int × Int)} : zgR kn M (zf_lk pc d ps ls st M) (zf_lk pc d ps ls st (zg kn M)) := by
  unfold zf_lk
  split
  · exact zgR_if id (fun _ => zgR_go)
  · exact zgR_none
theorem zgR_dup : zgR kn M (zf_dup pc ls st M) (zf_dup pc ls st (zg kn M)) := by
  unfold zf_dup
  split
  · exact zgR_if id (fun _ => zgR_st)
  · exact zgR_none
theorem zgR_pop : zgR kn M (zf_pop pc ls st M) (zf_pop pc ls st (zg kn M)) := by
  unfold zf_pop
  split
  · exact zgR_if id (fun _ => zgR_st)
  · exact zgR_none
theorem zgR_dp2 : zgR kn M (zf_dp2 pc ls st M) (zf_dp2 pc ls st (zg kn M)) := by
  unfold zf_dp2
  split
  · exact zgR_ii (fun _ => zgR_st) (fun _ => zgR_if id (fun _ => zgR_st))
  · exact zgR_if id (fun _ => zgR_st)
  · exact zgR_none
theorem zg_fl {c f : Nat} (h : zf_at zf_fl own idx = some (c, f)) : c < 99 := by
  have := (zf_flt _ (zf_at_in h)).2.1
  have h2 : c < 10 := this
  omega
theorem zgR_get : zgR kn M (zf_get own pc idx ls st M) (zf_get own pc idx ls st (zg kn M)) := by
  unfold zf_get
  split
  next a r c f hat =>
    refine zgR_if (fun z => zg_k z (zg_fl hat)) (fun _ => ?_)
    split
    · exact zgR_st
    · show zgR kn M (match M.2.2.2 a f with | some b => zf_st pc ls (.ref b :: r) M | none => none) (match M.2.2.2 a f with | some b => zf_st pc ls (.ref b :: r) (zg kn M) | none => none)
      split
      · exact zgR_st
      · exact zgR_none
    · show zgR kn M (match M.2.2.2 a f with | some b => zf_st pc ls (.ref b :: r) M | none => none) (match M.2.2.2 a f with | some b => zf_st pc ls (.ref b :: r) (zg kn M) | none => none)
      split
      · exact zgR_st
      · exact zgR_none
    · exact zgR_st
  next => exact zgR_none
theorem zgR_put {ini : Bool} : zgR kn M (zf_put ini own pc idx ls st M) (zf_put ini own pc idx ls st (zg kn M)) := by
  unfold zf_put
  split
  next v a r c f hat =>
    refine zgR_if (fun z => ⟨zg_k z.1 (zg_fl hat), z.2⟩) (fun _ => ?_)
    split
    · exact zgR_st (M2 := zf_sI M a f _)
    · exact zgR_if id (fun _ => zgR_st (M2 := zf_sI M a f _))
    · exact zgR_st (M2 := zf_sJ M a f _)
    · exact zgR_st (M2 := zf_sP M a f _)
    · exact zgR_st (M2 := zf_sP M a f _)
    · exact zgR_none
  next => exact zgR_none
theorem zg_fx {a : Nat} {q : Nat × (Nat → Int32)} (h : zf_fx X a = some q) : 1000000 ≤ a := by
  unfold zf_fx at h
  split at h
  · omega
  · split at h
    · omega
    · split at h
      · omega
      · cases h
theorem zgR_ia (hl : M.1.length < 1000000) : zgR kn M (zf_ia X pc ls st M) (zf_ia X pc ls st (zg kn M)) := by
  unfold zf_ia
  split
  next i a r =>
    by_cases e : zf_iN i (zf_n M 10 a) = true
    · rw [if_pos e, if_pos (zg_iN e)]
      exact zgR_st
    · rw [if_neg e]
      cases hf : zf_fx X a with
      | none => exact zgR_none
      | some q =>
        have ha := zg_fx hf
        have e0 : ¬ zf_iN i (zf_n (zg kn M) 10 a) = true := by
          have z : zf_n (zg kn M) 10 a = 0 := by
            unfold zf_n
            rw [zg_out2 (by omega)]
            rfl
          rw [z]
          intro h
          have := zf_iN_e h
          unfold vp_in at this
          omega
        rw [if_neg e0]
        exact zgR_if (fun z => ⟨z.1, by show (M.1 ++ [kn]).length ≤ a; simp; omega⟩) (fun _ => zgR_st)
  next => exact zgR_none
theorem zgR_len (hl : M.1.length < 1000000) : zgR kn M (zf_len X pc ls st M) (zf_len X pc ls st (zg kn M)) := by
  unfold zf_len
  split
  next a r =>
    by_cases e : 10 ≤ zf_k M a ∧ zf_k M a < 15
    · have hk := zg_k (kn := kn) (M := M) (a := a) rfl (by omega)
      rw [if_pos e, if_pos (by rw [hk]; exact e)]
      have ha : a < M.1.length := by
        rcases Nat.lt_or_ge a M.1.length with g | g
        · exact g
        · have e1 := e.2
          unfold zf_k at e1
          rw [zg_out g] at e1
          exact absurd e1 (by decide)
      rw [zg_at ha]
      exact zgR_st
    · rw [if_neg e]
      cases hf : zf_fx X a with
      | none => exact zgR_none
      | some q =>
        have ha := zg_fx hf
        have z : zf_k (zg kn M) a = 99 := by
          unfold zf_k
          rw [zg_out2 (by omega)]
        rw [if_neg (show ¬ (10 ≤ zf_k (zg kn M) a ∧ zf_k (zg kn M) a < 15) by rw [z]; omega)]
        exact zgR_if (fun _ => by show (M.1 ++ [kn]).length ≤ a; simp; omega) (fun _ => zgR_st)
  next => exact zgR_none
theorem zgR_ja : zgR kn M (zf_ja pc ls st M) (zf_ja pc ls st (zg kn M)) := by
  unfold zf_ja
  split
  · exact zgR_if zg_iN (fun _ => zgR_st)
  · exact zgR_none
theorem zgR_qa : zgR kn M (zf_qa pc ls st M) (zf_qa pc ls st (zg kn M)) := by
  unfold zf_qa
  split
  next i a r =>
    refine zgR_if (fun z => z.elim (fun z => Or.inl (zg_iN z)) (fun z => Or.inr (zg_iN z))) (fun _ => ?_)
    show zgR kn M (match M.2.2.2 a i.toNatClampNeg with | some b => zf_st pc ls (.ref b :: r) M | none => none) (match M.2.2.2 a i.toNatClampNeg with | some b => zf_st pc ls (.ref b :: r) (zg kn M) | none => none)
    split
    · exact zgR_st
    · exact zgR_none
  next => exact zgR_none
theorem zgR_sia : zgR kn M (zf_sia pc ls st M) (zf_sia pc ls st (zg kn M)) := by
  unfold zf_sia
  split
  next x i a r => exact zgR_if zg_iN (fun _ => zgR_st (M2 := zf_sI M a i.toNatClampNeg x))
  next => exact zgR_none
theorem zgR_sja : zgR kn M (zf_sja pc ls st M) (zf_sja pc ls st (zg kn M)) := by
  unfold zf_sja
  split
  next x i a r => exact zgR_if zg_iN (fun _ => zgR_st (M2 := zf_sJ M a i.toNatClampNeg x))
  next => exact zgR_none
theorem zgR_sqa : zgR kn M (zf_sqa pc ls st M) (zf_sqa pc ls st (zg kn M)) := by
  unfold zf_sqa
  split
  next b i a r => exact zgR_if (fun z => z.elim (fun z => Or.inl ⟨zg_iN z.1, zg_k z.2 (by decide)⟩) (fun z => Or.inr ⟨zg_iN z.1, zg_k z.2 (by decide)⟩)) (fun _ => zgR_st (M2 := zf_sP M a i.toNatClampNeg (some b)))
  next => exact zgR_none
theorem zgR_nw : zgR kn M (zf_nw own pc idx ls st M) (zf_nw own pc idx ls st (zg kn M)) := by
  unfold zf_nw
  split
  · exact zgR_cell
  · exact zgR_none
theorem zgR_na : zgR kn M (zf_na pc k ls st M) (zf_na pc k ls st (zg kn M)) := by
  unfold zf_na
  split
  · exact zgR_if id (fun _ => zgR_cell)
  · exact zgR_none
theorem zgR_nq : zgR kn M (zf_nq own pc idx ls st M) (zf_nq own pc idx ls st (zg kn M)) := by
  unfold zf_nq
  split
  · exact zgR_ii (fun _ => zgR_na) (fun _ => zgR_if id (fun _ => zgR_na))
  · exact zgR_none
theorem zgR_iv : zgR kn M (zf_iv mi pc idx st M) (zf_iv mi pc idx st (zg kn M)) := by
  unfold zf_iv
  split
  · split
    · exact zgR_if (fun z => ⟨⟨zg_k z.1.1 (by have := z.1.2; have := z.1.1; omega), by rw [zg_k rfl (by have := z.1.2; omega)]; exact z.1.2⟩, z.2⟩) (fun _ => zgR_call)
    · exact zgR_none
  · exact zgR_none
theorem zgR_iz : zgR kn M (zf_iz mi pc idx ls st M) (zf_iz mi pc idx ls st (zg kn M)) := by
  unfold zf_iz
  split
  · exact zgR_if id (fun _ => zgR_call)
  · exact zgR_if id (fun _ => zgR_call)
  · split
    · exact zgR_if id (fun _ => zgR_st)
    · exact zgR_none
  · split
    · exact zgR_if id (fun _ => zgR_st)
    · exact zgR_none
  next hat => exact (zf_mlt _ (zf_at_in hat)).elim
  · exact zgR_none
theorem zgR_ix : zgR kn M (zf_ix mi pc idx ls st M) (zf_ix mi pc idx ls st (zg kn M)) := by
  unfold zf_ix
  split
  · split
    · exact zgR_if id (fun _ => zgR_st)
    · exact zgR_none
  · split
    · exact zgR_if id (fun _ => zgR_call)
    · exact zgR_none
  · split
    · exact zgR_if id (fun _ => zgR_call)
    · exact zgR_none
  · exact zgR_none
theorem zgR_iret : zgR kn M (zf_iret mi st) (zf_iret mi st) := zgR_r (fun q h => by
  unfold zf_iret at h
  (repeat' split at h) <;> cases h
  exact ⟨_, rfl⟩)
theorem zgR_jret : zgR kn M (zf_jret mi st) (zf_jret mi st) := zgR_r (fun q h => by
  unfold zf_jret at h
  (repeat' split at h) <;> cases h
  exact ⟨_, rfl⟩)
theorem zgR_vret : zgR kn M (zf_vret mi st) (zf_vret mi st) := zgR_r (fun q h => by
  unfold zf_vret at h
  (repeat' split at h) <;> cases h
  exact ⟨_, rfl⟩)
theorem zgR_do {i : Instr} {n : Nat} (hl : M.1.length < 1000000) : zgR kn M (zf_do X mi pc i n ls st M) (zf_do X mi pc i n ls st (zg kn M)) := by
  unfold zf_do
  split
  all_goals first
    | exact zgR_st
    | exact zgR_il
    | exact zgR_al
    | exact zgR_ll
    | exact zgR_is
    | exact zgR_as
    | exact zgR_ls
    | exact zgR_ic
    | exact zgR_i2
    | exact zgR_id
    | exact zgR_jj
    | exact zgR_jd
    | exact zgR_ji
    | exact zgR_i1
    | exact zgR_j1
    | exact zgR_dup
    | exact zgR_pop
    | exact zgR_dp2
    | exact zgR_cond
    | exact zgR_ip
    | exact zgR_go
    | exact zgR_tb
    | exact zgR_lk
    | exact zgR_get
    | exact zgR_put
    | exact zgR_ia hl
    | exact zgR_len hl
    | exact zgR_ja
    | exact zgR_qa
    | exact zgR_sia
    | exact zgR_sja
    | exact zgR_sqa
    | exact zgR_nw
    | exact zgR_na
    | exact zgR_nq
    | exact zgR_iv
    | exact zgR_iz
    | exact zgR_ix
    | exact zgR_iret
    | exact zgR_jret
    | exact zgR_vret
    | exact zgR_none
    | (split; exact zgR_st; exact zgR_none)
theorem zgR_act (hl : M.1.length < 1000000) : zgR kn M (zf_act X mi pc ls st M) (zf_act X mi pc ls st (zg kn M)) := by
  unfold zf_act
  split
  · exact zgR_do hl
  · exact zgR_none
end ZGb
/-- a run only adds cells -/
theorem zg_pre : ∀ (n : Nat) (X : zf_X) (mi pc : Nat) (ls : List Slot) (st : List Value) (M : zf_M) (r : Option Value × zf_M), zf_ev n X mi pc ls st M = some r → ∃ l, r.2.1 = M.1 ++ l
  | 0, _, _, _, _, _, _, _, h => by cases h
  | n + 1, X, mi, pc, ls, st, M, r, h => by
    rw [zf_ev] at h
    cases ha : zf_act X mi pc ls st M with
    | none => rw [ha] at h; cases h
    | some q =>
      rw [ha] at h
      rcases q with s | a | q
      · obtain ⟨l, hl⟩ := zg_pre n _ _ _ _ _ _ _ h
        rcases zf_act_sh ha with e | ⟨kn, e⟩
        · exact ⟨l, by rw [hl, e]⟩
        · exact ⟨[kn] ++ l, by rw [hl, e, List.append_assoc]⟩
      · cases h
        exact ⟨[], by simp⟩
      · dsimp only at h
        cases hc : zf_ev n X q.1 0 (zf_en q.1 q.2.1) [] M with
        | none => rw [hc] at h; cases h
        | some r1 =>
          rw [hc] at h
          obtain ⟨l1, h1⟩ := zg_pre n _ _ _ _ _ _ _ hc
          obtain ⟨l2, h2⟩ := zg_pre n _ _ _ _ _ _ _ h
          exact ⟨l1 ++ l2, by rw [h2, h1, List.append_assoc]⟩
theorem zg_app {α : Type} {a b l1 l2 : List α} (h1 : b = a ++ l1) (h2 : a = b ++ l2) : b = a := by
  have h3 := congrArg List.length h1
  have h4 := congrArg List.length h2
  simp at h3 h4
  have : l1 = [] := List.length_eq_zero_iff.mp (by omega)
  rw [h1, this, List.append_nil]
theorem zg_ev {kn : Nat × Nat} : ∀ (n : Nat) (X : zf_X) (mi pc : Nat) (ls : List Slot) (st : List Value) (M : zf_M) (r : Option Value × zf_M), M.1.length < 1000000 → zf_ev n X mi pc ls st M = some r → r.2.1 = M.1 → zf_ev n X mi pc ls st (zg kn M) = some (r.1, zg kn r.2)
  | 0, _, _, _, _, _, _, _, _, h, _ => by cases h
  | n + 1, X, mi, pc, ls, st, M, r, hl, h, hr => by
    rw [zf_ev] at h ⊢
    cases ha : zf_act X mi pc ls st M with
    | none => rw [ha] at h; cases h
    | some q =>
      rw [ha] at h
      rcases q with s | a | q
      · obtain ⟨l, hp⟩ := zg_pre n _ _ _ _ _ _ _ h
        have hs : s.2.2.2.1 = M.1 := by
          rcases zf_act_sh ha with e | ⟨kn2, e⟩
          · exact e
          · exact zg_app e (by rw [← hr]; exact hp)
        have hb : zf_act X mi pc ls st (zg kn M) = _ := zgR_act (kn := kn) hl _ ha (fun S e => by cases e; exact hs)
        rw [hb]
        exact zg_ev n X mi _ _ _ _ r (by rw [hs]; exact hl) h (by rw [hs]; exact hr)
      · have hb : zf_act X mi pc ls st (zg kn M) = _ := zgR_act (kn := kn) hl _ ha (fun S e => by cases e)
        rw [hb]
        cases h
        rfl
      · have hb : zf_act X mi pc ls st (zg kn M) = _ := zgR_act (kn := kn) hl _ ha (fun S e => by cases e)
        rw [hb]
        dsimp only at h
        show (match zf_ev n X q.1 0 (zf_en q.1 q.2.1) [] (zg kn M) with | some r => zf_ev n X mi q.2.2.1 ls (r.1.toList ++ q.2.2.2) r.2 | none => none) = _
        cases hc : zf_ev n X q.1 0 (zf_en q.1 q.2.1) [] M with
        | none => rw [hc] at h; cases h
        | some r1 =>
          rw [hc] at h
          obtain ⟨l1, h1⟩ := zg_pre n _ _ _ _ _ _ _ hc
          obtain ⟨l2, h2⟩ := zg_pre n _ _ _ _ _ _ _ h
          have e1 : r1.2.1 = M.1 := zg_app h1 (by rw [← hr]; exact h2)
          rw [zg_ev n X q.1 0 _ _ M r1 hl hc e1]
          exact zg_ev n X mi _ _ _ _ r (by rw [e1]; exact hl) h (by rw [e1]; exact hr)
/-- a call beside a cell more -/
theorem zg_call {kn : Nat × Nat} {X : zf_X} {k : Nat} {as : List Value} {M : zf_M} {Q : Option Value → zf_M → Prop} (hl : M.1.length < 1000000) (h : zC X k as M (fun v M1 => M1.1 = M.1 ∧ Q v (zg kn M1))) : zC X k as (zg kn M) Q := by
  obtain ⟨n, r, h1, h2, h3⟩ := h
  exact ⟨n, (r.1, zg kn r.2), zg_ev n X k 0 _ _ M r hl h1 h2, h3⟩
