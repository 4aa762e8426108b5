/-! ===== calls, answers, and the whole run ===== -/
section ZC
variable {D : va_G} {ad : Nat → Nat} {cy : Nat → ClassId} {base mi : Nat} {p : Program} {l : Launch} {e : Env} {R : Room} {s : State} {m : MethodId} {args : Array Value} {below : List Frame} {meth : Method} {c : Code} {Q : State → Prop} {cells slots : Nat} {X : zf_X} {pc pc' : Nat} {ls ls' : List Slot} {st st' : List Value} {M M' : zf_M} {S : zf_S}
theorem zf_do_sh {i : Instr} {n : Nat} (h : zf_do X mi pc i n ls st M = some (.inl S)) : S.2.2.2.1 = M.1 ∨ ∃ kn, S.2.2.2.1 = M.1 ++ [kn] := by
  unfold zf_do at h
  split at h <;> (try simp only [zf_il, zf_al, zf_ll, zf_is, zf_as, zf_ls, zf_ic, zf_ii, zf_id, zf_jj, zf_jd, zf_ji, zf_i1, zf_j1, zf_dup, zf_pop, zf_dp2, zf_if, zf_ip, zf_go, zf_tb, zf_lk, zf_get, zf_put, zf_ia, zf_ja, zf_za, zf_qa, zf_sia, zf_sja, zf_sza, zf_sqa, zf_len, zf_nw, zf_na, zf_nq, zf_iv, zf_iz, zf_ix, zf_iret, zf_jret, zf_vret, zf_cell, zf_call, zf_st] at h) <;> (repeat' split at h) <;> first
    | (cases h; exact Or.inl rfl)
    | (cases h; exact Or.inr ⟨_, rfl⟩)
    | cases h
theorem zf_sum_app (l : List (Nat × Nat)) (kn : Nat × Nat) : zf_sum (l ++ [kn]) = zf_sum l + zf_size kn := by
  simp [zf_sum]
theorem zf_act_sh (h : zf_act X mi pc ls st M = some (.inl S)) : S.2.2.2.1 = M.1 ∨ ∃ kn, S.2.2.2.1 = M.1 ++ [kn] := by
  unfold zf_act at h
  split at h
  · exact zf_do_sh h
  · cases h
theorem zf_act_le (h : zf_act X mi pc ls st M = some (.inl S)) : M.1.length ≤ S.2.2.2.1.length ∧ zf_sum M.1 ≤ zf_sum S.2.2.2.1 := by
  rcases zf_act_sh h with e | ⟨kn, e⟩
  · rw [e]
    exact ⟨Nat.le_refl _, Nat.le_refl _⟩
  · rw [e, zf_sum_app]
    simp
theorem zf_grow : ∀ (n : Nat) (X : zf_X) (mi pc : Nat) (ls : List Slot) (st : List Value) (M : zf_M) (r : Option Value × zf_M), zf_ev n X mi pc ls st M = some r → M.1.length ≤ r.2.1.length ∧ zf_sum M.1 ≤ zf_sum r.2.1
  | 0, _, _, _, _, _, _, _, h => by cases h
  | n + 1, X, mi, pc, ls, st, M, r, h => by
    rw [zf_ev] at h
    cases ha : zf_act X mi pc ls st M with
    | none => rw [ha] at h; cases h
    | some q =>
      rw [ha] at h
      rcases q with s | a | q
      · have h1 := zf_act_le ha
        have h2 := zf_grow n _ _ _ _ _ _ _ h
        exact ⟨Nat.le_trans h1.1 h2.1, Nat.le_trans h1.2 h2.2⟩
      · cases h
        exact ⟨Nat.le_refl _, Nat.le_refl _⟩
      · dsimp only at h
        cases hc : zf_ev n X q.1 0 (zf_en q.1 q.2.1) [] M with
        | none => rw [hc] at h; cases h
        | some r1 =>
          rw [hc] at h
          have h1 := zf_grow n _ _ _ _ _ _ _ hc
          have h2 := zf_grow n _ _ _ _ _ _ _ h
          exact ⟨Nat.le_trans h1.1 h2.1, Nat.le_trans h1.2 h2.2⟩
/-- an answer at an instruction -/
def zf_isR (mi pc : Nat) (r : Option Value) : Prop :=
  (∃ v, r = some (.int v) ∧ decode (zf_g mi).2.1 pc = .ok (.ireturn, 1) ∧ ((zf_g mi).2.2.2.1 = some .int ∨ ((zf_g mi).2.2.2.1 = some .boolean ∧ vp_nar .boolean v = v))) ∨
  (∃ v, r = some (.long v) ∧ decode (zf_g mi).2.1 pc = .ok (.lreturn, 1) ∧ (zf_g mi).2.2.2.1 = some .long) ∨
  (r = none ∧ decode (zf_g mi).2.1 pc = .ok (.return_, 1) ∧ (zf_g mi).2.2.2.1 = none)
theorem zf_act_ret {r : Option Value} (h : zf_act X mi pc ls st M = some (.inr (.inl r))) : zf_isR mi pc r ∧ st = r.toList := by
  unfold zf_act at h
  split at h
  next i n hd =>
    unfold zf_do at h
    split at h <;> first
      | (unfold zf_iret at h
         split at h
         next v =>
           split at h
           next hv =>
             cases h
             exact ⟨Or.inl ⟨v, rfl, hd, hv⟩, rfl⟩
           next => cases h
         next => cases h)
      | (unfold zf_jret at h
         split at h
         next v =>
           split at h
           next hv =>
             cases h
             exact ⟨Or.inr (Or.inl ⟨v, rfl, hd, hv⟩), rfl⟩
           next => cases h
         next => cases h)
      | (unfold zf_vret at h
         split at h
         next =>
           split at h
           next hv =>
             cases h
             exact ⟨Or.inr (Or.inr ⟨rfl, hd, hv⟩), rfl⟩
           next => cases h
         next => cases h)
      | ((try simp only [zf_il, zf_al, zf_ll, zf_is, zf_as, zf_ls, zf_ic, zf_ii, zf_id, zf_jj, zf_jd, zf_ji, zf_i1, zf_j1, zf_dup, zf_pop, zf_dp2, zf_if, zf_ip, zf_go, zf_tb, zf_lk, zf_get, zf_put, zf_ia, zf_ja, zf_za, zf_qa, zf_sia, zf_sja, zf_sza, zf_sqa, zf_len, zf_nw, zf_na, zf_nq, zf_iv, zf_iz, zf_ix, zf_cell, zf_call, zf_st] at h) <;> (repeat' split at h) <;> cases h)
  next => cases h
/-- a method's words, its room, its start and its end -/
def zf_wsm (k : Nat) : List Cond := Cond.code (zf_g k).1 (zf_g k).2.1 (zf_g k).2.2.1 (zf_g k).2.2.2.1 :: zf_T
def zf_rm (k mc ms : Nat) : Room := { frames := (zf_g k).2.2.2.2.2.2.2.1, cells := mc, slots := ms, locals := (zf_g k).2.2.2.2.2.2.2.2 }
def zf_Pc (D : va_G) (ad : Nat → Nat) (cy : Nat → ClassId) (base : Nat) (X : zf_X) (as : List Value) (M : zf_M) : Array Value → State → Prop := va_Pc (as.map (zf_v ad)) (fun U => zf_H D ad cy base M U.heap ∧ zf_F D ad cy base X U)
def zf_Qc (D : va_G) (ad : Nat → Nat) (cy : Nat → ClassId) (base : Nat) (r : Option Value) (M : zf_M) : Array Value → State → Outcome → State → Prop := match r with
  | none => va_Qv (fun (_ : Unit) => True) (fun _ t => zf_H D ad cy base M t.heap) (fun q => base ≤ q)
  | some (.int v) => va_Qi (fun x (_ : Unit) => x = v) (fun _ t => zf_H D ad cy base M t.heap) (fun q => base ≤ q)
  | some (.long v) => va_Ql (fun x (_ : Unit) => x = v) (fun _ t => zf_H D ad cy base M t.heap) (fun q => base ≤ q)
  | _ => fun _ _ _ _ => False
def zf_Met (l : Launch) (D : va_G) (ad : Nat → Nat) (cy : Nat → ClassId) (base : Nat) (X : zf_X) (k : Nat) (as : List Value) (M : zf_M) (r : Option Value) (M' : zf_M) : Prop :=
  Met l (zf_g k).1 (zf_wsm k) (zf_rm k (M'.1.length - M.1.length) (zf_sum M'.1 - zf_sum M.1)) (zf_Pc D ad cy base X as M) (zf_Qc D ad cy base r M') (M'.1.length - M.1.length) (zf_sum M'.1 - zf_sum M.1) (fun q => base ≤ q)
theorem zf_F.same {U u : State} (h : zf_F D ad cy base X u) (hv : u.vm = U.vm) (hh : u.heap = U.heap) : zf_F D ad cy base X U := by
  have hvm : u.vm.Alike U.vm := hv ▸ Vm.Alike.refl _
  obtain ⟨h1, ⟨h2, h3⟩, h4, ⟨h5, h6⟩, ⟨h7, h8⟩, ⟨h9, h10⟩, h11, h12⟩ := h
  rw [hh] at h5 h6 h7 h8 h9 h11
  exact ⟨h1.moved hvm, ⟨h2.moved hvm, h3.moved hvm⟩, fun e he => va_Nw.same rfl hv (h4 e he), ⟨h5.moved hvm, h6.moved hvm⟩, ⟨h7.moved hvm, h8.moved hvm⟩, ⟨h9.moved hvm, h10⟩, h11, h12⟩
theorem zf_blind {as : List Value} : FrameBlind (zf_Pc D ad cy base X as M) := fun a U g mk q => ⟨q.1, q.2.1, zf_F.same (u := U) (U := U.calling g mk a) q.2.2 rfl rfl⟩
theorem zf_start {as : List Value} {H : Heap} {locs : List Loc} (hF : zf_F D ad cy base X s) (hH : zf_H D ad cy base M H) (hS : va_S (fun q => base ≤ q) s.heap H locs) (U : State) (hU : U.heap = H) (hW : s.WarmedH U.vm) : zf_Pc D ad cy base X as M (as.map (zf_v ad)).toArray U :=
  ⟨rfl, by rw [hU]; exact hH, hF.moved hW.alike hW (by rw [hU]; exact hS.1) (fun a h1 h2 => by rw [hU]; exact hS.2.1 a h1 h2)⟩
theorem zf_good (k : Nat) (hk : k ≠ 1000) : GoodIn zf_T (zf_wsm k) := by
  intro w hw
  have hm : w ∈ zf_T := by
    rcases List.mem_cons.mp hw with rfl | h
    · exact (zf_eok k hk).1
    · exact h
  exact ⟨hm, good_of_word (List.mem_filter.mp hm).2⟩
/-- behind a call -/
theorem zf_run_g {r : Option Value} {M1 : zf_M} {mc ms : Nat} {lsC : Array Slot} {H : Heap} {locs : List Loc} {rest : List Value} {a : Array Value} (hr : va_Run p l e R s m args below meth c H locs cells slots mc ms (F0 m pc lsC (st.map (zf_v ad))) (rest.map (zf_v ad)) (zf_Qc D ad cy base r M1 a) (fun q => base ≤ q)) (hS : va_S (fun q => base ≤ q) s.heap H locs)
    (kk : ∀ (H1 : Heap) (locs1 : List Loc), zf_H D ad cy base M1 H1 → va_S (fun q => base ≤ q) s.heap H1 locs1 → W p l e R s m args below meth c H1 locs1 (cells + mc) (slots + ms) Q (F0 m (pc + 3) lsC ((r.toList ++ rest).map (zf_v ad)))) : W p l e R s m args below meth c H locs cells slots Q (F0 m pc lsC (st.map (zf_v ad))) := by
  unfold zf_Qc at hr
  split at hr
  · exact va_callv hr hS (fun q _ h => h) (fun q h => h) fun u t H1 locs1 ht _ _ hB _ _ hS1 => kk H1 locs1 (ht ▸ hB) hS1
  · exact va_calli hr hS (fun q _ h => h) (fun q h => h) fun r u t H1 locs1 ht _ hp hB _ _ hS1 => by
      subst hp
      exact kk H1 locs1 (ht ▸ hB) hS1
  · exact va_calll hr hS (fun q _ h => h) (fun q h => h) fun r u t H1 locs1 ht _ hp hB _ _ hS1 => by
      subst hp
      exact kk H1 locs1 (ht ▸ hB) hS1
  · intro T hT XX
    obtain ⟨v, st₀, t, T', L, h0, X', hL, e1, e2, hq, st⟩ := hr T hT XX
    exact hq.elim
theorem zf_roomE {k : Nat} (h : zf_room mi k = true) : (zf_g k).2.2.2.2.2.2.2.1 + 1 ≤ (zf_g mi).2.2.2.2.2.2.2.1 ∧ 8 + ((zf_g k).2.2.1 + 11) + (zf_g k).2.2.2.2.2.2.2.2 ≤ (zf_g mi).2.2.2.2.2.2.2.2 := of_decide_eq_true h
theorem zf_callB {k idx mc ms : Nat} (hC : zf_C mi p R s m args meth c) (hk : k ≠ 1000) (hr : zf_room mi k = true) (hl : (Cond.methodLink (zf_oR (zf_g mi).2.2.2.2.1) idx (zf_g k).1).before args s = true) : CallB R s args (zf_oR (zf_g mi).2.2.2.2.1) idx (zf_g k).1 (zf_g k).2.1 (zf_g k).2.2.1 (zf_g k).2.2.2.1 (zf_wsm k) (zf_rm k mc ms) mc ms (zf_g k).2.2.2.2.2.1 := by
  obtain ⟨hx, hb, hml, hown, hts, hnm, hfr, hlo⟩ := hC
  have hr := zf_roomE hr
  have hE := zf_eok k hk
  exact callB_of (ws' := zf_T) (zf_g k).2.2.2.2.2.1 hts (zf_good k hk) rfl rfl rfl (hts _ hE.2.1) hl hE.2.2.1 ⟨Nat.le_trans hr.1 hfr, Nat.le_trans hr.2 hlo⟩
theorem zf_callN {k idx mc ms : Nat} (hC : zf_C mi p R s m args meth c) (hF : zf_F D ad cy base X s) (hk : k ≠ 1000) (hr : zf_room mi k = true) (hl : ((zf_g mi).2.2.2.2.1, idx, k) ∈ zf_nl) : va_CN R s args (zf_oR (zf_g mi).2.2.2.2.1) idx (zf_g k).1 "FairFight" (zf_g k).2.1 (zf_g k).2.2.1 (zf_g k).2.2.2.1 (zf_wsm k) (zf_rm k mc ms) mc ms (zf_g k).2.2.2.2.2.1 := by
  obtain ⟨hx, hb, hml, hown, hts, hnm, hfr, hlo⟩ := hC
  have hr := zf_roomE hr
  have hE := zf_eok k hk
  have hn := hF.2.2.1 _ hl
  dsimp only at hn
  have hi := hts _ hE.2.1
  have hE3 := hE.2.2.1
  have hR : (zf_rm k mc ms).frames + 1 ≤ R.frames ∧ 8 + ((zf_g k).2.2.1 + 11) + (zf_rm k mc ms).locals ≤ R.locals := ⟨Nat.le_trans hr.1 hfr, Nat.le_trans hr.2 hlo⟩
  have hG := zf_good k hk
  have hw : zf_wsm k = Cond.code (zf_g k).1 (zf_g k).2.1 (zf_g k).2.2.1 (zf_g k).2.2.2.1 :: zf_T := rfl
  generalize zf_g k = E at hn hi hE3 hR hw ⊢
  exact va_cnB (ws' := zf_T) E.2.2.2.2.2.1 hts hG hw rfl rfl hn hi hE3 hR
theorem zf_cut {n : Nat} (hl : (st.take n).length = n) {b : Nat} {r : List Value} (hd : st.drop n = .ref b :: r) : st.map (zf_v ad) = ((st.take n).reverse.map (zf_v ad)).reverse ++ .ref (ad b) :: r.map (zf_v ad) := by
  have e : st = st.take n ++ .ref b :: r := by rw [← hd, List.take_append_drop]
  rw [← List.map_reverse, List.reverse_reverse]
  conv => lhs; rw [e]
  rw [List.map_append]
  rfl
theorem zf_cut0 {n : Nat} : st.map (zf_v ad) = ((st.take n).reverse.map (zf_v ad)).reverse ++ (st.drop n).map (zf_v ad) := by
  rw [← List.map_reverse, List.reverse_reverse, ← List.map_append, List.take_append_drop]
theorem zf_iv_call {k pc' : Nat} {as rest : List Value} {r : Option Value} {M1 : zf_M} {idx : Nat} (hC : zf_C mi p R s m args meth c) (hF : zf_F D ad cy base X s) (hd : decode (zf_g mi).2.1 pc = .ok (.invokevirtual idx, 3)) (h : zf_iv mi (pc + 3) idx st M = some (.inr (.inr (k, as, pc', rest)))) (hM : k ≠ 1000 → (lg_sl as).length ≤ (zf_g k).2.2.1 → zf_Met l D ad cy base X k as M r M1) (cap : cells + (M1.1.length - M.1.length) ≤ R.cells ∧ slots + (zf_sum M1.1 - zf_sum M.1) ≤ R.slots) (kk : zf_G D ad cy base mi p l e R s m args below meth c Q (cells + (M1.1.length - M.1.length)) (slots + (zf_sum M1.1 - zf_sum M.1)) (pc', ls, r.toList ++ rest, M1)) : zf_G D ad cy base mi p l e R s m args below meth c Q cells slots (pc, ls, st, M) := by
  have hCF : CallFix p m c (zf_g mi).2.1 (zf_g mi).2.2.1 s args zf_T (zf_oR (zf_g mi).2.2.2.2.1) := ⟨hC.1, hC.2.1, hC.2.2.1, hC.2.2.2.1, hC.2.2.2.2.1⟩
  have hts := hC.2.2.2.2.1
  unfold zf_iv at h
  split at h
  next k2 hat =>
    have hlk := zf_mlt _ (zf_at_in hat)
    dsimp only [zf_mlO] at hlk
    split at h
    next b r2 hdr =>
      split at h
      next hc =>
        obtain ⟨⟨hc1, hc1'⟩, hc2, hc3, hc4⟩ := hc
        unfold zf_call at h
        split at h
        next hlen =>
          cases h
          obtain ⟨hl1, hl2, hl3⟩ := hlk
          have hE := zf_eok k hl2
          have hE6 := hE.2.2.2.2.2
          rw [hl3] at hE6
          obtain ⟨g1, g2, g3⟩ := hE6
          obtain ⟨nb, hnb⟩ := zf_kE hc1 (by rw [← hc1]; omega)
          intro lsC H locs hR
          have hob := zf_wo (ad := ad) (cy := cy) hnb (by rw [← hc1]; exact hc1')
          obtain ⟨cell, q1, q2, q3⟩ := va_recv hF.1 hR.2.1.2.1 (zf_vck _ (by rw [← hc1]; exact hc1')) hob
          refine zf_run_g (va_runV (As := (st.take (zf_g k).2.2.2.2.2.1).reverse.map (zf_v ad)) hCF (hM hl2 hlen) ⟨zf_callB hC hl2 hc3 (hts _ hl1), hts _ g1, hts _ g2⟩ ⟨zf_blind, ⟨cell, q1, q2, by rw [hE.2.2.2.2.1, ← zf_cRo _ (by rw [← hc1]; exact hc1')]; exact q3⟩, fun U hU hW => zf_start hF hR.2.1 hR.2.2 U hU hW⟩ rfl (by simpa using hc2) hR.1.1 (zf_cut hc2 hdr) (lv_room (zf_lows hc4)) hd cap) hR.2.2 fun H1 locs1 hH1 hS1 => ?_
          exact kk lsC H1 locs1 ⟨hR.1, hH1, hS1⟩
        next => cases h
      next => cases h
    next => cases h
  next => cases h
theorem zf_iz_call {k pc' : Nat} {as rest : List Value} {r : Option Value} {M1 : zf_M} {idx : Nat} (hC : zf_C mi p R s m args meth c) (hF : zf_F D ad cy base X s) (hd : decode (zf_g mi).2.1 pc = .ok (.invokestatic idx, 3)) (h : zf_iz mi (pc + 3) idx ls st M = some (.inr (.inr (k, as, pc', rest)))) (hM : k ≠ 1000 → (lg_sl as).length ≤ (zf_g k).2.2.1 → zf_Met l D ad cy base X k as M r M1) (cap : cells + (M1.1.length - M.1.length) ≤ R.cells ∧ slots + (zf_sum M1.1 - zf_sum M.1) ≤ R.slots) (kk : zf_G D ad cy base mi p l e R s m args below meth c Q (cells + (M1.1.length - M.1.length)) (slots + (zf_sum M1.1 - zf_sum M.1)) (pc', ls, r.toList ++ rest, M1)) : zf_G D ad cy base mi p l e R s m args below meth c Q cells slots (pc, ls, st, M) := by
  have hCF : CallFix p m c (zf_g mi).2.1 (zf_g mi).2.2.1 s args zf_T (zf_oR (zf_g mi).2.2.2.2.1) := ⟨hC.1, hC.2.1, hC.2.2.1, hC.2.2.2.1, hC.2.2.2.2.1⟩
  have hts := hC.2.2.2.2.1
  unfold zf_iz at h
  split at h
  next k2 hat =>
    have hlk := zf_mlt _ (zf_at_in hat)
    dsimp only [zf_mlO] at hlk
    split at h
    next hc =>
      obtain ⟨hc2, hc3, hc4⟩ := hc
      unfold zf_call at h
      split at h
      next hlen =>
        cases h
        obtain ⟨hl1, hl2, hl3⟩ := hlk
        have hE6 := (zf_eok k hl2).2.2.2.2.2
        rw [hl3] at hE6
        obtain ⟨g1, g2⟩ := hE6
        intro lsC H locs hR
        refine zf_run_g (va_runS (As := (st.take (zf_g k).2.2.2.2.2.1).reverse.map (zf_v ad)) hCF (hM hl2 hlen) ⟨zf_callB hC hl2 hc3 (hts _ hl1), hts _ g1⟩ ⟨zf_blind, fun U hU hW => zf_start hF hR.2.1 hR.2.2 U hU hW⟩ rfl (by simpa using hc2) hR.1.1 zf_cut0 (lv_room (zf_lows hc4)) hd cap) hR.2.2 fun H1 locs1 hH1 hS1 => ?_
        exact kk lsC H1 locs1 ⟨hR.1, hH1, hS1⟩
      next => cases h
    next => cases h
  next k2 hat =>
    have hlk := zf_mlt _ (zf_at_in hat)
    dsimp only [zf_mlO] at hlk
    split at h
    next hc =>
      obtain ⟨hc2, hc3, hc4⟩ := hc
      unfold zf_call at h
      split at h
      next hlen =>
        cases h
        obtain ⟨hl1, hl2, hl3⟩ := hlk
        have hE6 := (zf_eok k hl2).2.2.2.2.2
        rw [hl3] at hE6
        obtain ⟨g1, g2⟩ := hE6
        intro lsC H locs hR
        refine zf_run_g (va_runSN (As := (st.take (zf_g k).2.2.2.2.2.1).reverse.map (zf_v ad)) hCF (hM hl2 hlen) ⟨zf_callN hC hF hl2 hc3 hl1, hts _ g1, trivial⟩ ⟨zf_blind, fun U hU hW => zf_start hF hR.2.1 hR.2.2 U hU hW⟩ rfl (by simpa using hc2) hR.1.1 zf_cut0 (lv_room (zf_lows hc4)) hd cap) hR.2.2 fun H1 locs1 hH1 hS1 => ?_
        exact kk lsC H1 locs1 ⟨hR.1, hH1, hS1⟩
      next => cases h
    next => cases h
  all_goals ((repeat' split at h) <;> cases h)
theorem zf_ix_call {k pc' : Nat} {as rest : List Value} {r : Option Value} {M1 : zf_M} {idx : Nat} (hC : zf_C mi p R s m args meth c) (hF : zf_F D ad cy base X s) (hd : decode (zf_g mi).2.1 pc = .ok (.invokespecial idx, 3)) (h : zf_ix mi (pc + 3) idx ls st M = some (.inr (.inr (k, as, pc', rest)))) (hM : k ≠ 1000 → (lg_sl as).length ≤ (zf_g k).2.2.1 → zf_Met l D ad cy base X k as M r M1) (cap : cells + (M1.1.length - M.1.length) ≤ R.cells ∧ slots + (zf_sum M1.1 - zf_sum M.1) ≤ R.slots) (kk : zf_G D ad cy base mi p l e R s m args below meth c Q (cells + (M1.1.length - M.1.length)) (slots + (zf_sum M1.1 - zf_sum M.1)) (pc', ls, r.toList ++ rest, M1)) : zf_G D ad cy base mi p l e R s m args below meth c Q cells slots (pc, ls, st, M) := by
  have hCF : CallFix p m c (zf_g mi).2.1 (zf_g mi).2.2.1 s args zf_T (zf_oR (zf_g mi).2.2.2.2.1) := ⟨hC.1, hC.2.1, hC.2.2.1, hC.2.2.2.1, hC.2.2.2.2.1⟩
  have hts := hC.2.2.2.2.1
  unfold zf_ix at h
  split at h
  next => (repeat' split at h) <;> cases h
  next k2 hat =>
    have hlk := zf_mlt _ (zf_at_in hat)
    dsimp only [zf_mlO] at hlk
    split at h
    next b r2 hdr =>
      split at h
      next hc =>
        obtain ⟨hc2, hc3, hc4⟩ := hc
        unfold zf_call at h
        split at h
        next hlen =>
          cases h
          obtain ⟨hl1, hl2, hl3⟩ := hlk
          have hE6 := (zf_eok k hl2).2.2.2.2.2
          rw [hl3] at hE6
          obtain ⟨g1, g2, g3⟩ := hE6
          have hB := zf_callB (mc := M1.1.length - M.1.length) (ms := zf_sum M1.1 - zf_sum M.1) hC hl2 hc3 (hts _ hl1)
          rw [g3] at hB
          intro lsC H locs hR
          refine zf_run_g (va_runI (As := (st.take (zf_g k).2.2.2.2.2.1).reverse.map (zf_v ad)) hCF (hM hl2 hlen) ⟨hB, g2, hts _ g1⟩ ⟨zf_blind, fun U hU hW => zf_start hF hR.2.1 hR.2.2 U hU hW⟩ rfl (by simpa using hc2) hR.1.1 (zf_cut hc2 hdr) (lv_room (zf_lows hc4)) hd cap) hR.2.2 fun H1 locs1 hH1 hS1 => ?_
          exact kk lsC H1 locs1 ⟨hR.1, hH1, hS1⟩
        next => cases h
      next => cases h
    next => cases h
  next k2 hat =>
    have hlk := zf_mlt _ (zf_at_in hat)
    dsimp only [zf_mlO] at hlk
    split at h
    next b r2 hdr =>
      split at h
      next hc =>
        obtain ⟨hc2, hc3, hc4⟩ := hc
        unfold zf_call at h
        split at h
        next hlen =>
          cases h
          obtain ⟨hl1, hl2, hl3⟩ := hlk
          have hE6 := (zf_eok k hl2).2.2.2.2.2
          rw [hl3] at hE6
          obtain ⟨g1, g2, g3⟩ := hE6
          have hB := zf_callN (mc := M1.1.length - M.1.length) (ms := zf_sum M1.1 - zf_sum M.1) hC hF hl2 hc3 hl1
          rw [g3] at hB
          intro lsC H locs hR
          refine zf_run_g (va_runIN (As := (st.take (zf_g k).2.2.2.2.2.1).reverse.map (zf_v ad)) hCF (hM hl2 hlen) ⟨hB, g2, hts _ g1⟩ ⟨zf_blind, fun U hU hW => zf_start hF hR.2.1 hR.2.2 U hU hW⟩ rfl (by simpa using hc2) hR.1.1 (zf_cut hc2 hdr) (lv_room (zf_lows hc4)) hd cap) hR.2.2 fun H1 locs1 hH1 hS1 => ?_
          exact kk lsC H1 locs1 ⟨hR.1, hH1, hS1⟩
        next => cases h
      next => cases h
    next => cases h
  next => cases h
theorem zf_act_call {q : Nat × List Value × Nat × List Value} (h : zf_act X mi pc ls st M = some (.inr (.inr q))) : ∃ idx, (decode (zf_g mi).2.1 pc = .ok (.invokevirtual idx, 3) ∧ zf_iv mi (pc + 3) idx st M = some (.inr (.inr q))) ∨ (decode (zf_g mi).2.1 pc = .ok (.invokestatic idx, 3) ∧ zf_iz mi (pc + 3) idx ls st M = some (.inr (.inr q))) ∨ (decode (zf_g mi).2.1 pc = .ok (.invokespecial idx, 3) ∧ zf_ix mi (pc + 3) idx ls st M = some (.inr (.inr q))) := by
  unfold zf_act at h
  split at h
  next i n hd =>
    unfold zf_do at h
    split at h <;> first
      | exact ⟨_, Or.inl ⟨hd, h⟩⟩
      | exact ⟨_, Or.inr (Or.inl ⟨hd, h⟩)⟩
      | exact ⟨_, Or.inr (Or.inr ⟨hd, h⟩)⟩
      | ((try simp only [zf_il, zf_al, zf_ll, zf_is, zf_as, zf_ls, zf_ic, zf_ii, zf_id, zf_jj, zf_jd, zf_ji, zf_i1, zf_j1, zf_dup, zf_pop, zf_dp2, zf_if, zf_ip, zf_go, zf_tb, zf_lk, zf_get, zf_put, zf_ia, zf_ja, zf_za, zf_qa, zf_sia, zf_sja, zf_sza, zf_sqa, zf_len, zf_nw, zf_na, zf_nq, zf_iret, zf_jret, zf_vret, zf_cell, zf_st] at h) <;> (repeat' split at h) <;> cases h)
  next => cases h
theorem zf_call_g {k pc' : Nat} {as rest : List Value} {r : Option Value} {M1 : zf_M} (hC : zf_C mi p R s m args meth c) (hF : zf_F D ad cy base X s) (h : zf_act X mi pc ls st M = some (.inr (.inr (k, as, pc', rest)))) (hM : k ≠ 1000 → (lg_sl as).length ≤ (zf_g k).2.2.1 → zf_Met l D ad cy base X k as M r M1) (cap : cells + (M1.1.length - M.1.length) ≤ R.cells ∧ slots + (zf_sum M1.1 - zf_sum M.1) ≤ R.slots)
    (kk : zf_G D ad cy base mi p l e R s m args below meth c Q (cells + (M1.1.length - M.1.length)) (slots + (zf_sum M1.1 - zf_sum M.1)) (pc', ls, r.toList ++ rest, M1)) : zf_G D ad cy base mi p l e R s m args below meth c Q cells slots (pc, ls, st, M) := by
  obtain ⟨idx, ⟨hd, h⟩ | ⟨hd, h⟩ | ⟨hd, h⟩⟩ := zf_act_call h
  · exact zf_iv_call hC hF hd h hM cap kk
  · exact zf_iz_call hC hF hd h hM cap kk
  · exact zf_ix_call hC hF hd h hM cap kk
end ZC
