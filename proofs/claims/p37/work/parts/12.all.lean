/-! ===== the run of the abstract machine is the machine's ===== -/
theorem zf_hmi (mi : Nat) : (zf_g mi).2.2.2.2.2.2.1 = 2 → (zf_g mi).1.name = "<init>" := by
  by_cases h : mi = 1000
  · subst h
    intro h2
    rw [zf_g1000] at h2
    exact absurd h2 (by decide)
  · intro h2
    have hE := (zf_eok mi h).2.2.2.2.2
    rw [h2] at hE
    exact hE.2.1
section ZA
variable {D : va_G} {ad : Nat → Nat} {cy : Nat → ClassId} {base : Nat} {l : Launch} {X : zf_X}
/-- what the run of n steps owes the machine -/
def zf_Ok (D : va_G) (ad : Nat → Nat) (cy : Nat → ClassId) (base : Nat) (l : Launch) (X : zf_X) (n : Nat) : Prop :=
  ∀ (mi pc : Nat) (ls : List Slot) (st : List Value) (M : zf_M) (r : Option Value) (M' : zf_M), zf_ev n X mi pc ls st M = some (r, M') →
    ∀ (p : Program) (e : Env) (R : Room) (s : State) (m : MethodId) (args : Array Value) (below : List Frame) (meth : Method) (c : Code) (Q : State → Prop) (cells slots tc ts : Nat),
      zf_C mi p R s m args meth c → zf_F D ad cy base X s → tc ≤ R.cells → ts ≤ R.slots → cells + (M'.1.length - M.1.length) ≤ tc → slots + (zf_sum M'.1 - zf_sum M.1) ≤ ts →
      (∀ (pc' : Nat) (lsC : Array Slot) (H : Heap) (locs : List Loc), zf_isR mi pc' r → zf_H D ad cy base M' H → va_S (fun q => base ≤ q) s.heap H locs → W p l e R s m args below meth c H locs tc ts Q (F0 m pc' lsC (r.toList.map (zf_v ad)))) →
      zf_G D ad cy base mi p l e R s m args below meth c Q cells slots (pc, ls, st, M)
set_option maxHeartbeats 4000000 in
theorem zf_met {n : Nat} (ih : zf_Ok D ad cy base l X n) {k : Nat} {as : List Value} {M M1 : zf_M} {r : Option Value} (hk : k ≠ 1000) (hlen : (lg_sl as).length ≤ (zf_g k).2.2.1) (h : zf_ev n X k 0 (zf_en k as) [] M = some (r, M1)) : zf_Met l D ad cy base X k as M r M1 := by
  have hE := zf_eok k hk
  refine Met.ofW (cc := (zf_g k).2.1) (maxL := (zf_g k).2.2.1) (ret := (zf_g k).2.2.2.1) hE.2.2.2.1 rfl ?_
  intro p e s m args below meth c s₁ B hml hv
  obtain ⟨rfl, hH, hF⟩ := hv
  have hx := B.exec
  have hb := B.bytes
  have hret := B.returns
  have hlocks := B.notSynchronized
  have hts := atoms_spec (ws := zf_wsm k) B.pre
  have hown : s.vm.findClass (zf_oR (zf_g k).2.2.2.2.1) = some m.cls := by
    have := findClass_of_methodNamed B.named
    rw [hE.2.2.2.2.1] at this
    exact this
  have hnm : meth.name = (zf_g k).1.name := (name_of_methodNamed B.named B.method).1
  rw [lg_entry_eq]
  have hC : zf_C k p (headSpec (zf_wsm k) (zf_rm k (M1.1.length - M.1.length) (zf_sum M1.1 - zf_sum M.1))).room s m (as.map (zf_v ad)).toArray meth c := ⟨hx, hb, hml, hown, fun w hw => hts w (List.mem_cons_of_mem _ hw), fun _ => hnm, Nat.le_refl _, Nat.le_refl _⟩
  refine ih k 0 (zf_en k as) [] M r M1 h p e _ s m _ below meth c _ 0 0 (M1.1.length - M.1.length) (zf_sum M1.1 - zf_sum M.1) hC hF (Nat.le_refl _) (Nat.le_refl _) (by omega) (by omega) ?_ _ s.heap [] ⟨zf_Lo.entry ad k as hlen, hH, va_S.rf⟩
  intro pc' lsC H locs hR hH1 hS
  rcases hR with ⟨v, rfl, hd, ht | ⟨ht, hv⟩⟩ | ⟨v, rfl, hd, ht⟩ | ⟨rfl, hd, ht⟩
  · rw [ht] at hret
    exact W.iret hx hb hret (fun t hh _ => ⟨⟨v, (), rfl, rfl, (show zf_H D ad cy base M1 t.heap by rw [hh]; exact hH1)⟩, hS.F hh⟩) hS.2.2 hd
  · rw [ht] at hret
    exact W.zret hx hb hret (congrArg Value.int hv) (fun t hh _ => ⟨⟨v, (), rfl, rfl, (show zf_H D ad cy base M1 t.heap by rw [hh]; exact hH1)⟩, hS.F hh⟩) hS.2.2 hd
  · rw [ht] at hret
    exact W.lret hx hb hret (fun t hh _ => ⟨⟨v, (), rfl, rfl, (show zf_H D ad cy base M1 t.heap by rw [hh]; exact hH1)⟩, hS.F hh⟩) hS.2.2 hd
  · rw [ht] at hret
    exact W.vret hx hb hret (fun t hh _ => ⟨⟨(), rfl, trivial, (show zf_H D ad cy base M1 t.heap by rw [hh]; exact hH1)⟩, hS.F hh⟩) hS.2.2 hd
set_option maxHeartbeats 4000000 in
theorem zf_ok : ∀ n, zf_Ok D ad cy base l X n
  | 0 => fun mi pc ls st M r M' h => by cases h
  | n + 1 => by
    have ih := zf_ok n
    intro mi pc ls st M r M' h p e R s m args below meth c Q cells slots tc ts hC hF htc hts2 hc hs hret
    rw [zf_ev] at h
    cases ha : zf_act X mi pc ls st M with
    | none => rw [ha] at h; cases h
    | some q =>
      rw [ha] at h
      rcases q with S | a | q
      · have hg := zf_grow n _ _ _ _ _ _ _ h
        dsimp only at hg
        have hsh := zf_act_sh ha
        have key : ∀ cells2 slots2 : Nat, cells2 + (M'.1.length - S.2.2.2.1.length) ≤ tc → slots2 + (zf_sum M'.1 - zf_sum S.2.2.2.1) ≤ ts → zf_G D ad cy base mi p l e R s m args below meth c Q cells2 slots2 S := fun cells2 slots2 h1 h2 => ih _ _ _ _ _ _ _ h p e R s m args below meth c Q cells2 slots2 tc ts hC hF htc hts2 h1 h2 hret
        unfold zf_act at ha
        split at ha
        next i k hd =>
          refine zf_do_snd hC hF (zf_hmi mi) hd ha ⟨by omega, by omega⟩ (fun kn e1 => ?_) (fun e1 => key _ _ (by rw [e1]; exact hc) (by rw [e1]; exact hs)) (fun kn e1 => ?_)
          · rw [e1, zf_sum_app] at hg
            simp only [List.length_append, List.length_cons, List.length_nil] at hg
            exact ⟨by omega, by omega⟩
          · rw [e1, zf_sum_app] at hg
            simp only [List.length_append, List.length_cons, List.length_nil] at hg
            refine key _ _ ?_ ?_
            · rw [e1]
              simp only [List.length_append, List.length_cons, List.length_nil]
              omega
            · rw [e1, zf_sum_app]
              omega
        next => cases ha
      · obtain ⟨h1, h2⟩ := zf_act_ret ha
        cases h
        intro lsC H locs hR
        rw [h2]
        exact W.widen (by omega) (by omega) (hret pc lsC H locs h1 hR.2.1 hR.2.2)
      · dsimp only at h
        obtain ⟨k, as, pc', rest⟩ := q
        dsimp only at h
        cases hcl : zf_ev n X k 0 (zf_en k as) [] M with
        | none => rw [hcl] at h; cases h
        | some r1 =>
          rw [hcl] at h
          obtain ⟨v1, M1⟩ := r1
          dsimp only at h
          have g1 := zf_grow n _ _ _ _ _ _ _ hcl
          have g2 := zf_grow n _ _ _ _ _ _ _ h
          dsimp only at g1 g2
          exact zf_call_g hC hF ha (fun hk hlen => zf_met ih hk hlen hcl) ⟨by omega, by omega⟩ (ih _ _ _ _ _ _ _ h p e R s m args below meth c Q _ _ tc ts hC hF htc hts2 (by omega) (by omega) hret)
end ZA
