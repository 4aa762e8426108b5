/-! ===== rules: one a kind of instruction ===== -/
section ZU
variable {X : zf_X} {mi pc tgt idx : Nat} {ls : List Slot} {st : List Value} {M : zf_M} {Q : Option Value → zf_M → Prop}
theorem zr_ofAct {pc' : Nat} {ls' : List Slot} {st' : List Value} {M' : zf_M} {i : Instr} {n : Nat} (hd : decode (zf_g mi).2.1 pc = .ok (i, n)) (h : zf_do X mi pc i n ls st M = zf_st pc' ls' st' M') : zW X mi pc ls st M Q ↔ zW X mi pc' ls' st' M' Q :=
  zW_step (by unfold zf_act; rw [hd]; exact h)
theorem zr_iload_n {k : Fin 4} {x : Int32} (hd : decode (zf_g mi).2.1 pc = .ok (.iload_n k, 1)) (hl : ls[(k : Nat)]? = some (.val (.int x))) : zW X mi pc ls st M Q ↔ zW X mi (pc + 1) ls (.int x :: st) M Q :=
  zr_ofAct hd (by show zf_il _ _ _ _ _ = _; unfold zf_il; rw [hl])
theorem zr_iload {k : Nat} {x : Int32} (hd : decode (zf_g mi).2.1 pc = .ok (.iload k, 2)) (hl : ls[k]? = some (.val (.int x))) : zW X mi pc ls st M Q ↔ zW X mi (pc + 2) ls (.int x :: st) M Q :=
  zr_ofAct hd (by show zf_il _ _ _ _ _ = _; unfold zf_il; rw [hl])
theorem zr_aload_n {k : Fin 4} {x : Nat} (hd : decode (zf_g mi).2.1 pc = .ok (.aload_n k, 1)) (hl : ls[(k : Nat)]? = some (.val (.ref x))) : zW X mi pc ls st M Q ↔ zW X mi (pc + 1) ls (.ref x :: st) M Q :=
  zr_ofAct hd (by show zf_al _ _ _ _ _ = _; unfold zf_al; rw [hl])
theorem zr_aload {k : Nat} {x : Nat} (hd : decode (zf_g mi).2.1 pc = .ok (.aload k, 2)) (hl : ls[k]? = some (.val (.ref x))) : zW X mi pc ls st M Q ↔ zW X mi (pc + 2) ls (.ref x :: st) M Q :=
  zr_ofAct hd (by show zf_al _ _ _ _ _ = _; unfold zf_al; rw [hl])
theorem zr_lload_n {k : Fin 4} {x : Int64} (hd : decode (zf_g mi).2.1 pc = .ok (.lload_n k, 1)) (hl : ls[(k : Nat)]? = some (.val (.long x))) (hl2 : ls[(k : Nat) + 1]? = some .second) : zW X mi pc ls st M Q ↔ zW X mi (pc + 1) ls (.long x :: st) M Q :=
  zr_ofAct hd (by show zf_ll _ _ _ _ _ = _; unfold zf_ll; rw [hl, hl2])
theorem zr_lload {k : Nat} {x : Int64} (hd : decode (zf_g mi).2.1 pc = .ok (.lload k, 2)) (hl : ls[k]? = some (.val (.long x))) (hl2 : ls[k + 1]? = some .second) : zW X mi pc ls st M Q ↔ zW X mi (pc + 2) ls (.long x :: st) M Q :=
  zr_ofAct hd (by show zf_ll _ _ _ _ _ = _; unfold zf_ll; rw [hl, hl2])
theorem zr_istore_n {k : Fin 4} {x : Int32} (hd : decode (zf_g mi).2.1 pc = .ok (.istore_n k, 1)) (hl : (k : Nat) < ls.length) : zW X mi pc ls (.int x :: st) M Q ↔ zW X mi (pc + 1) (ls.set (k : Nat) (.val (.int x))) st M Q :=
  zr_ofAct hd (by simp only [zf_do, zf_is, zf_s1, if_pos hl])
theorem zr_istore {k : Nat} {x : Int32} (hd : decode (zf_g mi).2.1 pc = .ok (.istore k, 2)) (hl : k < ls.length) : zW X mi pc ls (.int x :: st) M Q ↔ zW X mi (pc + 2) (ls.set k (.val (.int x))) st M Q :=
  zr_ofAct hd (by simp only [zf_do, zf_is, zf_s1, if_pos hl])
theorem zr_astore_n {k : Fin 4} {x : Nat} (hd : decode (zf_g mi).2.1 pc = .ok (.astore_n k, 1)) (hl : (k : Nat) < ls.length) : zW X mi pc ls (.ref x :: st) M Q ↔ zW X mi (pc + 1) (ls.set (k : Nat) (.val (.ref x))) st M Q :=
  zr_ofAct hd (by simp only [zf_do, zf_as, zf_s1, if_pos hl])
theorem zr_astore {k : Nat} {x : Nat} (hd : decode (zf_g mi).2.1 pc = .ok (.astore k, 2)) (hl : k < ls.length) : zW X mi pc ls (.ref x :: st) M Q ↔ zW X mi (pc + 2) (ls.set k (.val (.ref x))) st M Q :=
  zr_ofAct hd (by simp only [zf_do, zf_as, zf_s1, if_pos hl])
theorem zr_lstore_n {k : Fin 4} {x : Int64} (hd : decode (zf_g mi).2.1 pc = .ok (.lstore_n k, 1)) (hl : (k : Nat) + 1 < ls.length) : zW X mi pc ls (.long x :: st) M Q ↔ zW X mi (pc + 1) ((ls.set (k : Nat) (.val (.long x))).set ((k : Nat) + 1) .second) st M Q :=
  zr_ofAct hd (by simp only [zf_do, zf_ls, zf_s2, if_pos hl])
theorem zr_lstore {k : Nat} {x : Int64} (hd : decode (zf_g mi).2.1 pc = .ok (.lstore k, 2)) (hl : k + 1 < ls.length) : zW X mi pc ls (.long x :: st) M Q ↔ zW X mi (pc + 2) ((ls.set k (.val (.long x))).set (k + 1) .second) st M Q :=
  zr_ofAct hd (by simp only [zf_do, zf_ls, zf_s2, if_pos hl])
theorem zr_iinc {k : Nat} {n : Int} {x v : Int32} (hd : decode (zf_g mi).2.1 pc = .ok (.iinc k n, 3)) (hl : ls[k]? = some (.val (.int x))) (hv : Int32.ofInt n = v) : zW X mi pc ls st M Q ↔ zW X mi (pc + 3) (ls.set k (.val (.int (x + v)))) st M Q :=
  zr_ofAct hd (by show zf_ic _ _ _ _ _ _ = _; unfold zf_ic; rw [hl, ← hv]; rfl)
theorem zr_goto {off : Int} (hd : decode (zf_g mi).2.1 pc = .ok (.goto off, 3)) (ht : (pc : Int) + off = (tgt : Int)) : zW X mi pc ls st M Q ↔ zW X mi tgt ls st M Q :=
  zr_ofAct hd (by show zf_go _ _ _ _ _ = _; unfold zf_go; rw [ht, if_pos (by omega)]; rfl)
theorem zr_ldc {v : Int32} (hd : decode (zf_g mi).2.1 pc = .ok (.ldc idx, 2)) (hv : zf_at zf_k4 (zf_g mi).2.2.2.2.1 idx = some v) : zW X mi pc ls st M Q ↔ zW X mi (pc + 2) ls (.int v :: st) M Q :=
  zr_ofAct hd (by simp only [zf_do, hv])
theorem zr_ldcw {v : Int32} (hd : decode (zf_g mi).2.1 pc = .ok (.ldc_w idx, 3)) (hv : zf_at zf_k4 (zf_g mi).2.2.2.2.1 idx = some v) : zW X mi pc ls st M Q ↔ zW X mi (pc + 3) ls (.int v :: st) M Q :=
  zr_ofAct hd (by simp only [zf_do, hv])
theorem zr_ldc2 {v : Int64} (hd : decode (zf_g mi).2.1 pc = .ok (.ldc2_w idx, 3)) (hv : zf_at zf_k8 (zf_g mi).2.2.2.2.1 idx = some v) : zW X mi pc ls st M Q ↔ zW X mi (pc + 3) ls (.long v :: st) M Q :=
  zr_ofAct hd (by simp only [zf_do, hv])
theorem zr_getstatic {a : Nat} (hd : decode (zf_g mi).2.1 pc = .ok (.getstatic idx, 3)) (hv : zf_at zf_sl (zf_g mi).2.2.2.2.1 idx = some a) : zW X mi pc ls st M Q ↔ zW X mi (pc + 3) ls (.ref a :: st) M Q :=
  zr_ofAct hd (by simp only [zf_do, hv])
theorem zW_none (h : zf_act X mi pc ls st M = none) : ¬ zW X mi pc ls st M Q := by
  rintro ⟨n, r, h1, h2⟩
  cases n with
  | zero => cases h1
  | succ n =>
    rw [zf_ev, h] at h1
    cases h1
/-- a rule under a condition that the step itself puts -/
theorem zr_ifAct {pc' : Nat} {ls' : List Slot} {st' : List Value} {M' : zf_M} {i : Instr} {n : Nat} {c : Prop} [Decidable c] (hd : decode (zf_g mi).2.1 pc = .ok (i, n)) (h : zf_do X mi pc i n ls st M = if c then zf_st pc' ls' st' M' else none) : zW X mi pc ls st M Q ↔ c ∧ zW X mi pc' ls' st' M' Q := by
  by_cases hc : c
  · rw [if_pos hc] at h
    rw [zr_ofAct hd h]
    exact ⟨fun q => ⟨hc, q⟩, fun q => q.2⟩
  · rw [if_neg hc] at h
    exact ⟨fun q => absurd q (zW_none (by unfold zf_act; rw [hd]; exact h)), fun q => absurd q.1 hc⟩
theorem zr_if {c : Jvm.ClassFile.Cond} {off : Int} {x : Int32} {A : Prop} (hd : decode (zf_g mi).2.1 pc = .ok (.ifCond c off, 3)) (ht : (pc : Int) + off = (tgt : Int)) (hc : (zf_c c x 0 = true) = A) : zW X mi pc ls (.int x :: st) M Q ↔ (A → zW X mi tgt ls st M Q) ∧ (¬ A → zW X mi (pc + 3) ls st M Q) := by
  subst hc
  have h0 : 0 ≤ (pc : Int) + off := by omega
  have h1 : ((pc : Int) + off).toNat = tgt := by omega
  by_cases hc : zf_c c x 0 = true
  · rw [zr_ofAct (st' := st) (ls' := ls) (M' := M) (pc' := tgt) hd (by simp only [zf_do, zf_if, if_pos h0, if_pos hc, h1])]
    exact ⟨fun q => ⟨fun _ => q, fun n => absurd hc n⟩, fun q => q.1 hc⟩
  · rw [zr_ofAct (st' := st) (ls' := ls) (M' := M) (pc' := pc + 3) hd (by simp only [zf_do, zf_if, if_pos h0, if_neg hc])]
    exact ⟨fun q => ⟨fun n => absurd n hc, fun _ => q⟩, fun q => q.2 hc⟩
theorem zr_icmp {c : Jvm.ClassFile.Cond} {off : Int} {x y : Int32} {A : Prop} (hd : decode (zf_g mi).2.1 pc = .ok (.if_icmp c off, 3)) (ht : (pc : Int) + off = (tgt : Int)) (hc : (zf_c c x y = true) = A) : zW X mi pc ls (.int y :: .int x :: st) M Q ↔ (A → zW X mi tgt ls st M Q) ∧ (¬ A → zW X mi (pc + 3) ls st M Q) := by
  subst hc
  have h0 : 0 ≤ (pc : Int) + off := by omega
  have h1 : ((pc : Int) + off).toNat = tgt := by omega
  by_cases hc : zf_c c x y = true
  · rw [zr_ofAct (st' := st) (ls' := ls) (M' := M) (pc' := tgt) hd (by simp only [zf_do, zf_ip, if_pos h0, if_pos hc, h1])]
    exact ⟨fun q => ⟨fun _ => q, fun n => absurd hc n⟩, fun q => q.1 hc⟩
  · rw [zr_ofAct (st' := st) (ls' := ls) (M' := M) (pc' := pc + 3) hd (by simp only [zf_do, zf_ip, if_pos h0, if_neg hc])]
    exact ⟨fun q => ⟨fun n => absurd n hc, fun _ => q⟩, fun q => q.2 hc⟩
theorem zr_idiv {x y : Int32} (hd : decode (zf_g mi).2.1 pc = .ok (.idiv, 1)) : zW X mi pc ls (.int y :: .int x :: st) M Q ↔ y ≠ 0 ∧ zW X mi (pc + 1) ls (.int (x / y) :: st) M Q :=
  zr_ifAct hd (by simp only [zf_do, zf_id]; by_cases h : y = 0 <;> simp [h])
theorem zr_irem {x y : Int32} (hd : decode (zf_g mi).2.1 pc = .ok (.irem, 1)) : zW X mi pc ls (.int y :: .int x :: st) M Q ↔ y ≠ 0 ∧ zW X mi (pc + 1) ls (.int (x - x / y * y) :: st) M Q :=
  zr_ifAct hd (by simp only [zf_do, zf_id]; by_cases h : y = 0 <;> simp [h])
theorem zr_ldiv {x y : Int64} (hd : decode (zf_g mi).2.1 pc = .ok (.ldiv, 1)) : zW X mi pc ls (.long y :: .long x :: st) M Q ↔ y ≠ 0 ∧ zW X mi (pc + 1) ls (.long (x / y) :: st) M Q :=
  zr_ifAct hd (by simp only [zf_do, zf_jd]; by_cases h : y = 0 <;> simp [h])
theorem zr_lrem {x y : Int64} (hd : decode (zf_g mi).2.1 pc = .ok (.lrem, 1)) : zW X mi pc ls (.long y :: .long x :: st) M Q ↔ y ≠ 0 ∧ zW X mi (pc + 1) ls (.long (x - x / y * y) :: st) M Q :=
  zr_ifAct hd (by simp only [zf_do, zf_jd]; by_cases h : y = 0 <;> simp [h])
theorem zr_getI {a k f : Nat} (hd : decode (zf_g mi).2.1 pc = .ok (.getfield idx, 3)) (hv : zf_at zf_fl (zf_g mi).2.2.2.2.1 idx = some (k, f)) (ht : zf_ct k f = .int ∨ zf_ct k f = .boolean) : zW X mi pc ls (.ref a :: st) M Q ↔ zf_k M a = k ∧ zW X mi (pc + 3) ls (.int (zf_I M a f) :: st) M Q :=
  zr_ifAct hd (by simp only [zf_do, zf_get, hv]; rcases ht with h | h <;> simp only [h] <;> rfl)
theorem zr_getJ {a k f : Nat} (hd : decode (zf_g mi).2.1 pc = .ok (.getfield idx, 3)) (hv : zf_at zf_fl (zf_g mi).2.2.2.2.1 idx = some (k, f)) (ht : zf_ct k f = .long) : zW X mi pc ls (.ref a :: st) M Q ↔ zf_k M a = k ∧ zW X mi (pc + 3) ls (.long (zf_J M a f) :: st) M Q :=
  zr_ifAct hd (by simp only [zf_do, zf_get, hv, ht]; rfl)
def zf_isO (ty : FieldType) : Bool := match ty with
  | .object _ => true
  | .array _ => true
  | _ => false
theorem zr_getP {a k f : Nat} (hd : decode (zf_g mi).2.1 pc = .ok (.getfield idx, 3)) (hv : zf_at zf_fl (zf_g mi).2.2.2.2.1 idx = some (k, f)) (ht : zf_isO (zf_ct k f) = true) : zW X mi pc ls (.ref a :: st) M Q ↔ (zf_k M a = k ∧ zf_P M a f ≠ none) ∧ zW X mi (pc + 3) ls (.ref ((zf_P M a f).getD 0) :: st) M Q :=
  zr_ifAct hd (by
    simp only [zf_do, zf_get, hv]
    by_cases hk : zf_k M a = k
    · rw [if_pos hk]
      cases hp : M.2.2.2 a f with
      | none =>
        rw [if_neg (fun q => q.2 hp)]
        cases hty : zf_ct k f <;> rw [hty] at ht <;> first | rfl | cases ht
      | some b =>
        have hp2 : zf_P M a f = some b := hp
        rw [if_pos ⟨hk, by rw [hp2]; exact fun q => by cases q⟩, hp2]
        cases hty : zf_ct k f <;> rw [hty] at ht <;> first | rfl | cases ht
    · rw [if_neg hk, if_neg (fun q => hk q.1)])
theorem zr_putI {a k f : Nat} {x : Int32} (hd : decode (zf_g mi).2.1 pc = .ok (.putfield idx, 3)) (hv : zf_at zf_fl (zf_g mi).2.2.2.2.1 idx = some (k, f)) (ht : zf_ct k f = .int) (hf : (zf_cT k f).2.2.2 = false ∨ (decide ((zf_g mi).2.2.2.2.2.2.1 = 2) = true ∧ (zf_g mi).2.2.2.2.1 = k)) : zW X mi pc ls (.int x :: .ref a :: st) M Q ↔ zf_k M a = k ∧ zW X mi (pc + 3) ls st (zf_sI M a f x) Q :=
  zr_ifAct hd (by
    simp only [zf_do, zf_put, hv]
    by_cases hk : zf_k M a = k
    · rw [if_pos ⟨hk, hf⟩, if_pos hk, ht]
    · rw [if_neg (fun q => hk q.1), if_neg hk])
theorem zr_putZ {a k f : Nat} {x : Int32} (hd : decode (zf_g mi).2.1 pc = .ok (.putfield idx, 3)) (hv : zf_at zf_fl (zf_g mi).2.2.2.2.1 idx = some (k, f)) (ht : zf_ct k f = .boolean) (hf : (zf_cT k f).2.2.2 = false ∨ (decide ((zf_g mi).2.2.2.2.2.2.1 = 2) = true ∧ (zf_g mi).2.2.2.2.1 = k)) : zW X mi pc ls (.int x :: .ref a :: st) M Q ↔ (zf_k M a = k ∧ (x = 0 ∨ x = 1)) ∧ zW X mi (pc + 3) ls st (zf_sI M a f x) Q :=
  zr_ifAct hd (by
    simp only [zf_do, zf_put, hv]
    by_cases hk : zf_k M a = k
    · rw [if_pos ⟨hk, hf⟩, ht]
      by_cases hx : x = 0 ∨ x = 1
      · rw [if_pos ⟨hk, hx⟩]
        simp only [if_pos hx]
      · rw [if_neg (fun q => hx q.2)]
        simp only [if_neg hx]
    · rw [if_neg (fun q => hk q.1), if_neg (fun q => hk q.1)])
theorem zr_putJ {a k f : Nat} {x : Int64} (hd : decode (zf_g mi).2.1 pc = .ok (.putfield idx, 3)) (hv : zf_at zf_fl (zf_g mi).2.2.2.2.1 idx = some (k, f)) (ht : zf_ct k f = .long) (hf : (zf_cT k f).2.2.2 = false ∨ (decide ((zf_g mi).2.2.2.2.2.2.1 = 2) = true ∧ (zf_g mi).2.2.2.2.1 = k)) : zW X mi pc ls (.long x :: .ref a :: st) M Q ↔ zf_k M a = k ∧ zW X mi (pc + 3) ls st (zf_sJ M a f x) Q :=
  zr_ifAct hd (by
    simp only [zf_do, zf_put, hv]
    by_cases hk : zf_k M a = k
    · rw [if_pos ⟨hk, hf⟩, if_pos hk, ht]
    · rw [if_neg (fun q => hk q.1), if_neg hk])
theorem zr_putP {a k f b : Nat} (hd : decode (zf_g mi).2.1 pc = .ok (.putfield idx, 3)) (hv : zf_at zf_fl (zf_g mi).2.2.2.2.1 idx = some (k, f)) (ht : zf_isO (zf_ct k f) = true) (hf : (zf_cT k f).2.2.2 = false ∨ (decide ((zf_g mi).2.2.2.2.2.2.1 = 2) = true ∧ (zf_g mi).2.2.2.2.1 = k)) : zW X mi pc ls (.ref b :: .ref a :: st) M Q ↔ zf_k M a = k ∧ zW X mi (pc + 3) ls st (zf_sP M a f (some b)) Q :=
  zr_ifAct hd (by
    simp only [zf_do, zf_put, hv]
    by_cases hk : zf_k M a = k
    · rw [if_pos ⟨hk, hf⟩, if_pos hk]
      cases hty : zf_ct k f <;> rw [hty] at ht <;> first | rfl | cases ht
    · rw [if_neg (fun q => hk q.1), if_neg hk])
/-- an index within an array of a kind -/
def zf_ix1 (M : zf_M) (k a : Nat) (i : Int32) : Prop := zf_iN i (zf_n M k a) = true
/-- what is read of an int array, of the class's tables, of the script -/
theorem zr_iaload {a : Nat} {i : Int32} (hd : decode (zf_g mi).2.1 pc = .ok (.iaload, 1)) (hn : zf_fx X a = none) : zW X mi pc ls (.int i :: .ref a :: st) M Q ↔ zf_ix1 M 10 a i ∧ zW X mi (pc + 1) ls (.int (zf_I M a i.toNatClampNeg) :: st) M Q :=
  zr_ifAct (c := zf_iN i (zf_n M 10 a) = true) hd (by simp only [zf_do, zf_ia, hn]; rfl)
theorem zr_laload {a : Nat} {i : Int32} (hd : decode (zf_g mi).2.1 pc = .ok (.laload, 1)) : zW X mi pc ls (.int i :: .ref a :: st) M Q ↔ zf_ix1 M 11 a i ∧ zW X mi (pc + 1) ls (.long (zf_J M a i.toNatClampNeg) :: st) M Q :=
  zr_ifAct (c := zf_iN i (zf_n M 11 a) = true) hd rfl
theorem zr_aaload {a : Nat} {i : Int32} (hd : decode (zf_g mi).2.1 pc = .ok (.aaload, 1)) : zW X mi pc ls (.int i :: .ref a :: st) M Q ↔ ((zf_iN i (zf_n M 13 a) = true ∨ zf_iN i (zf_n M 14 a) = true) ∧ zf_P M a i.toNatClampNeg ≠ none) ∧ zW X mi (pc + 1) ls (.ref ((zf_P M a i.toNatClampNeg).getD 0) :: st) M Q :=
  zr_ifAct hd (by
    simp only [zf_do, zf_qa]
    by_cases h : zf_iN i (zf_n M 13 a) = true ∨ zf_iN i (zf_n M 14 a) = true
    · rw [if_pos h]
      cases hp : M.2.2.2 a i.toNatClampNeg with
      | none => rw [if_neg (fun q => q.2 hp)]
      | some b =>
        have hp2 : zf_P M a i.toNatClampNeg = some b := hp
        rw [if_pos ⟨h, by rw [hp2]; exact fun q => by cases q⟩, hp2]
        rfl
    · rw [if_neg h, if_neg (fun q => h q.1)])
theorem zr_iastore {a : Nat} {i x : Int32} (hd : decode (zf_g mi).2.1 pc = .ok (.iastore, 1)) : zW X mi pc ls (.int x :: .int i :: .ref a :: st) M Q ↔ zf_ix1 M 10 a i ∧ zW X mi (pc + 1) ls st (zf_sI M a i.toNatClampNeg x) Q :=
  zr_ifAct (c := zf_iN i (zf_n M 10 a) = true) hd rfl
theorem zr_lastore {a : Nat} {i : Int32} {x : Int64} (hd : decode (zf_g mi).2.1 pc = .ok (.lastore, 1)) : zW X mi pc ls (.long x :: .int i :: .ref a :: st) M Q ↔ zf_ix1 M 11 a i ∧ zW X mi (pc + 1) ls st (zf_sJ M a i.toNatClampNeg x) Q :=
  zr_ifAct (c := zf_iN i (zf_n M 11 a) = true) hd rfl
theorem zr_aastore {a b : Nat} {i : Int32} (hd : decode (zf_g mi).2.1 pc = .ok (.aastore, 1)) : zW X mi pc ls (.ref b :: .int i :: .ref a :: st) M Q ↔ ((zf_iN i (zf_n M 13 a) = true ∧ zf_k M b = 6) ∨ (zf_iN i (zf_n M 14 a) = true ∧ zf_k M b = 7)) ∧ zW X mi (pc + 1) ls st (zf_sP M a i.toNatClampNeg (some b)) Q :=
  zr_ifAct hd rfl
theorem zr_len {a : Nat} (hd : decode (zf_g mi).2.1 pc = .ok (.arraylength, 1)) (hn : zf_fx X a = none) : zW X mi pc ls (.ref a :: st) M Q ↔ (10 ≤ zf_k M a ∧ zf_k M a < 15) ∧ zW X mi (pc + 1) ls (.int (Int32.ofNat (zf_n M (zf_k M a) a)) :: st) M Q :=
  zr_ifAct hd (by
    simp only [zf_do, zf_len, hn]
    unfold zf_n zf_k
    rw [if_pos rfl])
theorem zr_new {k : Nat} (hd : decode (zf_g mi).2.1 pc = .ok (.new idx, 3)) (hv : zf_at zf_cl (zf_g mi).2.2.2.2.1 idx = some k) : zW X mi pc ls st M Q ↔ M.1.length < 1000000 ∧ zW X mi (pc + 3) ls (.ref M.1.length :: st) (zf_new M (k, 0)) Q :=
  zr_ifAct hd (by simp only [zf_do, zf_nw, hv]; rfl)
theorem zr_newarray {t : ArrayType} {n : Int32} (hd : decode (zf_g mi).2.1 pc = .ok (.newarray t, 2)) (ht : zf_nk t = 10 ∨ zf_nk t = 11) (hn : ¬ n < 0 ∧ n.toNatClampNeg ≤ 10000) : zW X mi pc ls (.int n :: st) M Q ↔ M.1.length < 1000000 ∧ zW X mi (pc + 2) ls (.ref M.1.length :: st) (zf_new M (zf_nk t, n.toNatClampNeg)) Q :=
  zr_ifAct hd (by simp only [zf_do, zf_na]; rw [if_pos ⟨hn.1, hn.2, by omega⟩]; rfl)
theorem zr_anewarray {k k2 : Nat} {n : Int32} (hd : decode (zf_g mi).2.1 pc = .ok (.anewarray idx, 3)) (hv : zf_at zf_cl (zf_g mi).2.2.2.2.1 idx = some k) (hk : (k = 6 ∧ k2 = 13) ∨ (k = 7 ∧ k2 = 14)) (hn : ¬ n < 0 ∧ n.toNatClampNeg ≤ 10000) : zW X mi pc ls (.int n :: st) M Q ↔ M.1.length < 1000000 ∧ zW X mi (pc + 3) ls (.ref M.1.length :: st) (zf_new M (k2, n.toNatClampNeg)) Q :=
  zr_ifAct hd (by
    simp only [zf_do, zf_nq, hv]
    rcases hk with ⟨rfl, rfl⟩ | ⟨rfl, rfl⟩
    · rw [if_pos rfl]
      simp only [zf_na]
      rw [if_pos ⟨hn.1, hn.2, by decide⟩]
      rfl
    · rw [if_neg (by decide), if_pos rfl]
      simp only [zf_na]
      rw [if_pos ⟨hn.1, hn.2, by decide⟩]
      rfl)
theorem zr_callAct {i : Instr} {n : Nat} {k pc' : Nat} {as rest : List Value} {c : Prop} [Decidable c] (hd : decode (zf_g mi).2.1 pc = .ok (i, n)) (h : zf_do X mi pc i n ls st M = if c then zf_call k pc' as rest else none) (hl : (lg_sl as).length ≤ (zf_g k).2.2.1) : zW X mi pc ls st M Q ↔ c ∧ zC X k as M (fun v M' => zW X mi pc' ls (v.toList ++ rest) M' Q) := by
  by_cases hc : c
  · rw [if_pos hc] at h
    rw [zW_call (k := k) (as := as) (pc' := pc') (rest := rest) (by unfold zf_act; rw [hd]; exact h.trans (if_pos hl))]
    exact ⟨fun q => ⟨hc, q⟩, fun q => q.2⟩
  · rw [if_neg hc] at h
    exact ⟨fun q => absurd q (zW_none (by unfold zf_act; rw [hd]; exact h)), fun q => absurd q.1 hc⟩
/-- a call of an object's method: the arguments lie above the object -/
theorem zr_virtual {k b : Nat} {av rest : List Value} (hd : decode (zf_g mi).2.1 pc = .ok (.invokevirtual idx, 3)) (hv : zf_at zf_ml (zf_g mi).2.2.2.2.1 idx = some (0, k)) (ht : st.take (zf_g k).2.2.2.2.2.1 = av) (hr : st.drop (zf_g k).2.2.2.2.2.1 = .ref b :: rest) (hn : av.length = (zf_g k).2.2.2.2.2.1) (hro : zf_room mi k = true) (hlo : zf_low rest = true) (hl : (lg_sl (.ref b :: av.reverse)).length ≤ (zf_g k).2.2.1) : zW X mi pc ls st M Q ↔ (zf_k M b = (zf_g k).2.2.2.2.1 ∧ zf_k M b < 10) ∧ zC X k (.ref b :: av.reverse) M (fun v M' => zW X mi (pc + 3) ls (v.toList ++ rest) M' Q) :=
  zr_callAct hd (by
    simp only [zf_do, zf_iv, hv, ht, hr]
    by_cases h : zf_k M b = (zf_g k).2.2.2.2.1 ∧ zf_k M b < 10
    · rw [if_pos h, if_pos ⟨h, hn, hro, hlo⟩]
    · rw [if_neg h, if_neg (fun q => h q.1)]) hl
theorem zr_static {k : Nat} {av rest : List Value} {kd : Nat} (hkd : kd = 1 ∨ kd = 8) (hd : decode (zf_g mi).2.1 pc = .ok (.invokestatic idx, 3)) (hv : zf_at zf_ml (zf_g mi).2.2.2.2.1 idx = some (kd, k)) (ht : st.take (zf_g k).2.2.2.2.2.1 = av) (hr : st.drop (zf_g k).2.2.2.2.2.1 = rest) (hn : av.length = (zf_g k).2.2.2.2.2.1) (hro : zf_room mi k = true) (hlo : zf_low rest = true) (hl : (lg_sl av.reverse).length ≤ (zf_g k).2.2.1) : zW X mi pc ls st M Q ↔ zC X k av.reverse M (fun v M' => zW X mi (pc + 3) ls (v.toList ++ rest) M' Q) := by
  rw [zr_callAct (c := True) (k := k) (as := av.reverse) (rest := rest) (pc' := pc + 3) hd (by
    rcases hkd with rfl | rfl <;> simp only [zf_do, zf_iz, hv, ht, hr] <;> rw [if_pos ⟨hn, hro, hlo⟩, if_pos trivial]) hl]
  exact ⟨fun q => q.2, fun q => ⟨trivial, q⟩⟩
theorem zr_init {k b : Nat} {av rest : List Value} {kd : Nat} (hkd : kd = 2 ∨ kd = 7) (hd : decode (zf_g mi).2.1 pc = .ok (.invokespecial idx, 3)) (hv : zf_at zf_ml (zf_g mi).2.2.2.2.1 idx = some (kd, k)) (ht : st.take (zf_g k).2.2.2.2.2.1 = av) (hr : st.drop (zf_g k).2.2.2.2.2.1 = .ref b :: rest) (hn : av.length = (zf_g k).2.2.2.2.2.1) (hro : zf_room mi k = true) (hlo : zf_low rest = true) (hl : (lg_sl (.ref b :: av.reverse)).length ≤ (zf_g k).2.2.1) : zW X mi pc ls st M Q ↔ zC X k (.ref b :: av.reverse) M (fun v M' => zW X mi (pc + 3) ls (v.toList ++ rest) M' Q) := by
  rw [zr_callAct (c := True) (k := k) (as := .ref b :: av.reverse) (rest := rest) (pc' := pc + 3) hd (by
    rcases hkd with rfl | rfl <;> simp only [zf_do, zf_ix, hv, ht, hr] <;> rw [if_pos ⟨hn, hro, hlo⟩, if_pos trivial]) hl]
  exact ⟨fun q => q.2, fun q => ⟨trivial, q⟩⟩
theorem zr_obj {b q0 : Nat} (hd : decode (zf_g mi).2.1 pc = .ok (.invokespecial idx, 3)) (hv : zf_at zf_ml (zf_g mi).2.2.2.2.1 idx = some (3, q0)) (hc : zf_low st = true ∧ 1 ≤ (zf_g mi).2.2.2.2.2.2.2.1 ∧ 20 ≤ (zf_g mi).2.2.2.2.2.2.2.2) : zW X mi pc ls (.ref b :: st) M Q ↔ zW X mi (pc + 3) ls st M Q :=
  zr_ofAct hd (by simp only [zf_do, zf_ix, hv]; rw [if_pos hc])
theorem zr_max {q0 : Nat} {x y : Int32} (hd : decode (zf_g mi).2.1 pc = .ok (.invokestatic idx, 3)) (hv : zf_at zf_ml (zf_g mi).2.2.2.2.1 idx = some (4, q0)) (hc : zf_low st = true ∧ 1 ≤ (zf_g mi).2.2.2.2.2.2.2.1 ∧ 21 ≤ (zf_g mi).2.2.2.2.2.2.2.2) : zW X mi pc ls (.int y :: .int x :: st) M Q ↔ zW X mi (pc + 3) ls (.int (if x < y then y else x) :: st) M Q :=
  zr_ofAct hd (by simp only [zf_do, zf_iz, hv]; rw [if_pos hc])
theorem zr_min {q0 : Nat} {x y : Int32} (hd : decode (zf_g mi).2.1 pc = .ok (.invokestatic idx, 3)) (hv : zf_at zf_ml (zf_g mi).2.2.2.2.1 idx = some (5, q0)) (hc : zf_low st = true ∧ 1 ≤ (zf_g mi).2.2.2.2.2.2.2.1 ∧ 21 ≤ (zf_g mi).2.2.2.2.2.2.2.2) : zW X mi pc ls (.int y :: .int x :: st) M Q ↔ zW X mi (pc + 3) ls (.int (if y < x then y else x) :: st) M Q :=
  zr_ofAct hd (by simp only [zf_do, zf_iz, hv]; rw [if_pos hc])
theorem zr_copy {q0 a b : Nat} {i j n : Int32} (hd : decode (zf_g mi).2.1 pc = .ok (.invokestatic idx, 3)) (hv : zf_at zf_ml (zf_g mi).2.2.2.2.1 idx = some (6, q0)) (hc : zf_low st = true ∧ 1 ≤ (zf_g mi).2.2.2.2.2.2.2.1 ∧ 26 ≤ (zf_g mi).2.2.2.2.2.2.2.2) : zW X mi pc ls (.int n :: .int j :: .ref b :: .int i :: .ref a :: st) M Q ↔ (¬ i < 0 ∧ ¬ j < 0 ∧ ¬ n < 0 ∧ i.toNatClampNeg + n.toNatClampNeg ≤ zf_n M 10 a ∧ j.toNatClampNeg + n.toNatClampNeg ≤ zf_n M 10 b ∧ zf_k M a = 10 ∧ zf_k M b = 10) ∧ zW X mi (pc + 3) ls st (zf_cpy M a b i.toNatClampNeg j.toNatClampNeg n.toNatClampNeg) Q :=
  zr_ifAct hd (by
    simp only [zf_do, zf_iz, hv]
    by_cases h : ¬ i < 0 ∧ ¬ j < 0 ∧ ¬ n < 0 ∧ i.toNatClampNeg + n.toNatClampNeg ≤ zf_n M 10 a ∧ j.toNatClampNeg + n.toNatClampNeg ≤ zf_n M 10 b ∧ zf_k M a = 10 ∧ zf_k M b = 10
    · rw [if_pos h, if_pos ⟨hc.1, hc.2.1, hc.2.2, h⟩]
    · rw [if_neg h, if_neg (fun q => h q.2.2.2)])
theorem zr_retAct {i : Instr} {n : Nat} {r : Option Value} {c : Prop} [Decidable c] (hd : decode (zf_g mi).2.1 pc = .ok (i, n)) (h : zf_do X mi pc i n ls st M = if c then some (.inr (.inl r)) else none) : zW X mi pc ls st M Q ↔ c ∧ Q r M := by
  by_cases hc : c
  · rw [if_pos hc] at h
    rw [zW_ret (v := r) (by unfold zf_act; rw [hd]; exact h)]
    exact ⟨fun q => ⟨hc, q⟩, fun q => q.2⟩
  · rw [if_neg hc] at h
    exact ⟨fun q => absurd q (zW_none (by unfold zf_act; rw [hd]; exact h)), fun q => absurd q.1 hc⟩
theorem zr_iret {v : Int32} (hd : decode (zf_g mi).2.1 pc = .ok (.ireturn, 1)) (hr : (zf_g mi).2.2.2.1 = some .int) : zW X mi pc ls [.int v] M Q ↔ Q (some (.int v)) M := by
  rw [zr_retAct (r := some (.int v)) hd (by simp only [zf_do, zf_iret]; rfl)]
  exact ⟨fun q => q.2, fun q => ⟨Or.inl hr, q⟩⟩
theorem zr_zret {v : Int32} (hd : decode (zf_g mi).2.1 pc = .ok (.ireturn, 1)) (hr : (zf_g mi).2.2.2.1 = some .boolean) : zW X mi pc ls [.int v] M Q ↔ vp_nar .boolean v = v ∧ Q (some (.int v)) M := by
  rw [zr_retAct (r := some (.int v)) hd (by simp only [zf_do, zf_iret]; rfl)]
  rw [hr]
  exact ⟨fun q => ⟨q.1.elim (fun z => by cases z) (fun z => z.2), q.2⟩, fun q => ⟨Or.inr ⟨rfl, q.1⟩, q.2⟩⟩
theorem zr_jret {v : Int64} (hd : decode (zf_g mi).2.1 pc = .ok (.lreturn, 1)) (hr : (zf_g mi).2.2.2.1 = some .long) : zW X mi pc ls [.long v] M Q ↔ Q (some (.long v)) M := by
  rw [zr_retAct (r := some (.long v)) hd (by simp only [zf_do, zf_jret]; rfl)]
  exact ⟨fun q => q.2, fun q => ⟨hr, q⟩⟩
theorem zr_vret (hd : decode (zf_g mi).2.1 pc = .ok (.return_, 1)) (hr : (zf_g mi).2.2.2.1 = none) : zW X mi pc ls [] M Q ↔ Q none M := by
  rw [zr_retAct (r := none) hd (by simp only [zf_do, zf_vret]; rfl)]
  exact ⟨fun q => q.2, fun q => ⟨hr, q⟩⟩
end ZU
