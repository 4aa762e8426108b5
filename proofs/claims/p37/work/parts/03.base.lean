/-! ===== the abstract machine: a memory of numbers, references are numbers of cells in the order of making ===== -/
/-- memory: kinds of the cells made so far (kind, length), ints, longs, references -/
abbrev zf_M : Type := List (Nat × Nat) × (Nat → Nat → Int32) × (Nat → Nat → Int64) × (Nat → Nat → Option Nat)
def zf_u {α : Type} (f : Nat → Nat → α) (a k : Nat) (v : α) : Nat → Nat → α := fun b j => if b = a then (if j = k then v else f b j) else f b j
def zf_r {α : Type} (f : Nat → Nat → α) (a : Nat) (g : Nat → α) : Nat → Nat → α := fun b => if b = a then g else f b
def zf_sh (M : zf_M) : List (Nat × Nat) := M.1
def zf_I (M : zf_M) (a k : Nat) : Int32 := M.2.1 a k
def zf_J (M : zf_M) (a k : Nat) : Int64 := M.2.2.1 a k
def zf_P (M : zf_M) (a k : Nat) : Option Nat := M.2.2.2 a k
def zf_sI (M : zf_M) (a k : Nat) (v : Int32) : zf_M := (M.1, zf_u M.2.1 a k v, M.2.2.1, M.2.2.2)
def zf_sJ (M : zf_M) (a k : Nat) (v : Int64) : zf_M := (M.1, M.2.1, zf_u M.2.2.1 a k v, M.2.2.2)
def zf_sP (M : zf_M) (a k : Nat) (v : Option Nat) : zf_M := (M.1, M.2.1, M.2.2.1, zf_u M.2.2.2 a k v)
/-- a cell more, all its places zero -/
def zf_new (M : zf_M) (kn : Nat × Nat) : zf_M := (M.1 ++ [kn], zf_r M.2.1 M.1.length (fun _ => 0), zf_r M.2.2.1 M.1.length (fun _ => 0), zf_r M.2.2.2 M.1.length (fun _ => none))
def zf_k (M : zf_M) (a : Nat) : Nat := (M.1.getD a (99, 0)).1
/-- the length of an array of a kind; 0 if it isn't one -/
def zf_n (M : zf_M) (k a : Nat) : Nat := if (M.1.getD a (99, 0)).1 = k then (M.1.getD a (99, 0)).2 else 0
/-- kinds 10 .. 14: int[], long[], boolean[], Row[], Sheet[]; below: the classes of vwCl -/
def zf_kt (k : Nat) : FieldType := match k with
  | 10 => .int
  | 11 => .long
  | 12 => .int
  | 13 => .object RX6
  | _ => .object RX7
def zf_cN (k : Nat) : Nat := match k with
  | 0 => 4 | 1 => 6 | 2 => 11 | 3 => 5 | 4 => 8 | 5 => 2 | 6 => 2 | 7 => 4 | 8 => 13 | 9 => 4 | _ => 0
def zf_cT (k : Nat) : u_T := match k with
  | 0 => TX0 | 1 => TX1 | 2 => TX2 | 3 => TX3 | 4 => TX4 | 5 => TX5 | 6 => TX6 | 7 => TX7 | 8 => TX8 | _ => TX0
def zf_cR (k : Nat) : String := match k with
  | 0 => RX0 | 1 => RX1 | 2 => RX2 | 3 => RX3 | 4 => RX4 | 5 => RX5 | 6 => RX6 | 7 => RX7 | 8 => RX8 | _ => RX0
def zf_ct (k : Nat) : Nat → FieldType := match k with
  | 0 => tyX0 | 1 => tyX1 | 2 => tyX2 | 3 => tyX3 | 4 => tyX4 | 5 => tyX5 | 6 => tyX6 | 7 => tyX7 | 8 => tyX8 | _ => tyX0
/-- how many places a cell has -/
def zf_size (kn : Nat × Nat) : Nat := if kn.1 < 10 then zf_cN kn.1 else kn.2
def zf_sum (l : List (Nat × Nat)) : Nat := (l.map zf_size).sum
/-- a value of the abstract machine as one of the machine's: a reference's address -/
def zf_v (ad : Nat → Nat) (v : Value) : Value := match v with
  | .ref a => .ref (ad a)
  | v => v
/-- a field's value -/
def zf_fv (ad : Nat → Nat) (M : zf_M) (ty : FieldType) (a j : Nat) : Value := match ty with
  | .long => .long (M.2.2.1 a j)
  | .object _ => va_rf ((M.2.2.2 a j).map ad)
  | .array _ => va_rf ((M.2.2.2 a j).map ad)
  | _ => .int (M.2.1 a j)
def zf_fs (ad : Nat → Nat) (M : zf_M) (c a : Nat) : List Value := (List.range (zf_cN c)).map (fun j => zf_fv ad M (zf_ct c j) a j)
def zf_ce (ad : Nat → Nat) (cy : Nat → ClassId) (M : zf_M) (a : Nat) (kn : Nat × Nat) : va_E :=
  if kn.1 < 10 then .inr (kn.1, zf_fs ad M kn.1 a)
  else if kn.1 = 11 then .inl (cy 11, kn.2, .inr (.inl (M.2.2.1 a)))
  else if kn.1 = 10 then .inl (cy 10, kn.2, .inl (M.2.1 a))
  else if kn.1 = 12 then .inl (cy 12, kn.2, .inl (M.2.1 a))
  else .inl (cy kn.1, kn.2, .inr (.inr (.inr (.inr (fun j => (M.2.2.2 a j).map ad)))))
def zf_w (ad : Nat → Nat) (cy : Nat → ClassId) (M : zf_M) : va_W := M.1.mapIdx (fun a kn => (ad a, zf_ce ad cy M a kn))
/-- the kinds of arrays, as the tables have them -/
def zf_ty (cy : Nat → ClassId) : List (ClassId × FieldType) := [(cy 10, .int), (cy 11, .long), (cy 12, .int), (cy 13, .object RX6), (cy 14, .object RX7)]
theorem zf_wg {ad : Nat → Nat} {cy : Nat → ClassId} {M : zf_M} {a : Nat} {kn : Nat × Nat} (h : M.1[a]? = some kn) : (zf_w ad cy M)[a]? = some (ad a, zf_ce ad cy M a kn) := by
  simp [zf_w, List.getElem?_mapIdx, h]
/-- one cell is another, all else stays -/
theorem zf_ws {ad : Nat → Nat} {cy : Nat → ClassId} {M M' : zf_M} {a : Nat} {kn : Nat × Nat} {e : va_E} (h : M.1[a]? = some kn) (hs : M'.1 = M.1) (he : zf_ce ad cy M' a kn = e) (ho : ∀ b, b ≠ a → M'.2.1 b = M.2.1 b ∧ M'.2.2.1 b = M.2.2.1 b ∧ M'.2.2.2 b = M.2.2.2 b) : (zf_w ad cy M).set a (ad a, e) = zf_w ad cy M' := by
  have hl : a < M.1.length := (List.getElem?_eq_some_iff.mp h).1
  apply List.ext_getElem?
  intro b
  by_cases hb : b = a
  · subst hb
    rw [List.getElem?_set_self (by simpa [zf_w] using hl), zf_wg (hs ▸ h), he]
  · rw [List.getElem?_set_ne (Ne.symm hb)]
    simp only [zf_w, List.getElem?_mapIdx, hs]
    obtain ⟨h1, h2, h3⟩ := ho b hb
    have hfv : ∀ ty j, zf_fv ad M' ty b j = zf_fv ad M ty b j := by
      intro ty j
      cases ty <;> simp only [zf_fv, h1, h2, h3]
    have hce : ∀ q, zf_ce ad cy M' b q = zf_ce ad cy M b q := by
      intro q
      simp only [zf_ce, zf_fs, h1, h2, h3, hfv]
    simp only [hce]
theorem zf_uo {α : Type} {f : Nat → Nat → α} {a k b : Nat} {v : α} (h : b ≠ a) : zf_u f a k v b = f b := by
  funext j
  simp [zf_u, h]
theorem zf_us {α : Type} {f : Nat → Nat → α} {a k : Nat} {v : α} : zf_u f a k v a = fun j => if j = k then v else f a j := by
  funext j
  simp [zf_u]
