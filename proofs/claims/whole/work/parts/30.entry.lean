/-! ===== printed by wip/whole/gen_c.py: entries of methods, switches, the shape of the memory ===== -/
theorem zf_enE {k : Nat} {E : zf_E} {as : List Value} {l : List Slot} (hg : zf_g k = E) (h : lg_sl as ++ List.replicate (E.2.2.1 - (lg_sl as).length) Slot.unset = l) : zf_en k as = l := by subst hg; exact h
theorem zC_en {X : zf_X} {k : Nat} {E : zf_E} {as : List Value} {l : List Slot} {M : zf_M} {Q : Option Value → zf_M → Prop} (hg : zf_g k = E) (h : lg_sl as ++ List.replicate (E.2.2.1 - (lg_sl as).length) Slot.unset = l) : zC X k as M Q ↔ zW X k 0 l [] M Q := by unfold zC; rw [zf_enE hg h]
theorem c0 {X : zf_X} {M : zf_M} {Q : Option Value → zf_M → Prop} {a0 : Nat} : zC X 0 [.ref a0] M Q ↔ zW X 0 0 [.val (.ref a0)] [] M Q := zC_en zf_g0 rfl
theorem c1 {X : zf_X} {M : zf_M} {Q : Option Value → zf_M → Prop} {a0 : Nat} {a1 : Nat} {a2 : Nat} : zC X 1 [.ref a0, .ref a1, .ref a2] M Q ↔ zW X 1 0 [.val (.ref a0), .val (.ref a1), .val (.ref a2), .unset, .unset, .unset, .unset, .unset, .unset, .unset, .unset, .unset] [] M Q := zC_en zf_g1 rfl
theorem c2 {X : zf_X} {M : zf_M} {Q : Option Value → zf_M → Prop} {a0 : Nat} {a1 : Nat} {a2 : Int64} : zC X 2 [.ref a0, .ref a1, .long a2] M Q ↔ zW X 2 0 [.val (.ref a0), .val (.ref a1), .val (.long a2), .second, .unset, .unset] [] M Q := zC_en zf_g2 rfl
theorem c3 {X : zf_X} {M : zf_M} {Q : Option Value → zf_M → Prop} {a0 : Nat} : zC X 3 [.ref a0] M Q ↔ zW X 3 0 [.val (.ref a0), .unset] [] M Q := zC_en zf_g3 rfl
theorem c4 {X : zf_X} {M : zf_M} {Q : Option Value → zf_M → Prop} {a0 : Nat} {a1 : Int32} : zC X 4 [.ref a0, .int a1] M Q ↔ zW X 4 0 [.val (.ref a0), .val (.int a1), .unset, .unset] [] M Q := zC_en zf_g4 rfl
theorem c5 {X : zf_X} {M : zf_M} {Q : Option Value → zf_M → Prop} {a0 : Nat} : zC X 5 [.ref a0] M Q ↔ zW X 5 0 [.val (.ref a0), .unset, .unset, .unset, .unset, .unset] [] M Q := zC_en zf_g5 rfl
theorem c6 {X : zf_X} {M : zf_M} {Q : Option Value → zf_M → Prop} {a0 : Nat} : zC X 6 [.ref a0] M Q ↔ zW X 6 0 [.val (.ref a0)] [] M Q := zC_en zf_g6 rfl
theorem c7 {X : zf_X} {M : zf_M} {Q : Option Value → zf_M → Prop} {a0 : Nat} {a1 : Int32} {a2 : Int32} {a3 : Int32} : zC X 7 [.ref a0, .int a1, .int a2, .int a3] M Q ↔ zW X 7 0 [.val (.ref a0), .val (.int a1), .val (.int a2), .val (.int a3)] [] M Q := zC_en zf_g7 rfl
theorem c8 {X : zf_X} {M : zf_M} {Q : Option Value → zf_M → Prop} {a0 : Nat} {a1 : Int32} {a2 : Nat} {a3 : Int32} {a4 : Int32} : zC X 8 [.ref a0, .int a1, .ref a2, .int a3, .int a4] M Q ↔ zW X 8 0 [.val (.ref a0), .val (.int a1), .val (.ref a2), .val (.int a3), .val (.int a4), .unset] [] M Q := zC_en zf_g8 rfl
theorem c9 {X : zf_X} {M : zf_M} {Q : Option Value → zf_M → Prop} {a0 : Nat} : zC X 9 [.ref a0] M Q ↔ zW X 9 0 [.val (.ref a0), .unset, .unset, .unset, .unset] [] M Q := zC_en zf_g9 rfl
theorem c10 {X : zf_X} {M : zf_M} {Q : Option Value → zf_M → Prop} {a0 : Int64} : zC X 10 [.long a0] M Q ↔ zW X 10 0 [.val (.long a0), .second] [] M Q := zC_en zf_g10 rfl
theorem c11 {X : zf_X} {M : zf_M} {Q : Option Value → zf_M → Prop} {a0 : Int64} {a1 : Int32} : zC X 11 [.long a0, .int a1] M Q ↔ zW X 11 0 [.val (.long a0), .second, .val (.int a1)] [] M Q := zC_en zf_g11 rfl
theorem c12 {X : zf_X} {M : zf_M} {Q : Option Value → zf_M → Prop} {a0 : Int32} : zC X 12 [.int a0] M Q ↔ zW X 12 0 [.val (.int a0)] [] M Q := zC_en zf_g12 rfl
theorem c13 {X : zf_X} {M : zf_M} {Q : Option Value → zf_M → Prop} {a0 : Nat} {a1 : Int64} {a2 : Int32} {a3 : Int32} : zC X 13 [.ref a0, .long a1, .int a2, .int a3] M Q ↔ zW X 13 0 [.val (.ref a0), .val (.long a1), .second, .val (.int a2), .val (.int a3), .unset] [] M Q := zC_en zf_g13 rfl
theorem c14 {X : zf_X} {M : zf_M} {Q : Option Value → zf_M → Prop} {a0 : Nat} {a1 : Int64} {a2 : Int32} : zC X 14 [.ref a0, .long a1, .int a2] M Q ↔ zW X 14 0 [.val (.ref a0), .val (.long a1), .second, .val (.int a2)] [] M Q := zC_en zf_g14 rfl
theorem c15 {X : zf_X} {M : zf_M} {Q : Option Value → zf_M → Prop} {a0 : Nat} {a1 : Int64} {a2 : Int32} : zC X 15 [.ref a0, .long a1, .int a2] M Q ↔ zW X 15 0 [.val (.ref a0), .val (.long a1), .second, .val (.int a2)] [] M Q := zC_en zf_g15 rfl
theorem c16 {X : zf_X} {M : zf_M} {Q : Option Value → zf_M → Prop} {a0 : Nat} {a1 : Int32} : zC X 16 [.ref a0, .int a1] M Q ↔ zW X 16 0 [.val (.ref a0), .val (.int a1)] [] M Q := zC_en zf_g16 rfl
theorem c17 {X : zf_X} {M : zf_M} {Q : Option Value → zf_M → Prop} {a0 : Nat} {a1 : Int64} {a2 : Int32} : zC X 17 [.ref a0, .long a1, .int a2] M Q ↔ zW X 17 0 [.val (.ref a0), .val (.long a1), .second, .val (.int a2), .unset] [] M Q := zC_en zf_g17 rfl
theorem c18 {X : zf_X} {M : zf_M} {Q : Option Value → zf_M → Prop} {a0 : Nat} {a1 : Int64} {a2 : Int32} {a3 : Int32} : zC X 18 [.ref a0, .long a1, .int a2, .int a3] M Q ↔ zW X 18 0 [.val (.ref a0), .val (.long a1), .second, .val (.int a2), .val (.int a3), .unset, .unset, .unset, .unset] [] M Q := zC_en zf_g18 rfl
theorem c19 {X : zf_X} {M : zf_M} {Q : Option Value → zf_M → Prop} {a0 : Nat} {a1 : Int64} {a2 : Int32} {a3 : Int32} : zC X 19 [.ref a0, .long a1, .int a2, .int a3] M Q ↔ zW X 19 0 [.val (.ref a0), .val (.long a1), .second, .val (.int a2), .val (.int a3), .unset, .unset, .unset] [] M Q := zC_en zf_g19 rfl
theorem c20 {X : zf_X} {M : zf_M} {Q : Option Value → zf_M → Prop} {a0 : Int64} {a1 : Int32} {a2 : Int32} : zC X 20 [.long a0, .int a1, .int a2] M Q ↔ zW X 20 0 [.val (.long a0), .second, .val (.int a1), .val (.int a2), .unset, .unset] [] M Q := zC_en zf_g20 rfl
theorem c21 {X : zf_X} {M : zf_M} {Q : Option Value → zf_M → Prop} {a0 : Nat} {a1 : Int64} {a2 : Int32} {a3 : Int32} : zC X 21 [.ref a0, .long a1, .int a2, .int a3] M Q ↔ zW X 21 0 [.val (.ref a0), .val (.long a1), .second, .val (.int a2), .val (.int a3), .unset] [] M Q := zC_en zf_g21 rfl
theorem c22 {X : zf_X} {M : zf_M} {Q : Option Value → zf_M → Prop} {a0 : Nat} : zC X 22 [.ref a0] M Q ↔ zW X 22 0 [.val (.ref a0)] [] M Q := zC_en zf_g22 rfl
theorem c23 {X : zf_X} {M : zf_M} {Q : Option Value → zf_M → Prop} {a0 : Nat} : zC X 23 [.ref a0] M Q ↔ zW X 23 0 [.val (.ref a0), .unset] [] M Q := zC_en zf_g23 rfl
theorem c24 {X : zf_X} {M : zf_M} {Q : Option Value → zf_M → Prop} {a0 : Nat} {a1 : Int64} {a2 : Int64} : zC X 24 [.ref a0, .long a1, .long a2] M Q ↔ zW X 24 0 [.val (.ref a0), .val (.long a1), .second, .val (.long a2), .second, .unset, .unset, .unset] [] M Q := zC_en zf_g24 rfl
theorem c25 {X : zf_X} {M : zf_M} {Q : Option Value → zf_M → Prop} {a0 : Nat} {a1 : Int32} {a2 : Int64} {a3 : Int64} : zC X 25 [.ref a0, .int a1, .long a2, .long a3] M Q ↔ zW X 25 0 [.val (.ref a0), .val (.int a1), .val (.long a2), .second, .val (.long a3), .second] [] M Q := zC_en zf_g25 rfl
theorem c26 {X : zf_X} {M : zf_M} {Q : Option Value → zf_M → Prop} {a0 : Nat} : zC X 26 [.ref a0] M Q ↔ zW X 26 0 [.val (.ref a0)] [] M Q := zC_en zf_g26 rfl
theorem c27 {X : zf_X} {M : zf_M} {Q : Option Value → zf_M → Prop} {a0 : Nat} {a1 : Nat} : zC X 27 [.ref a0, .ref a1] M Q ↔ zW X 27 0 [.val (.ref a0), .val (.ref a1), .unset, .unset, .unset, .unset, .unset, .unset, .unset] [] M Q := zC_en zf_g27 rfl
theorem c28 {X : zf_X} {M : zf_M} {Q : Option Value → zf_M → Prop} {a0 : Nat} {a1 : Int32} {a2 : Int32} {a3 : Int32} : zC X 28 [.ref a0, .int a1, .int a2, .int a3] M Q ↔ zW X 28 0 [.val (.ref a0), .val (.int a1), .val (.int a2), .val (.int a3), .unset] [] M Q := zC_en zf_g28 rfl
theorem c29 {X : zf_X} {M : zf_M} {Q : Option Value → zf_M → Prop} {a0 : Nat} : zC X 29 [.ref a0] M Q ↔ zW X 29 0 [.val (.ref a0), .unset, .unset, .unset, .unset, .unset] [] M Q := zC_en zf_g29 rfl
theorem c30 {X : zf_X} {M : zf_M} {Q : Option Value → zf_M → Prop} {a0 : Nat} : zC X 30 [.ref a0] M Q ↔ zW X 30 0 [.val (.ref a0), .unset] [] M Q := zC_en zf_g30 rfl
theorem c31 {X : zf_X} {M : zf_M} {Q : Option Value → zf_M → Prop} {a0 : Int32} : zC X 31 [.int a0] M Q ↔ zW X 31 0 [.val (.int a0), .unset, .unset, .unset] [] M Q := zC_en zf_g31 rfl
theorem c32 {X : zf_X} {M : zf_M} {Q : Option Value → zf_M → Prop} {a0 : Nat} {a1 : Nat} {a2 : Int32} {a3 : Int32} {a4 : Int32} : zC X 32 [.ref a0, .ref a1, .int a2, .int a3, .int a4] M Q ↔ zW X 32 0 [.val (.ref a0), .val (.ref a1), .val (.int a2), .val (.int a3), .val (.int a4), .unset, .unset, .unset, .unset, .unset, .unset, .unset] [] M Q := zC_en zf_g32 rfl
theorem c33 {X : zf_X} {M : zf_M} {Q : Option Value → zf_M → Prop} {a0 : Nat} {a1 : Nat} {a2 : Int64} {a3 : Int64} {a4 : Int32} {a5 : Int32} : zC X 33 [.ref a0, .ref a1, .long a2, .long a3, .int a4, .int a5] M Q ↔ zW X 33 0 [.val (.ref a0), .val (.ref a1), .val (.long a2), .second, .val (.long a3), .second, .val (.int a4), .val (.int a5), .unset] [] M Q := zC_en zf_g33 rfl
theorem c34 {X : zf_X} {M : zf_M} {Q : Option Value → zf_M → Prop} {a0 : Nat} {a1 : Nat} {a2 : Int64} {a3 : Int64} {a4 : Int32} {a5 : Int32} : zC X 34 [.ref a0, .ref a1, .long a2, .long a3, .int a4, .int a5] M Q ↔ zW X 34 0 [.val (.ref a0), .val (.ref a1), .val (.long a2), .second, .val (.long a3), .second, .val (.int a4), .val (.int a5), .unset, .unset, .unset, .unset] [] M Q := zC_en zf_g34 rfl
theorem c35 {X : zf_X} {M : zf_M} {Q : Option Value → zf_M → Prop} {a0 : Nat} : zC X 35 [.ref a0] M Q ↔ zW X 35 0 [.val (.ref a0)] [] M Q := zC_en zf_g35 rfl
theorem c36 {X : zf_X} {M : zf_M} {Q : Option Value → zf_M → Prop} {a0 : Int32} {a1 : Int32} : zC X 36 [.int a0, .int a1] M Q ↔ zW X 36 0 [.val (.int a0), .val (.int a1)] [] M Q := zC_en zf_g36 rfl
theorem c37 {X : zf_X} {M : zf_M} {Q : Option Value → zf_M → Prop} {a0 : Nat} {a1 : Int32} : zC X 37 [.ref a0, .int a1] M Q ↔ zW X 37 0 [.val (.ref a0), .val (.int a1)] [] M Q := zC_en zf_g37 rfl
theorem c38 {X : zf_X} {M : zf_M} {Q : Option Value → zf_M → Prop} {a0 : Nat} {a1 : Int32} {a2 : Int32} : zC X 38 [.ref a0, .int a1, .int a2] M Q ↔ zW X 38 0 [.val (.ref a0), .val (.int a1), .val (.int a2)] [] M Q := zC_en zf_g38 rfl
theorem c39 {X : zf_X} {M : zf_M} {Q : Option Value → zf_M → Prop} {a0 : Nat} {a1 : Int32} {a2 : Int32} {a3 : Int32} : zC X 39 [.ref a0, .int a1, .int a2, .int a3] M Q ↔ zW X 39 0 [.val (.ref a0), .val (.int a1), .val (.int a2), .val (.int a3)] [] M Q := zC_en zf_g39 rfl
theorem c40 {X : zf_X} {M : zf_M} {Q : Option Value → zf_M → Prop} {a0 : Nat} : zC X 40 [.ref a0] M Q ↔ zW X 40 0 [.val (.ref a0)] [] M Q := zC_en zf_g40 rfl
theorem c41 {X : zf_X} {M : zf_M} {Q : Option Value → zf_M → Prop} {a0 : Nat} {a1 : Int32} {a2 : Int32} {a3 : Int32} {a4 : Int32} : zC X 41 [.ref a0, .int a1, .int a2, .int a3, .int a4] M Q ↔ zW X 41 0 [.val (.ref a0), .val (.int a1), .val (.int a2), .val (.int a3), .val (.int a4)] [] M Q := zC_en zf_g41 rfl
theorem c42 {X : zf_X} {M : zf_M} {Q : Option Value → zf_M → Prop} {a0 : Nat} {a1 : Int32} : zC X 42 [.ref a0, .int a1] M Q ↔ zW X 42 0 [.val (.ref a0), .val (.int a1)] [] M Q := zC_en zf_g42 rfl
theorem c43 {X : zf_X} {M : zf_M} {Q : Option Value → zf_M → Prop} {a0 : Nat} : zC X 43 [.ref a0] M Q ↔ zW X 43 0 [.val (.ref a0)] [] M Q := zC_en zf_g43 rfl
theorem c44 {X : zf_X} {M : zf_M} {Q : Option Value → zf_M → Prop} {a0 : Nat} {a1 : Int32} {a2 : Int32} : zC X 44 [.ref a0, .int a1, .int a2] M Q ↔ zW X 44 0 [.val (.ref a0), .val (.int a1), .val (.int a2), .unset] [] M Q := zC_en zf_g44 rfl
theorem c45 {X : zf_X} {M : zf_M} {Q : Option Value → zf_M → Prop} {a0 : Nat} {a1 : Int32} : zC X 45 [.ref a0, .int a1] M Q ↔ zW X 45 0 [.val (.ref a0), .val (.int a1)] [] M Q := zC_en zf_g45 rfl
theorem c46 {X : zf_X} {M : zf_M} {Q : Option Value → zf_M → Prop} {a0 : Nat} {a1 : Int32} {a2 : Int32} : zC X 46 [.ref a0, .int a1, .int a2] M Q ↔ zW X 46 0 [.val (.ref a0), .val (.int a1), .val (.int a2)] [] M Q := zC_en zf_g46 rfl
theorem c47 {X : zf_X} {M : zf_M} {Q : Option Value → zf_M → Prop} {a0 : Nat} {a1 : Int32} : zC X 47 [.ref a0, .int a1] M Q ↔ zW X 47 0 [.val (.ref a0), .val (.int a1)] [] M Q := zC_en zf_g47 rfl
theorem c48 {X : zf_X} {M : zf_M} {Q : Option Value → zf_M → Prop} {a0 : Nat} {a1 : Int32} {a2 : Int32} : zC X 48 [.ref a0, .int a1, .int a2] M Q ↔ zW X 48 0 [.val (.ref a0), .val (.int a1), .val (.int a2)] [] M Q := zC_en zf_g48 rfl
theorem c49 {X : zf_X} {M : zf_M} {Q : Option Value → zf_M → Prop} {a0 : Nat} : zC X 49 [.ref a0] M Q ↔ zW X 49 0 [.val (.ref a0), .unset] [] M Q := zC_en zf_g49 rfl
theorem c50 {X : zf_X} {M : zf_M} {Q : Option Value → zf_M → Prop} {a0 : Nat} {a1 : Int32} {a2 : Int32} {a3 : Int32} {a4 : Int32} {a5 : Int32} {a6 : Int32} : zC X 50 [.ref a0, .int a1, .int a2, .int a3, .int a4, .int a5, .int a6] M Q ↔ zW X 50 0 [.val (.ref a0), .val (.int a1), .val (.int a2), .val (.int a3), .val (.int a4), .val (.int a5), .val (.int a6), .unset, .unset] [] M Q := zC_en zf_g50 rfl
theorem c51 {X : zf_X} {M : zf_M} {Q : Option Value → zf_M → Prop} {a0 : Nat} {a1 : Int32} {a2 : Int32} : zC X 51 [.ref a0, .int a1, .int a2] M Q ↔ zW X 51 0 [.val (.ref a0), .val (.int a1), .val (.int a2)] [] M Q := zC_en zf_g51 rfl
theorem c52 {X : zf_X} {M : zf_M} {Q : Option Value → zf_M → Prop} {a0 : Nat} {a1 : Int32} {a2 : Int32} {a3 : Int32} : zC X 52 [.ref a0, .int a1, .int a2, .int a3] M Q ↔ zW X 52 0 [.val (.ref a0), .val (.int a1), .val (.int a2), .val (.int a3), .unset] [] M Q := zC_en zf_g52 rfl
theorem c53 {X : zf_X} {M : zf_M} {Q : Option Value → zf_M → Prop} {a0 : Nat} {a1 : Int32} {a2 : Int32} {a3 : Int32} {a4 : Int32} : zC X 53 [.ref a0, .int a1, .int a2, .int a3, .int a4] M Q ↔ zW X 53 0 [.val (.ref a0), .val (.int a1), .val (.int a2), .val (.int a3), .val (.int a4), .unset] [] M Q := zC_en zf_g53 rfl
theorem c54 {X : zf_X} {M : zf_M} {Q : Option Value → zf_M → Prop} {a0 : Nat} {a1 : Int32} {a2 : Int32} : zC X 54 [.ref a0, .int a1, .int a2] M Q ↔ zW X 54 0 [.val (.ref a0), .val (.int a1), .val (.int a2)] [] M Q := zC_en zf_g54 rfl
theorem c55 {X : zf_X} {M : zf_M} {Q : Option Value → zf_M → Prop} {a0 : Nat} {a1 : Int32} {a2 : Int32} {a3 : Int32} : zC X 55 [.ref a0, .int a1, .int a2, .int a3] M Q ↔ zW X 55 0 [.val (.ref a0), .val (.int a1), .val (.int a2), .val (.int a3), .unset] [] M Q := zC_en zf_g55 rfl
theorem c56 {X : zf_X} {M : zf_M} {Q : Option Value → zf_M → Prop} {a0 : Nat} : zC X 56 [.ref a0] M Q ↔ zW X 56 0 [.val (.ref a0)] [] M Q := zC_en zf_g56 rfl
theorem c57 {X : zf_X} {M : zf_M} {Q : Option Value → zf_M → Prop} {a0 : Nat} : zC X 57 [.ref a0] M Q ↔ zW X 57 0 [.val (.ref a0)] [] M Q := zC_en zf_g57 rfl
theorem c58 {X : zf_X} {M : zf_M} {Q : Option Value → zf_M → Prop} {a0 : Nat} {a1 : Int32} : zC X 58 [.ref a0, .int a1] M Q ↔ zW X 58 0 [.val (.ref a0), .val (.int a1)] [] M Q := zC_en zf_g58 rfl
theorem c59 {X : zf_X} {M : zf_M} {Q : Option Value → zf_M → Prop} {a0 : Nat} : zC X 59 [.ref a0] M Q ↔ zW X 59 0 [.val (.ref a0)] [] M Q := zC_en zf_g59 rfl
theorem c60 {X : zf_X} {M : zf_M} {Q : Option Value → zf_M → Prop} {a0 : Nat} {a1 : Int32} {a2 : Int32} {a3 : Int32} {a4 : Int32} : zC X 60 [.ref a0, .int a1, .int a2, .int a3, .int a4] M Q ↔ zW X 60 0 [.val (.ref a0), .val (.int a1), .val (.int a2), .val (.int a3), .val (.int a4), .unset] [] M Q := zC_en zf_g60 rfl
theorem c61 {X : zf_X} {M : zf_M} {Q : Option Value → zf_M → Prop} {a0 : Nat} : zC X 61 [.ref a0] M Q ↔ zW X 61 0 [.val (.ref a0)] [] M Q := zC_en zf_g61 rfl
theorem c62 {X : zf_X} {M : zf_M} {Q : Option Value → zf_M → Prop} {a0 : Nat} {a1 : Int32} : zC X 62 [.ref a0, .int a1] M Q ↔ zW X 62 0 [.val (.ref a0), .val (.int a1)] [] M Q := zC_en zf_g62 rfl
theorem c63 {X : zf_X} {M : zf_M} {Q : Option Value → zf_M → Prop} {a0 : Nat} {a1 : Int32} {a2 : Int32} : zC X 63 [.ref a0, .int a1, .int a2] M Q ↔ zW X 63 0 [.val (.ref a0), .val (.int a1), .val (.int a2), .unset, .unset, .unset] [] M Q := zC_en zf_g63 rfl
theorem c64 {X : zf_X} {M : zf_M} {Q : Option Value → zf_M → Prop} {a0 : Nat} {a1 : Int32} : zC X 64 [.ref a0, .int a1] M Q ↔ zW X 64 0 [.val (.ref a0), .val (.int a1)] [] M Q := zC_en zf_g64 rfl
theorem c65 {X : zf_X} {M : zf_M} {Q : Option Value → zf_M → Prop} {a0 : Nat} {a1 : Int32} : zC X 65 [.ref a0, .int a1] M Q ↔ zW X 65 0 [.val (.ref a0), .val (.int a1)] [] M Q := zC_en zf_g65 rfl
theorem c66 {X : zf_X} {M : zf_M} {Q : Option Value → zf_M → Prop} {a0 : Nat} {a1 : Int32} {a2 : Int32} {a3 : Int32} : zC X 66 [.ref a0, .int a1, .int a2, .int a3] M Q ↔ zW X 66 0 [.val (.ref a0), .val (.int a1), .val (.int a2), .val (.int a3), .unset] [] M Q := zC_en zf_g66 rfl
theorem c67 {X : zf_X} {M : zf_M} {Q : Option Value → zf_M → Prop} {a0 : Nat} : zC X 67 [.ref a0] M Q ↔ zW X 67 0 [.val (.ref a0), .unset] [] M Q := zC_en zf_g67 rfl
theorem c68 {X : zf_X} {M : zf_M} {Q : Option Value → zf_M → Prop} {a0 : Nat} {a1 : Int32} {a2 : Int32} : zC X 68 [.ref a0, .int a1, .int a2] M Q ↔ zW X 68 0 [.val (.ref a0), .val (.int a1), .val (.int a2)] [] M Q := zC_en zf_g68 rfl
theorem c69 {X : zf_X} {M : zf_M} {Q : Option Value → zf_M → Prop} {a0 : Nat} : zC X 69 [.ref a0] M Q ↔ zW X 69 0 [.val (.ref a0), .unset] [] M Q := zC_en zf_g69 rfl
theorem c70 {X : zf_X} {M : zf_M} {Q : Option Value → zf_M → Prop} {a0 : Nat} : zC X 70 [.ref a0] M Q ↔ zW X 70 0 [.val (.ref a0), .unset] [] M Q := zC_en zf_g70 rfl
theorem c71 {X : zf_X} {M : zf_M} {Q : Option Value → zf_M → Prop} {a0 : Nat} {a1 : Int32} {a2 : Int32} : zC X 71 [.ref a0, .int a1, .int a2] M Q ↔ zW X 71 0 [.val (.ref a0), .val (.int a1), .val (.int a2)] [] M Q := zC_en zf_g71 rfl
theorem c72 {X : zf_X} {M : zf_M} {Q : Option Value → zf_M → Prop} {a0 : Nat} {a1 : Int32} {a2 : Int32} : zC X 72 [.ref a0, .int a1, .int a2] M Q ↔ zW X 72 0 [.val (.ref a0), .val (.int a1), .val (.int a2), .unset, .unset, .unset] [] M Q := zC_en zf_g72 rfl
theorem c73 {X : zf_X} {M : zf_M} {Q : Option Value → zf_M → Prop} {a0 : Nat} {a1 : Int32} : zC X 73 [.ref a0, .int a1] M Q ↔ zW X 73 0 [.val (.ref a0), .val (.int a1)] [] M Q := zC_en zf_g73 rfl
theorem c74 {X : zf_X} {M : zf_M} {Q : Option Value → zf_M → Prop} {a0 : Nat} {a1 : Int32} : zC X 74 [.ref a0, .int a1] M Q ↔ zW X 74 0 [.val (.ref a0), .val (.int a1)] [] M Q := zC_en zf_g74 rfl
theorem c75 {X : zf_X} {M : zf_M} {Q : Option Value → zf_M → Prop} {a0 : Nat} {a1 : Int32} : zC X 75 [.ref a0, .int a1] M Q ↔ zW X 75 0 [.val (.ref a0), .val (.int a1)] [] M Q := zC_en zf_g75 rfl
theorem c76 {X : zf_X} {M : zf_M} {Q : Option Value → zf_M → Prop} {a0 : Nat} {a1 : Int32} {a2 : Int32} {a3 : Int32} : zC X 76 [.ref a0, .int a1, .int a2, .int a3] M Q ↔ zW X 76 0 [.val (.ref a0), .val (.int a1), .val (.int a2), .val (.int a3)] [] M Q := zC_en zf_g76 rfl
theorem c77 {X : zf_X} {M : zf_M} {Q : Option Value → zf_M → Prop} {a0 : Nat} {a1 : Int32} : zC X 77 [.ref a0, .int a1] M Q ↔ zW X 77 0 [.val (.ref a0), .val (.int a1)] [] M Q := zC_en zf_g77 rfl
theorem c78 {X : zf_X} {M : zf_M} {Q : Option Value → zf_M → Prop} {a0 : Nat} {a1 : Int32} {a2 : Int32} {a3 : Int32} {a4 : Int32} : zC X 78 [.ref a0, .int a1, .int a2, .int a3, .int a4] M Q ↔ zW X 78 0 [.val (.ref a0), .val (.int a1), .val (.int a2), .val (.int a3), .val (.int a4), .unset] [] M Q := zC_en zf_g78 rfl
theorem c79 {X : zf_X} {M : zf_M} {Q : Option Value → zf_M → Prop} {a0 : Nat} {a1 : Int32} {a2 : Int32} {a3 : Int32} : zC X 79 [.ref a0, .int a1, .int a2, .int a3] M Q ↔ zW X 79 0 [.val (.ref a0), .val (.int a1), .val (.int a2), .val (.int a3), .unset] [] M Q := zC_en zf_g79 rfl
theorem c80 {X : zf_X} {M : zf_M} {Q : Option Value → zf_M → Prop} {a0 : Nat} {a1 : Int32} {a2 : Int32} {a3 : Int32} {a4 : Int32} {a5 : Int32} : zC X 80 [.ref a0, .int a1, .int a2, .int a3, .int a4, .int a5] M Q ↔ zW X 80 0 [.val (.ref a0), .val (.int a1), .val (.int a2), .val (.int a3), .val (.int a4), .val (.int a5), .unset, .unset] [] M Q := zC_en zf_g80 rfl
theorem c81 {X : zf_X} {M : zf_M} {Q : Option Value → zf_M → Prop} {a0 : Nat} {a1 : Int32} {a2 : Int32} : zC X 81 [.ref a0, .int a1, .int a2] M Q ↔ zW X 81 0 [.val (.ref a0), .val (.int a1), .val (.int a2), .unset, .unset, .unset] [] M Q := zC_en zf_g81 rfl
theorem c82 {X : zf_X} {M : zf_M} {Q : Option Value → zf_M → Prop} {a0 : Nat} {a1 : Int32} : zC X 82 [.ref a0, .int a1] M Q ↔ zW X 82 0 [.val (.ref a0), .val (.int a1)] [] M Q := zC_en zf_g82 rfl
theorem c83 {X : zf_X} {M : zf_M} {Q : Option Value → zf_M → Prop} {a0 : Nat} : zC X 83 [.ref a0] M Q ↔ zW X 83 0 [.val (.ref a0), .unset, .unset, .unset, .unset] [] M Q := zC_en zf_g83 rfl
theorem c84 {X : zf_X} {M : zf_M} {Q : Option Value → zf_M → Prop} {a0 : Int32} : zC X 84 [.int a0] M Q ↔ zW X 84 0 [.val (.int a0)] [] M Q := zC_en zf_g84 rfl
theorem c85 {X : zf_X} {M : zf_M} {Q : Option Value → zf_M → Prop} {a0 : Int32} : zC X 85 [.int a0] M Q ↔ zW X 85 0 [.val (.int a0)] [] M Q := zC_en zf_g85 rfl
theorem c86 {X : zf_X} {M : zf_M} {Q : Option Value → zf_M → Prop} {a0 : Int32} : zC X 86 [.int a0] M Q ↔ zW X 86 0 [.val (.int a0)] [] M Q := zC_en zf_g86 rfl
theorem c87 {X : zf_X} {M : zf_M} {Q : Option Value → zf_M → Prop} {a0 : Int32} : zC X 87 [.int a0] M Q ↔ zW X 87 0 [.val (.int a0)] [] M Q := zC_en zf_g87 rfl
theorem c88 {X : zf_X} {M : zf_M} {Q : Option Value → zf_M → Prop} {a0 : Int32} : zC X 88 [.int a0] M Q ↔ zW X 88 0 [.val (.int a0)] [] M Q := zC_en zf_g88 rfl
theorem c89 {X : zf_X} {M : zf_M} {Q : Option Value → zf_M → Prop} {a0 : Int32} {a1 : Int32} : zC X 89 [.int a0, .int a1] M Q ↔ zW X 89 0 [.val (.int a0), .val (.int a1)] [] M Q := zC_en zf_g89 rfl
theorem c90 {X : zf_X} {M : zf_M} {Q : Option Value → zf_M → Prop} {a0 : Nat} {a1 : Int32} {a2 : Int32} {a3 : Int32} : zC X 90 [.ref a0, .int a1, .int a2, .int a3] M Q ↔ zW X 90 0 [.val (.ref a0), .val (.int a1), .val (.int a2), .val (.int a3)] [] M Q := zC_en zf_g90 rfl
theorem c91 {X : zf_X} {M : zf_M} {Q : Option Value → zf_M → Prop} {a0 : Nat} {a1 : Int32} : zC X 91 [.ref a0, .int a1] M Q ↔ zW X 91 0 [.val (.ref a0), .val (.int a1)] [] M Q := zC_en zf_g91 rfl
theorem c92 {X : zf_X} {M : zf_M} {Q : Option Value → zf_M → Prop} {a0 : Int32} : zC X 92 [.int a0] M Q ↔ zW X 92 0 [.val (.int a0)] [] M Q := zC_en zf_g92 rfl
theorem c93 {X : zf_X} {M : zf_M} {Q : Option Value → zf_M → Prop} {a0 : Nat} {a1 : Int32} : zC X 93 [.ref a0, .int a1] M Q ↔ zW X 93 0 [.val (.ref a0), .val (.int a1)] [] M Q := zC_en zf_g93 rfl
theorem c94 {X : zf_X} {M : zf_M} {Q : Option Value → zf_M → Prop} {a0 : Nat} {a1 : Int32} {a2 : Int32} : zC X 94 [.ref a0, .int a1, .int a2] M Q ↔ zW X 94 0 [.val (.ref a0), .val (.int a1), .val (.int a2)] [] M Q := zC_en zf_g94 rfl
theorem c95 {X : zf_X} {M : zf_M} {Q : Option Value → zf_M → Prop} {a0 : Nat} : zC X 95 [.ref a0] M Q ↔ zW X 95 0 [.val (.ref a0)] [] M Q := zC_en zf_g95 rfl
theorem c96 {X : zf_X} {M : zf_M} {Q : Option Value → zf_M → Prop} {a0 : Nat} {a1 : Int32} {a2 : Int32} : zC X 96 [.ref a0, .int a1, .int a2] M Q ↔ zW X 96 0 [.val (.ref a0), .val (.int a1), .val (.int a2), .unset, .unset] [] M Q := zC_en zf_g96 rfl
theorem c97 {X : zf_X} {M : zf_M} {Q : Option Value → zf_M → Prop} {a0 : Nat} {a1 : Nat} : zC X 97 [.ref a0, .ref a1] M Q ↔ zW X 97 0 [.val (.ref a0), .val (.ref a1), .unset] [] M Q := zC_en zf_g97 rfl
theorem c98 {X : zf_X} {M : zf_M} {Q : Option Value → zf_M → Prop} {a0 : Nat} : zC X 98 [.ref a0] M Q ↔ zW X 98 0 [.val (.ref a0)] [] M Q := zC_en zf_g98 rfl
theorem c99 {X : zf_X} {M : zf_M} {Q : Option Value → zf_M → Prop} {a0 : Nat} {a1 : Nat} {a2 : Int32} : zC X 99 [.ref a0, .ref a1, .int a2] M Q ↔ zW X 99 0 [.val (.ref a0), .val (.ref a1), .val (.int a2)] [] M Q := zC_en zf_g99 rfl
theorem c100 {X : zf_X} {M : zf_M} {Q : Option Value → zf_M → Prop} {a0 : Nat} : zC X 100 [.ref a0] M Q ↔ zW X 100 0 [.val (.ref a0), .unset] [] M Q := zC_en zf_g100 rfl
theorem c101 {X : zf_X} {M : zf_M} {Q : Option Value → zf_M → Prop} {a0 : Nat} {a1 : Int32} {a2 : Int32} {a3 : Int32} {a4 : Int32} : zC X 101 [.ref a0, .int a1, .int a2, .int a3, .int a4] M Q ↔ zW X 101 0 [.val (.ref a0), .val (.int a1), .val (.int a2), .val (.int a3), .val (.int a4), .unset] [] M Q := zC_en zf_g101 rfl
theorem c102 {X : zf_X} {M : zf_M} {Q : Option Value → zf_M → Prop} {a0 : Nat} : zC X 102 [.ref a0] M Q ↔ zW X 102 0 [.val (.ref a0), .unset] [] M Q := zC_en zf_g102 rfl
theorem c103 {X : zf_X} {M : zf_M} {Q : Option Value → zf_M → Prop} {a0 : Int64} {a1 : Int64} {a2 : Int64} : zC X 103 [.long a0, .long a1, .long a2] M Q ↔ zW X 103 0 [.val (.long a0), .second, .val (.long a1), .second, .val (.long a2), .second] [] M Q := zC_en zf_g103 rfl
theorem c104 {X : zf_X} {M : zf_M} {Q : Option Value → zf_M → Prop} {a0 : Int32} : zC X 104 [.int a0] M Q ↔ zW X 104 0 [.val (.int a0)] [] M Q := zC_en zf_g104 rfl
theorem c105 {X : zf_X} {M : zf_M} {Q : Option Value → zf_M → Prop} {a0 : Int32} {a1 : Int32} : zC X 105 [.int a0, .int a1] M Q ↔ zW X 105 0 [.val (.int a0), .val (.int a1)] [] M Q := zC_en zf_g105 rfl
theorem c106 {X : zf_X} {M : zf_M} {Q : Option Value → zf_M → Prop} {a0 : Nat} {a1 : Int32} : zC X 106 [.ref a0, .int a1] M Q ↔ zW X 106 0 [.val (.ref a0), .val (.int a1)] [] M Q := zC_en zf_g106 rfl
theorem c107 {X : zf_X} {M : zf_M} {Q : Option Value → zf_M → Prop} {a0 : Nat} {a1 : Int32} {a2 : Int32} {a3 : Int32} {a4 : Int32} {a5 : Int32} {a6 : Int32} : zC X 107 [.ref a0, .int a1, .int a2, .int a3, .int a4, .int a5, .int a6] M Q ↔ zW X 107 0 [.val (.ref a0), .val (.int a1), .val (.int a2), .val (.int a3), .val (.int a4), .val (.int a5), .val (.int a6), .unset] [] M Q := zC_en zf_g107 rfl
theorem c108 {X : zf_X} {M : zf_M} {Q : Option Value → zf_M → Prop} {a0 : Nat} {a1 : Int32} {a2 : Int32} : zC X 108 [.ref a0, .int a1, .int a2] M Q ↔ zW X 108 0 [.val (.ref a0), .val (.int a1), .val (.int a2)] [] M Q := zC_en zf_g108 rfl
theorem c109 {X : zf_X} {M : zf_M} {Q : Option Value → zf_M → Prop} {a0 : Nat} {a1 : Int32} {a2 : Int32} {a3 : Int32} : zC X 109 [.ref a0, .int a1, .int a2, .int a3] M Q ↔ zW X 109 0 [.val (.ref a0), .val (.int a1), .val (.int a2), .val (.int a3), .unset] [] M Q := zC_en zf_g109 rfl
theorem c110 {X : zf_X} {M : zf_M} {Q : Option Value → zf_M → Prop} {a0 : Nat} {a1 : Int32} {a2 : Int32} {a3 : Int32} : zC X 110 [.ref a0, .int a1, .int a2, .int a3] M Q ↔ zW X 110 0 [.val (.ref a0), .val (.int a1), .val (.int a2), .val (.int a3), .unset] [] M Q := zC_en zf_g110 rfl
theorem c111 {X : zf_X} {M : zf_M} {Q : Option Value → zf_M → Prop} {a0 : Int32} {a1 : Int32} {a2 : Int32} : zC X 111 [.int a0, .int a1, .int a2] M Q ↔ zW X 111 0 [.val (.int a0), .val (.int a1), .val (.int a2)] [] M Q := zC_en zf_g111 rfl
theorem c112 {X : zf_X} {M : zf_M} {Q : Option Value → zf_M → Prop} {a0 : Nat} {a1 : Int32} {a2 : Int32} {a3 : Int32} {a4 : Int32} : zC X 112 [.ref a0, .int a1, .int a2, .int a3, .int a4] M Q ↔ zW X 112 0 [.val (.ref a0), .val (.int a1), .val (.int a2), .val (.int a3), .val (.int a4)] [] M Q := zC_en zf_g112 rfl
theorem c113 {X : zf_X} {M : zf_M} {Q : Option Value → zf_M → Prop} {a0 : Nat} {a1 : Int32} {a2 : Int32} : zC X 113 [.ref a0, .int a1, .int a2] M Q ↔ zW X 113 0 [.val (.ref a0), .val (.int a1), .val (.int a2)] [] M Q := zC_en zf_g113 rfl
theorem c114 {X : zf_X} {M : zf_M} {Q : Option Value → zf_M → Prop} {a0 : Nat} {a1 : Int32} {a2 : Int32} {a3 : Int32} : zC X 114 [.ref a0, .int a1, .int a2, .int a3] M Q ↔ zW X 114 0 [.val (.ref a0), .val (.int a1), .val (.int a2), .val (.int a3)] [] M Q := zC_en zf_g114 rfl
theorem c115 {X : zf_X} {M : zf_M} {Q : Option Value → zf_M → Prop} {a0 : Nat} {a1 : Int32} : zC X 115 [.ref a0, .int a1] M Q ↔ zW X 115 0 [.val (.ref a0), .val (.int a1), .unset] [] M Q := zC_en zf_g115 rfl
theorem c116 {X : zf_X} {M : zf_M} {Q : Option Value → zf_M → Prop} {a0 : Nat} : zC X 116 [.ref a0] M Q ↔ zW X 116 0 [.val (.ref a0), .unset, .unset] [] M Q := zC_en zf_g116 rfl
theorem c117 {X : zf_X} {M : zf_M} {Q : Option Value → zf_M → Prop} {a0 : Nat} : zC X 117 [.ref a0] M Q ↔ zW X 117 0 [.val (.ref a0)] [] M Q := zC_en zf_g117 rfl
theorem c118 {X : zf_X} {M : zf_M} {Q : Option Value → zf_M → Prop} {a0 : Nat} {a1 : Int32} {a2 : Int32} : zC X 118 [.ref a0, .int a1, .int a2] M Q ↔ zW X 118 0 [.val (.ref a0), .val (.int a1), .val (.int a2)] [] M Q := zC_en zf_g118 rfl
theorem c119 {X : zf_X} {M : zf_M} {Q : Option Value → zf_M → Prop} {a0 : Nat} {a1 : Int32} {a2 : Int32} : zC X 119 [.ref a0, .int a1, .int a2] M Q ↔ zW X 119 0 [.val (.ref a0), .val (.int a1), .val (.int a2), .unset, .unset] [] M Q := zC_en zf_g119 rfl
theorem c120 {X : zf_X} {M : zf_M} {Q : Option Value → zf_M → Prop} {a0 : Nat} {a1 : Int32} {a2 : Int32} : zC X 120 [.ref a0, .int a1, .int a2] M Q ↔ zW X 120 0 [.val (.ref a0), .val (.int a1), .val (.int a2)] [] M Q := zC_en zf_g120 rfl
theorem c121 {X : zf_X} {M : zf_M} {Q : Option Value → zf_M → Prop} {a0 : Nat} {a1 : Int32} : zC X 121 [.ref a0, .int a1] M Q ↔ zW X 121 0 [.val (.ref a0), .val (.int a1)] [] M Q := zC_en zf_g121 rfl
theorem c122 {X : zf_X} {M : zf_M} {Q : Option Value → zf_M → Prop} {a0 : Nat} {a1 : Int32} : zC X 122 [.ref a0, .int a1] M Q ↔ zW X 122 0 [.val (.ref a0), .val (.int a1), .unset, .unset, .unset, .unset, .unset] [] M Q := zC_en zf_g122 rfl
theorem c123 {X : zf_X} {M : zf_M} {Q : Option Value → zf_M → Prop} {a0 : Nat} : zC X 123 [.ref a0] M Q ↔ zW X 123 0 [.val (.ref a0), .unset, .unset, .unset] [] M Q := zC_en zf_g123 rfl
theorem c124 {X : zf_X} {M : zf_M} {Q : Option Value → zf_M → Prop} {a0 : Nat} {a1 : Int64} : zC X 124 [.ref a0, .long a1] M Q ↔ zW X 124 0 [.val (.ref a0), .val (.long a1), .second, .unset, .unset, .unset] [] M Q := zC_en zf_g124 rfl
theorem c125 {X : zf_X} {M : zf_M} {Q : Option Value → zf_M → Prop} {a0 : Nat} {a1 : Int32} {a2 : Int32} {a3 : Int64} : zC X 125 [.ref a0, .int a1, .int a2, .long a3] M Q ↔ zW X 125 0 [.val (.ref a0), .val (.int a1), .val (.int a2), .val (.long a3), .second, .unset] [] M Q := zC_en zf_g125 rfl
theorem c126 {X : zf_X} {M : zf_M} {Q : Option Value → zf_M → Prop} {a0 : Nat} {a1 : Int64} : zC X 126 [.ref a0, .long a1] M Q ↔ zW X 126 0 [.val (.ref a0), .val (.long a1), .second, .unset, .unset, .unset] [] M Q := zC_en zf_g126 rfl
theorem c127 {X : zf_X} {M : zf_M} {Q : Option Value → zf_M → Prop} {a0 : Nat} {a1 : Int32} {a2 : Int64} {a3 : Int64} : zC X 127 [.ref a0, .int a1, .long a2, .long a3] M Q ↔ zW X 127 0 [.val (.ref a0), .val (.int a1), .val (.long a2), .second, .val (.long a3), .second, .unset] [] M Q := zC_en zf_g127 rfl
theorem c128 {X : zf_X} {M : zf_M} {Q : Option Value → zf_M → Prop} {a0 : Nat} : zC X 128 [.ref a0] M Q ↔ zW X 128 0 [.val (.ref a0)] [] M Q := zC_en zf_g128 rfl
theorem c129 {X : zf_X} {M : zf_M} {Q : Option Value → zf_M → Prop} {a0 : Nat} : zC X 129 [.ref a0] M Q ↔ zW X 129 0 [.val (.ref a0), .unset, .unset, .unset, .unset, .unset, .unset, .unset, .unset] [] M Q := zC_en zf_g129 rfl
theorem c130 {X : zf_X} {M : zf_M} {Q : Option Value → zf_M → Prop} {a0 : Nat} : zC X 130 [.ref a0] M Q ↔ zW X 130 0 [.val (.ref a0)] [] M Q := zC_en zf_g130 rfl
theorem c131 {X : zf_X} {M : zf_M} {Q : Option Value → zf_M → Prop} {a0 : Nat} : zC X 131 [.ref a0] M Q ↔ zW X 131 0 [.val (.ref a0), .unset, .unset, .unset, .unset, .unset, .unset, .unset] [] M Q := zC_en zf_g131 rfl
theorem c132 {X : zf_X} {M : zf_M} {Q : Option Value → zf_M → Prop} {a0 : Nat} : zC X 132 [.ref a0] M Q ↔ zW X 132 0 [.val (.ref a0)] [] M Q := zC_en zf_g132 rfl
theorem c133 {X : zf_X} {M : zf_M} {Q : Option Value → zf_M → Prop} {a0 : Nat} : zC X 133 [.ref a0] M Q ↔ zW X 133 0 [.val (.ref a0)] [] M Q := zC_en zf_g133 rfl
theorem c134 {X : zf_X} {M : zf_M} {Q : Option Value → zf_M → Prop} {a0 : Nat} {a1 : Int32} : zC X 134 [.ref a0, .int a1] M Q ↔ zW X 134 0 [.val (.ref a0), .val (.int a1)] [] M Q := zC_en zf_g134 rfl
theorem c135 {X : zf_X} {M : zf_M} {Q : Option Value → zf_M → Prop} {a0 : Nat} : zC X 135 [.ref a0] M Q ↔ zW X 135 0 [.val (.ref a0)] [] M Q := zC_en zf_g135 rfl
theorem c136 {X : zf_X} {M : zf_M} {Q : Option Value → zf_M → Prop} {a0 : Nat} {a1 : Int32} {a2 : Int32} {a3 : Int32} {a4 : Int32} : zC X 136 [.ref a0, .int a1, .int a2, .int a3, .int a4] M Q ↔ zW X 136 0 [.val (.ref a0), .val (.int a1), .val (.int a2), .val (.int a3), .val (.int a4)] [] M Q := zC_en zf_g136 rfl
theorem c137 {X : zf_X} {M : zf_M} {Q : Option Value → zf_M → Prop} {a0 : Nat} : zC X 137 [.ref a0] M Q ↔ zW X 137 0 [.val (.ref a0)] [] M Q := zC_en zf_g137 rfl
theorem c138 {X : zf_X} {M : zf_M} {Q : Option Value → zf_M → Prop} {a0 : Nat} {a1 : Int32} : zC X 138 [.ref a0, .int a1] M Q ↔ zW X 138 0 [.val (.ref a0), .val (.int a1)] [] M Q := zC_en zf_g138 rfl
theorem c139 {X : zf_X} {M : zf_M} {Q : Option Value → zf_M → Prop} {a0 : Nat} {a1 : Int32} {a2 : Int32} : zC X 139 [.ref a0, .int a1, .int a2] M Q ↔ zW X 139 0 [.val (.ref a0), .val (.int a1), .val (.int a2), .unset, .unset] [] M Q := zC_en zf_g139 rfl
theorem c140 {X : zf_X} {M : zf_M} {Q : Option Value → zf_M → Prop} {a0 : Nat} {a1 : Int32} : zC X 140 [.ref a0, .int a1] M Q ↔ zW X 140 0 [.val (.ref a0), .val (.int a1), .unset] [] M Q := zC_en zf_g140 rfl
theorem c141 {X : zf_X} {M : zf_M} {Q : Option Value → zf_M → Prop} {a0 : Nat} {a1 : Int32} : zC X 141 [.ref a0, .int a1] M Q ↔ zW X 141 0 [.val (.ref a0), .val (.int a1)] [] M Q := zC_en zf_g141 rfl
theorem c142 {X : zf_X} {M : zf_M} {Q : Option Value → zf_M → Prop} {a0 : Nat} {a1 : Int32} {a2 : Int32} {a3 : Int32} : zC X 142 [.ref a0, .int a1, .int a2, .int a3] M Q ↔ zW X 142 0 [.val (.ref a0), .val (.int a1), .val (.int a2), .val (.int a3)] [] M Q := zC_en zf_g142 rfl
theorem c143 {X : zf_X} {M : zf_M} {Q : Option Value → zf_M → Prop} {a0 : Nat} : zC X 143 [.ref a0] M Q ↔ zW X 143 0 [.val (.ref a0), .unset] [] M Q := zC_en zf_g143 rfl
theorem c144 {X : zf_X} {M : zf_M} {Q : Option Value → zf_M → Prop} {a0 : Nat} {a1 : Int32} {a2 : Int32} : zC X 144 [.ref a0, .int a1, .int a2] M Q ↔ zW X 144 0 [.val (.ref a0), .val (.int a1), .val (.int a2)] [] M Q := zC_en zf_g144 rfl
theorem c145 {X : zf_X} {M : zf_M} {Q : Option Value → zf_M → Prop} {a0 : Nat} {a1 : Int32} {a2 : Int32} : zC X 145 [.ref a0, .int a1, .int a2] M Q ↔ zW X 145 0 [.val (.ref a0), .val (.int a1), .val (.int a2), .unset] [] M Q := zC_en zf_g145 rfl
theorem c146 {X : zf_X} {M : zf_M} {Q : Option Value → zf_M → Prop} {a0 : Nat} : zC X 146 [.ref a0] M Q ↔ zW X 146 0 [.val (.ref a0), .unset, .unset, .unset, .unset, .unset, .unset, .unset] [] M Q := zC_en zf_g146 rfl
theorem c147 {X : zf_X} {M : zf_M} {Q : Option Value → zf_M → Prop} {a0 : Nat} : zC X 147 [.ref a0] M Q ↔ zW X 147 0 [.val (.ref a0)] [] M Q := zC_en zf_g147 rfl
theorem c148 {X : zf_X} {M : zf_M} {Q : Option Value → zf_M → Prop} {a0 : Nat} : zC X 148 [.ref a0] M Q ↔ zW X 148 0 [.val (.ref a0), .unset] [] M Q := zC_en zf_g148 rfl
theorem c149 {X : zf_X} {M : zf_M} {Q : Option Value → zf_M → Prop} {a0 : Nat} {a1 : Int32} {a2 : Int32} : zC X 149 [.ref a0, .int a1, .int a2] M Q ↔ zW X 149 0 [.val (.ref a0), .val (.int a1), .val (.int a2)] [] M Q := zC_en zf_g149 rfl
theorem c150 {X : zf_X} {M : zf_M} {Q : Option Value → zf_M → Prop} {a0 : Nat} {a1 : Int32} {a2 : Int32} : zC X 150 [.ref a0, .int a1, .int a2] M Q ↔ zW X 150 0 [.val (.ref a0), .val (.int a1), .val (.int a2), .unset, .unset, .unset] [] M Q := zC_en zf_g150 rfl
theorem c151 {X : zf_X} {M : zf_M} {Q : Option Value → zf_M → Prop} {a0 : Nat} {a1 : Int32} : zC X 151 [.ref a0, .int a1] M Q ↔ zW X 151 0 [.val (.ref a0), .val (.int a1)] [] M Q := zC_en zf_g151 rfl
theorem c152 {X : zf_X} {M : zf_M} {Q : Option Value → zf_M → Prop} {a0 : Nat} {a1 : Int32} : zC X 152 [.ref a0, .int a1] M Q ↔ zW X 152 0 [.val (.ref a0), .val (.int a1), .unset, .unset, .unset, .unset, .unset, .unset, .unset] [] M Q := zC_en zf_g152 rfl
theorem c153 {X : zf_X} {M : zf_M} {Q : Option Value → zf_M → Prop} {a0 : Nat} {a1 : Int32} : zC X 153 [.ref a0, .int a1] M Q ↔ zW X 153 0 [.val (.ref a0), .val (.int a1)] [] M Q := zC_en zf_g153 rfl
theorem c154 {X : zf_X} {M : zf_M} {Q : Option Value → zf_M → Prop} {a0 : Nat} {a1 : Int32} : zC X 154 [.ref a0, .int a1] M Q ↔ zW X 154 0 [.val (.ref a0), .val (.int a1)] [] M Q := zC_en zf_g154 rfl
theorem c155 {X : zf_X} {M : zf_M} {Q : Option Value → zf_M → Prop} {a0 : Int32} : zC X 155 [.int a0] M Q ↔ zW X 155 0 [.val (.int a0)] [] M Q := zC_en zf_g155 rfl
theorem c156 {X : zf_X} {M : zf_M} {Q : Option Value → zf_M → Prop} {a0 : Nat} {a1 : Int32} {a2 : Int32} {a3 : Int32} : zC X 156 [.ref a0, .int a1, .int a2, .int a3] M Q ↔ zW X 156 0 [.val (.ref a0), .val (.int a1), .val (.int a2), .val (.int a3), .unset] [] M Q := zC_en zf_g156 rfl
theorem c157 {X : zf_X} {M : zf_M} {Q : Option Value → zf_M → Prop} {a0 : Nat} {a1 : Int32} : zC X 157 [.ref a0, .int a1] M Q ↔ zW X 157 0 [.val (.ref a0), .val (.int a1)] [] M Q := zC_en zf_g157 rfl
theorem c158 {X : zf_X} {M : zf_M} {Q : Option Value → zf_M → Prop} {a0 : Nat} {a1 : Int32} {a2 : Int32} {a3 : Int32} : zC X 158 [.ref a0, .int a1, .int a2, .int a3] M Q ↔ zW X 158 0 [.val (.ref a0), .val (.int a1), .val (.int a2), .val (.int a3)] [] M Q := zC_en zf_g158 rfl
theorem c159 {X : zf_X} {M : zf_M} {Q : Option Value → zf_M → Prop} {a0 : Nat} {a1 : Int32} {a2 : Int32} {a3 : Int32} {a4 : Int32} : zC X 159 [.ref a0, .int a1, .int a2, .int a3, .int a4] M Q ↔ zW X 159 0 [.val (.ref a0), .val (.int a1), .val (.int a2), .val (.int a3), .val (.int a4), .unset] [] M Q := zC_en zf_g159 rfl
theorem c160 {X : zf_X} {M : zf_M} {Q : Option Value → zf_M → Prop} {a0 : Nat} {a1 : Int32} {a2 : Int32} {a3 : Int32} : zC X 160 [.ref a0, .int a1, .int a2, .int a3] M Q ↔ zW X 160 0 [.val (.ref a0), .val (.int a1), .val (.int a2), .val (.int a3)] [] M Q := zC_en zf_g160 rfl
theorem c161 {X : zf_X} {M : zf_M} {Q : Option Value → zf_M → Prop} {a0 : Nat} {a1 : Int32} {a2 : Int32} {a3 : Int32} {a4 : Int32} {a5 : Int32} : zC X 161 [.ref a0, .int a1, .int a2, .int a3, .int a4, .int a5] M Q ↔ zW X 161 0 [.val (.ref a0), .val (.int a1), .val (.int a2), .val (.int a3), .val (.int a4), .val (.int a5), .unset] [] M Q := zC_en zf_g161 rfl
theorem c162 {X : zf_X} {M : zf_M} {Q : Option Value → zf_M → Prop} {a0 : Nat} {a1 : Int32} {a2 : Int32} : zC X 162 [.ref a0, .int a1, .int a2] M Q ↔ zW X 162 0 [.val (.ref a0), .val (.int a1), .val (.int a2), .unset, .unset] [] M Q := zC_en zf_g162 rfl
theorem c163 {X : zf_X} {M : zf_M} {Q : Option Value → zf_M → Prop} {a0 : Nat} {a1 : Int32} : zC X 163 [.ref a0, .int a1] M Q ↔ zW X 163 0 [.val (.ref a0), .val (.int a1)] [] M Q := zC_en zf_g163 rfl
theorem c164 {X : zf_X} {M : zf_M} {Q : Option Value → zf_M → Prop} {a0 : Nat} : zC X 164 [.ref a0] M Q ↔ zW X 164 0 [.val (.ref a0), .unset, .unset, .unset] [] M Q := zC_en zf_g164 rfl
theorem c165 {X : zf_X} {M : zf_M} {Q : Option Value → zf_M → Prop} {a0 : Int32} : zC X 165 [.int a0] M Q ↔ zW X 165 0 [.val (.int a0)] [] M Q := zC_en zf_g165 rfl
theorem zs_tabIn {X : zf_X} {mi pc tgt : Nat} {ls : List Slot} {st : List Value} {M : zf_M} {Q : Option Value → zf_M → Prop} {E : zf_E} {d lo hi off : Int} {offs : Array Int} {n : Nat} {x : Int32} (hg : zf_g mi = E) (hd : decode E.2.1 pc = .ok (.tableswitch d lo hi offs, n)) (h1 : ¬ (x.toInt < lo ∨ hi < x.toInt)) (ho : offs[(x.toInt - lo).toNat]? = some off) (ht : (pc : Int) + off = (tgt : Int)) : zW X mi pc ls (.int x :: st) M Q ↔ zW X mi tgt ls st M Q := by
  subst hg
  refine zr_ofAct hd ?_
  simp only [zf_do, zf_tb, if_neg h1, ho]
  unfold zf_go
  rw [ht, if_pos (by omega)]
  rfl
theorem zs_tabOut {X : zf_X} {mi pc tgt : Nat} {ls : List Slot} {st : List Value} {M : zf_M} {Q : Option Value → zf_M → Prop} {E : zf_E} {d lo hi : Int} {offs : Array Int} {n : Nat} {x : Int32} (hg : zf_g mi = E) (hd : decode E.2.1 pc = .ok (.tableswitch d lo hi offs, n)) (h1 : x.toInt < lo ∨ hi < x.toInt) (ht : (pc : Int) + d = (tgt : Int)) : zW X mi pc ls (.int x :: st) M Q ↔ zW X mi tgt ls st M Q := by
  subst hg
  refine zr_ofAct hd ?_
  simp only [zf_do, zf_tb, if_pos h1]
  unfold zf_go
  rw [ht, if_pos (by omega)]
  rfl
theorem zs_look {X : zf_X} {mi pc tgt : Nat} {ls : List Slot} {st : List Value} {M : zf_M} {Q : Option Value → zf_M → Prop} {E : zf_E} {d : Int} {ps : Array (Int × Int)} {n : Nat} {x : Int32} (hg : zf_g mi = E) (hd : decode E.2.1 pc = .ok (.lookupswitch d ps, n)) (hs : (ps.toList.zip (ps.toList.drop 1)).all (fun (a, next) => a.1 < next.1) = true) (ht : (pc : Int) + Op.lookupswitch.offset ps.toList d x.toInt = (tgt : Int)) : zW X mi pc ls (.int x :: st) M Q ↔ zW X mi tgt ls st M Q := by
  subst hg
  refine zr_ofAct hd ?_
  simp only [zf_do, zf_lk, if_pos hs]
  unfold zf_go
  rw [ht, if_pos (by omega)]
  rfl
theorem w17_11_0 {X : zf_X} {M : zf_M} {Q : Option Value → zf_M → Prop} {ls : List Slot} {st : List Value} : zW X 17 11 ls (.int 0 :: st) M Q ↔ zW X 17 36 ls st M Q := zs_look zf_g17 dX2_afterHit_11 (by decide +kernel) (by decide +kernel)
theorem w17_11_1 {X : zf_X} {M : zf_M} {Q : Option Value → zf_M → Prop} {ls : List Slot} {st : List Value} : zW X 17 11 ls (.int 1 :: st) M Q ↔ zW X 17 69 ls st M Q := zs_look zf_g17 dX2_afterHit_11 (by decide +kernel) (by decide +kernel)
theorem w17_11_e {X : zf_X} {M : zf_M} {Q : Option Value → zf_M → Prop} {ls : List Slot} {st : List Value} {x : Int32} (h : x.toInt ≠ 0 ∧ x.toInt ≠ 1) : zW X 17 11 ls (.int x :: st) M Q ↔ zW X 17 85 ls st M Q := zs_look zf_g17 dX2_afterHit_11 (by decide +kernel) (by simp only [Op.lookupswitch.offset, List.foldr]; rw [if_neg (fun z => h.1 z.symm), if_neg (fun z => h.2 z.symm)]; rfl)
theorem w75_1_0 {X : zf_X} {M : zf_M} {Q : Option Value → zf_M → Prop} {ls : List Slot} {st : List Value} : zW X 75 1 ls (.int 0 :: st) M Q ↔ zW X 75 28 ls st M Q := zs_tabIn (off := 27) zf_g75 dX8_played_1 (by decide) (by decide +kernel) (by decide)
theorem w75_1_1 {X : zf_X} {M : zf_M} {Q : Option Value → zf_M → Prop} {ls : List Slot} {st : List Value} : zW X 75 1 ls (.int 1 :: st) M Q ↔ zW X 75 36 ls st M Q := zs_tabIn (off := 35) zf_g75 dX8_played_1 (by decide) (by decide +kernel) (by decide)
theorem w75_1_2 {X : zf_X} {M : zf_M} {Q : Option Value → zf_M → Prop} {ls : List Slot} {st : List Value} : zW X 75 1 ls (.int 2 :: st) M Q ↔ zW X 75 44 ls st M Q := zs_tabIn (off := 43) zf_g75 dX8_played_1 (by decide) (by decide +kernel) (by decide)
theorem w75_1_e {X : zf_X} {M : zf_M} {Q : Option Value → zf_M → Prop} {ls : List Slot} {st : List Value} {x : Int32} (h : x.toInt < 0 ∨ 2 < x.toInt) : zW X 75 1 ls (.int x :: st) M Q ↔ zW X 75 52 ls st M Q := zs_tabOut zf_g75 dX8_played_1 h (by decide)
theorem w82_1_0 {X : zf_X} {M : zf_M} {Q : Option Value → zf_M → Prop} {ls : List Slot} {st : List Value} : zW X 82 1 ls (.int 0 :: st) M Q ↔ zW X 82 56 ls st M Q := zs_tabIn (off := 55) zf_g82 dX8_count_1 (by decide) (by decide +kernel) (by decide)
theorem w82_1_1 {X : zf_X} {M : zf_M} {Q : Option Value → zf_M → Prop} {ls : List Slot} {st : List Value} : zW X 82 1 ls (.int 1 :: st) M Q ↔ zW X 82 64 ls st M Q := zs_tabIn (off := 63) zf_g82 dX8_count_1 (by decide) (by decide +kernel) (by decide)
theorem w82_1_2 {X : zf_X} {M : zf_M} {Q : Option Value → zf_M → Prop} {ls : List Slot} {st : List Value} : zW X 82 1 ls (.int 2 :: st) M Q ↔ zW X 82 74 ls st M Q := zs_tabIn (off := 73) zf_g82 dX8_count_1 (by decide) (by decide +kernel) (by decide)
theorem w82_1_3 {X : zf_X} {M : zf_M} {Q : Option Value → zf_M → Prop} {ls : List Slot} {st : List Value} : zW X 82 1 ls (.int 3 :: st) M Q ↔ zW X 82 84 ls st M Q := zs_tabIn (off := 83) zf_g82 dX8_count_1 (by decide) (by decide +kernel) (by decide)
theorem w82_1_4 {X : zf_X} {M : zf_M} {Q : Option Value → zf_M → Prop} {ls : List Slot} {st : List Value} : zW X 82 1 ls (.int 4 :: st) M Q ↔ zW X 82 89 ls st M Q := zs_tabIn (off := 88) zf_g82 dX8_count_1 (by decide) (by decide +kernel) (by decide)
theorem w82_1_5 {X : zf_X} {M : zf_M} {Q : Option Value → zf_M → Prop} {ls : List Slot} {st : List Value} : zW X 82 1 ls (.int 5 :: st) M Q ↔ zW X 82 94 ls st M Q := zs_tabIn (off := 93) zf_g82 dX8_count_1 (by decide) (by decide +kernel) (by decide)
theorem w82_1_6 {X : zf_X} {M : zf_M} {Q : Option Value → zf_M → Prop} {ls : List Slot} {st : List Value} : zW X 82 1 ls (.int 6 :: st) M Q ↔ zW X 82 102 ls st M Q := zs_tabIn (off := 101) zf_g82 dX8_count_1 (by decide) (by decide +kernel) (by decide)
theorem w82_1_7 {X : zf_X} {M : zf_M} {Q : Option Value → zf_M → Prop} {ls : List Slot} {st : List Value} : zW X 82 1 ls (.int 7 :: st) M Q ↔ zW X 82 107 ls st M Q := zs_tabIn (off := 106) zf_g82 dX8_count_1 (by decide) (by decide +kernel) (by decide)
theorem w82_1_8 {X : zf_X} {M : zf_M} {Q : Option Value → zf_M → Prop} {ls : List Slot} {st : List Value} : zW X 82 1 ls (.int 8 :: st) M Q ↔ zW X 82 112 ls st M Q := zs_tabIn (off := 111) zf_g82 dX8_count_1 (by decide) (by decide +kernel) (by decide)
theorem w82_1_9 {X : zf_X} {M : zf_M} {Q : Option Value → zf_M → Prop} {ls : List Slot} {st : List Value} : zW X 82 1 ls (.int 9 :: st) M Q ↔ zW X 82 120 ls st M Q := zs_tabIn (off := 119) zf_g82 dX8_count_1 (by decide) (by decide +kernel) (by decide)
theorem w82_1_e {X : zf_X} {M : zf_M} {Q : Option Value → zf_M → Prop} {ls : List Slot} {st : List Value} {x : Int32} (h : x.toInt < 0 ∨ 9 < x.toInt) : zW X 82 1 ls (.int x :: st) M Q ↔ zW X 82 128 ls st M Q := zs_tabOut zf_g82 dX8_count_1 h (by decide)
theorem w105_1_0 {X : zf_X} {M : zf_M} {Q : Option Value → zf_M → Prop} {ls : List Slot} {st : List Value} : zW X 105 1 ls (.int 0 :: st) M Q ↔ zW X 105 36 ls st M Q := zs_tabIn (off := 35) zf_g105 dX9_isNumber_1 (by decide) (by decide +kernel) (by decide)
theorem w105_1_1 {X : zf_X} {M : zf_M} {Q : Option Value → zf_M → Prop} {ls : List Slot} {st : List Value} : zW X 105 1 ls (.int 1 :: st) M Q ↔ zW X 105 46 ls st M Q := zs_tabIn (off := 45) zf_g105 dX9_isNumber_1 (by decide) (by decide +kernel) (by decide)
theorem w105_1_2 {X : zf_X} {M : zf_M} {Q : Option Value → zf_M → Prop} {ls : List Slot} {st : List Value} : zW X 105 1 ls (.int 2 :: st) M Q ↔ zW X 105 56 ls st M Q := zs_tabIn (off := 55) zf_g105 dX9_isNumber_1 (by decide) (by decide +kernel) (by decide)
theorem w105_1_3 {X : zf_X} {M : zf_M} {Q : Option Value → zf_M → Prop} {ls : List Slot} {st : List Value} : zW X 105 1 ls (.int 3 :: st) M Q ↔ zW X 105 66 ls st M Q := zs_tabIn (off := 65) zf_g105 dX9_isNumber_1 (by decide) (by decide +kernel) (by decide)
theorem w105_1_4 {X : zf_X} {M : zf_M} {Q : Option Value → zf_M → Prop} {ls : List Slot} {st : List Value} : zW X 105 1 ls (.int 4 :: st) M Q ↔ zW X 105 76 ls st M Q := zs_tabIn (off := 75) zf_g105 dX9_isNumber_1 (by decide) (by decide +kernel) (by decide)
theorem w105_1_e {X : zf_X} {M : zf_M} {Q : Option Value → zf_M → Prop} {ls : List Slot} {st : List Value} {x : Int32} (h : x.toInt < 0 ∨ 4 < x.toInt) : zW X 105 1 ls (.int x :: st) M Q ↔ zW X 105 86 ls st M Q := zs_tabOut zf_g105 dX9_isNumber_1 h (by decide)
theorem w163_1_0 {X : zf_X} {M : zf_M} {Q : Option Value → zf_M → Prop} {ls : List Slot} {st : List Value} : zW X 163 1 ls (.int 0 :: st) M Q ↔ zW X 163 56 ls st M Q := zs_tabIn (off := 55) zf_g163 dX9_count_1 (by decide) (by decide +kernel) (by decide)
theorem w163_1_1 {X : zf_X} {M : zf_M} {Q : Option Value → zf_M → Prop} {ls : List Slot} {st : List Value} : zW X 163 1 ls (.int 1 :: st) M Q ↔ zW X 163 61 ls st M Q := zs_tabIn (off := 60) zf_g163 dX9_count_1 (by decide) (by decide +kernel) (by decide)
theorem w163_1_2 {X : zf_X} {M : zf_M} {Q : Option Value → zf_M → Prop} {ls : List Slot} {st : List Value} : zW X 163 1 ls (.int 2 :: st) M Q ↔ zW X 163 83 ls st M Q := zs_tabIn (off := 82) zf_g163 dX9_count_1 (by decide) (by decide +kernel) (by decide)
theorem w163_1_3 {X : zf_X} {M : zf_M} {Q : Option Value → zf_M → Prop} {ls : List Slot} {st : List Value} : zW X 163 1 ls (.int 3 :: st) M Q ↔ zW X 163 105 ls st M Q := zs_tabIn (off := 104) zf_g163 dX9_count_1 (by decide) (by decide +kernel) (by decide)
theorem w163_1_4 {X : zf_X} {M : zf_M} {Q : Option Value → zf_M → Prop} {ls : List Slot} {st : List Value} : zW X 163 1 ls (.int 4 :: st) M Q ↔ zW X 163 110 ls st M Q := zs_tabIn (off := 109) zf_g163 dX9_count_1 (by decide) (by decide +kernel) (by decide)
theorem w163_1_5 {X : zf_X} {M : zf_M} {Q : Option Value → zf_M → Prop} {ls : List Slot} {st : List Value} : zW X 163 1 ls (.int 5 :: st) M Q ↔ zW X 163 115 ls st M Q := zs_tabIn (off := 114) zf_g163 dX9_count_1 (by decide) (by decide +kernel) (by decide)
theorem w163_1_6 {X : zf_X} {M : zf_M} {Q : Option Value → zf_M → Prop} {ls : List Slot} {st : List Value} : zW X 163 1 ls (.int 6 :: st) M Q ↔ zW X 163 120 ls st M Q := zs_tabIn (off := 119) zf_g163 dX9_count_1 (by decide) (by decide +kernel) (by decide)
theorem w163_1_7 {X : zf_X} {M : zf_M} {Q : Option Value → zf_M → Prop} {ls : List Slot} {st : List Value} : zW X 163 1 ls (.int 7 :: st) M Q ↔ zW X 163 125 ls st M Q := zs_tabIn (off := 124) zf_g163 dX9_count_1 (by decide) (by decide +kernel) (by decide)
theorem w163_1_8 {X : zf_X} {M : zf_M} {Q : Option Value → zf_M → Prop} {ls : List Slot} {st : List Value} : zW X 163 1 ls (.int 8 :: st) M Q ↔ zW X 163 130 ls st M Q := zs_tabIn (off := 129) zf_g163 dX9_count_1 (by decide) (by decide +kernel) (by decide)
theorem w163_1_9 {X : zf_X} {M : zf_M} {Q : Option Value → zf_M → Prop} {ls : List Slot} {st : List Value} : zW X 163 1 ls (.int 9 :: st) M Q ↔ zW X 163 135 ls st M Q := zs_tabIn (off := 134) zf_g163 dX9_count_1 (by decide) (by decide +kernel) (by decide)
theorem w163_1_e {X : zf_X} {M : zf_M} {Q : Option Value → zf_M → Prop} {ls : List Slot} {st : List Value} {x : Int32} (h : x.toInt < 0 ∨ 9 < x.toInt) : zW X 163 1 ls (.int x :: st) M Q ↔ zW X 163 140 ls st M Q := zs_tabOut zf_g163 dX9_count_1 h (by decide)
theorem w1000_33_0 {X : zf_X} {M : zf_M} {Q : Option Value → zf_M → Prop} {ls : List Slot} {st : List Value} : zW X 1000 33 ls (.int 0 :: st) M Q ↔ zW X 1000 184 ls st M Q := zs_tabIn (off := 151) zf_g1000 dL_law_33 (by decide) (by decide +kernel) (by decide)
theorem w1000_33_1 {X : zf_X} {M : zf_M} {Q : Option Value → zf_M → Prop} {ls : List Slot} {st : List Value} : zW X 1000 33 ls (.int 1 :: st) M Q ↔ zW X 1000 259 ls st M Q := zs_tabIn (off := 226) zf_g1000 dL_law_33 (by decide) (by decide +kernel) (by decide)
theorem w1000_33_2 {X : zf_X} {M : zf_M} {Q : Option Value → zf_M → Prop} {ls : List Slot} {st : List Value} : zW X 1000 33 ls (.int 2 :: st) M Q ↔ zW X 1000 292 ls st M Q := zs_tabIn (off := 259) zf_g1000 dL_law_33 (by decide) (by decide +kernel) (by decide)
theorem w1000_33_3 {X : zf_X} {M : zf_M} {Q : Option Value → zf_M → Prop} {ls : List Slot} {st : List Value} : zW X 1000 33 ls (.int 3 :: st) M Q ↔ zW X 1000 335 ls st M Q := zs_tabIn (off := 302) zf_g1000 dL_law_33 (by decide) (by decide +kernel) (by decide)
theorem w1000_33_4 {X : zf_X} {M : zf_M} {Q : Option Value → zf_M → Prop} {ls : List Slot} {st : List Value} : zW X 1000 33 ls (.int 4 :: st) M Q ↔ zW X 1000 388 ls st M Q := zs_tabIn (off := 355) zf_g1000 dL_law_33 (by decide) (by decide +kernel) (by decide)
theorem w1000_33_5 {X : zf_X} {M : zf_M} {Q : Option Value → zf_M → Prop} {ls : List Slot} {st : List Value} : zW X 1000 33 ls (.int 5 :: st) M Q ↔ zW X 1000 421 ls st M Q := zs_tabIn (off := 388) zf_g1000 dL_law_33 (by decide) (by decide +kernel) (by decide)
theorem w1000_33_6 {X : zf_X} {M : zf_M} {Q : Option Value → zf_M → Prop} {ls : List Slot} {st : List Value} : zW X 1000 33 ls (.int 6 :: st) M Q ↔ zW X 1000 464 ls st M Q := zs_tabIn (off := 431) zf_g1000 dL_law_33 (by decide) (by decide +kernel) (by decide)
theorem w1000_33_7 {X : zf_X} {M : zf_M} {Q : Option Value → zf_M → Prop} {ls : List Slot} {st : List Value} : zW X 1000 33 ls (.int 7 :: st) M Q ↔ zW X 1000 477 ls st M Q := zs_tabIn (off := 444) zf_g1000 dL_law_33 (by decide) (by decide +kernel) (by decide)
theorem w1000_33_8 {X : zf_X} {M : zf_M} {Q : Option Value → zf_M → Prop} {ls : List Slot} {st : List Value} : zW X 1000 33 ls (.int 8 :: st) M Q ↔ zW X 1000 491 ls st M Q := zs_tabIn (off := 458) zf_g1000 dL_law_33 (by decide) (by decide +kernel) (by decide)
theorem w1000_33_9 {X : zf_X} {M : zf_M} {Q : Option Value → zf_M → Prop} {ls : List Slot} {st : List Value} : zW X 1000 33 ls (.int 9 :: st) M Q ↔ zW X 1000 515 ls st M Q := zs_tabIn (off := 482) zf_g1000 dL_law_33 (by decide) (by decide +kernel) (by decide)
theorem w1000_33_10 {X : zf_X} {M : zf_M} {Q : Option Value → zf_M → Prop} {ls : List Slot} {st : List Value} : zW X 1000 33 ls (.int 10 :: st) M Q ↔ zW X 1000 528 ls st M Q := zs_tabIn (off := 495) zf_g1000 dL_law_33 (by decide) (by decide +kernel) (by decide)
theorem w1000_33_11 {X : zf_X} {M : zf_M} {Q : Option Value → zf_M → Prop} {ls : List Slot} {st : List Value} : zW X 1000 33 ls (.int 11 :: st) M Q ↔ zW X 1000 582 ls st M Q := zs_tabIn (off := 549) zf_g1000 dL_law_33 (by decide) (by decide +kernel) (by decide)
theorem w1000_33_12 {X : zf_X} {M : zf_M} {Q : Option Value → zf_M → Prop} {ls : List Slot} {st : List Value} : zW X 1000 33 ls (.int 12 :: st) M Q ↔ zW X 1000 595 ls st M Q := zs_tabIn (off := 562) zf_g1000 dL_law_33 (by decide) (by decide +kernel) (by decide)
theorem w1000_33_13 {X : zf_X} {M : zf_M} {Q : Option Value → zf_M → Prop} {ls : List Slot} {st : List Value} : zW X 1000 33 ls (.int 13 :: st) M Q ↔ zW X 1000 619 ls st M Q := zs_tabIn (off := 586) zf_g1000 dL_law_33 (by decide) (by decide +kernel) (by decide)
theorem w1000_33_14 {X : zf_X} {M : zf_M} {Q : Option Value → zf_M → Prop} {ls : List Slot} {st : List Value} : zW X 1000 33 ls (.int 14 :: st) M Q ↔ zW X 1000 652 ls st M Q := zs_tabIn (off := 619) zf_g1000 dL_law_33 (by decide) (by decide +kernel) (by decide)
theorem w1000_33_15 {X : zf_X} {M : zf_M} {Q : Option Value → zf_M → Prop} {ls : List Slot} {st : List Value} : zW X 1000 33 ls (.int 15 :: st) M Q ↔ zW X 1000 675 ls st M Q := zs_tabIn (off := 642) zf_g1000 dL_law_33 (by decide) (by decide +kernel) (by decide)
theorem w1000_33_16 {X : zf_X} {M : zf_M} {Q : Option Value → zf_M → Prop} {ls : List Slot} {st : List Value} : zW X 1000 33 ls (.int 16 :: st) M Q ↔ zW X 1000 698 ls st M Q := zs_tabIn (off := 665) zf_g1000 dL_law_33 (by decide) (by decide +kernel) (by decide)
theorem w1000_33_17 {X : zf_X} {M : zf_M} {Q : Option Value → zf_M → Prop} {ls : List Slot} {st : List Value} : zW X 1000 33 ls (.int 17 :: st) M Q ↔ zW X 1000 741 ls st M Q := zs_tabIn (off := 708) zf_g1000 dL_law_33 (by decide) (by decide +kernel) (by decide)
theorem w1000_33_18 {X : zf_X} {M : zf_M} {Q : Option Value → zf_M → Prop} {ls : List Slot} {st : List Value} : zW X 1000 33 ls (.int 18 :: st) M Q ↔ zW X 1000 754 ls st M Q := zs_tabIn (off := 721) zf_g1000 dL_law_33 (by decide) (by decide +kernel) (by decide)
theorem w1000_33_19 {X : zf_X} {M : zf_M} {Q : Option Value → zf_M → Prop} {ls : List Slot} {st : List Value} : zW X 1000 33 ls (.int 19 :: st) M Q ↔ zW X 1000 787 ls st M Q := zs_tabIn (off := 754) zf_g1000 dL_law_33 (by decide) (by decide +kernel) (by decide)
theorem w1000_33_20 {X : zf_X} {M : zf_M} {Q : Option Value → zf_M → Prop} {ls : List Slot} {st : List Value} : zW X 1000 33 ls (.int 20 :: st) M Q ↔ zW X 1000 800 ls st M Q := zs_tabIn (off := 767) zf_g1000 dL_law_33 (by decide) (by decide +kernel) (by decide)
theorem w1000_33_21 {X : zf_X} {M : zf_M} {Q : Option Value → zf_M → Prop} {ls : List Slot} {st : List Value} : zW X 1000 33 ls (.int 21 :: st) M Q ↔ zW X 1000 813 ls st M Q := zs_tabIn (off := 780) zf_g1000 dL_law_33 (by decide) (by decide +kernel) (by decide)
theorem w1000_33_22 {X : zf_X} {M : zf_M} {Q : Option Value → zf_M → Prop} {ls : List Slot} {st : List Value} : zW X 1000 33 ls (.int 22 :: st) M Q ↔ zW X 1000 846 ls st M Q := zs_tabIn (off := 813) zf_g1000 dL_law_33 (by decide) (by decide +kernel) (by decide)
theorem w1000_33_23 {X : zf_X} {M : zf_M} {Q : Option Value → zf_M → Prop} {ls : List Slot} {st : List Value} : zW X 1000 33 ls (.int 23 :: st) M Q ↔ zW X 1000 879 ls st M Q := zs_tabIn (off := 846) zf_g1000 dL_law_33 (by decide) (by decide +kernel) (by decide)
theorem w1000_33_24 {X : zf_X} {M : zf_M} {Q : Option Value → zf_M → Prop} {ls : List Slot} {st : List Value} : zW X 1000 33 ls (.int 24 :: st) M Q ↔ zW X 1000 902 ls st M Q := zs_tabIn (off := 869) zf_g1000 dL_law_33 (by decide) (by decide +kernel) (by decide)
theorem w1000_33_25 {X : zf_X} {M : zf_M} {Q : Option Value → zf_M → Prop} {ls : List Slot} {st : List Value} : zW X 1000 33 ls (.int 25 :: st) M Q ↔ zW X 1000 925 ls st M Q := zs_tabIn (off := 892) zf_g1000 dL_law_33 (by decide) (by decide +kernel) (by decide)
theorem w1000_33_26 {X : zf_X} {M : zf_M} {Q : Option Value → zf_M → Prop} {ls : List Slot} {st : List Value} : zW X 1000 33 ls (.int 26 :: st) M Q ↔ zW X 1000 948 ls st M Q := zs_tabIn (off := 915) zf_g1000 dL_law_33 (by decide) (by decide +kernel) (by decide)
theorem w1000_33_27 {X : zf_X} {M : zf_M} {Q : Option Value → zf_M → Prop} {ls : List Slot} {st : List Value} : zW X 1000 33 ls (.int 27 :: st) M Q ↔ zW X 1000 991 ls st M Q := zs_tabIn (off := 958) zf_g1000 dL_law_33 (by decide) (by decide +kernel) (by decide)
theorem w1000_33_28 {X : zf_X} {M : zf_M} {Q : Option Value → zf_M → Prop} {ls : List Slot} {st : List Value} : zW X 1000 33 ls (.int 28 :: st) M Q ↔ zW X 1000 1014 ls st M Q := zs_tabIn (off := 981) zf_g1000 dL_law_33 (by decide) (by decide +kernel) (by decide)
theorem w1000_33_29 {X : zf_X} {M : zf_M} {Q : Option Value → zf_M → Prop} {ls : List Slot} {st : List Value} : zW X 1000 33 ls (.int 29 :: st) M Q ↔ zW X 1000 1067 ls st M Q := zs_tabIn (off := 1034) zf_g1000 dL_law_33 (by decide) (by decide +kernel) (by decide)
theorem w1000_33_30 {X : zf_X} {M : zf_M} {Q : Option Value → zf_M → Prop} {ls : List Slot} {st : List Value} : zW X 1000 33 ls (.int 30 :: st) M Q ↔ zW X 1000 1110 ls st M Q := zs_tabIn (off := 1077) zf_g1000 dL_law_33 (by decide) (by decide +kernel) (by decide)
theorem w1000_33_31 {X : zf_X} {M : zf_M} {Q : Option Value → zf_M → Prop} {ls : List Slot} {st : List Value} : zW X 1000 33 ls (.int 31 :: st) M Q ↔ zW X 1000 1173 ls st M Q := zs_tabIn (off := 1140) zf_g1000 dL_law_33 (by decide) (by decide +kernel) (by decide)
theorem w1000_33_32 {X : zf_X} {M : zf_M} {Q : Option Value → zf_M → Prop} {ls : List Slot} {st : List Value} : zW X 1000 33 ls (.int 32 :: st) M Q ↔ zW X 1000 1206 ls st M Q := zs_tabIn (off := 1173) zf_g1000 dL_law_33 (by decide) (by decide +kernel) (by decide)
theorem w1000_33_33 {X : zf_X} {M : zf_M} {Q : Option Value → zf_M → Prop} {ls : List Slot} {st : List Value} : zW X 1000 33 ls (.int 33 :: st) M Q ↔ zW X 1000 1229 ls st M Q := zs_tabIn (off := 1196) zf_g1000 dL_law_33 (by decide) (by decide +kernel) (by decide)
theorem w1000_33_e {X : zf_X} {M : zf_M} {Q : Option Value → zf_M → Prop} {ls : List Slot} {st : List Value} {x : Int32} (h : x.toInt < 0 ∨ 33 < x.toInt) : zW X 1000 33 ls (.int x :: st) M Q ↔ zW X 1000 1243 ls st M Q := zs_tabOut zf_g1000 dL_law_33 h (by decide)
/-- the cells behind both constructors -/
def zSH : List (Nat × Nat) := [(8, 0), (5, 0), (10, 96), (13, 2), (2, 0), (10, 6), (10, 6), (10, 6), (10, 6), (10, 6), (10, 6), (10, 6), (4, 0), (11, 3), (11, 7), (11, 384), (3, 0), (11, 400), (11, 400), (10, 400), (10, 1024), (3, 0), (11, 400), (11, 400), (10, 400), (10, 1024), (1, 0), (13, 6), (10, 6), (10, 6), (6, 0), (10, 3), (6, 0), (10, 3), (6, 0), (10, 3), (6, 0), (10, 3), (6, 0), (10, 3), (6, 0), (10, 3), (10, 27), (0, 0), (10, 6), (14, 4), (6, 0), (10, 3), (6, 0), (10, 3), (7, 0), (10, 60), (7, 0), (10, 60), (7, 0), (10, 60), (7, 0), (10, 60), (9, 0), (10, 96), (10, 6), (10, 6), (10, 6), (10, 6), (10, 6), (12, 6), (11, 400), (11, 400), (11, 800), (11, 800), (10, 2048), (11, 3), (11, 7), (11, 252), (11, 24), (10, 18), (10, 12), (10, 27), (10, 3), (10, 6), (10, 6), (10, 4), (10, 4), (10, 240), (10, 60)]
def zkd (a : Nat) : Nat := (zSH.getD a (99, 0)).1
def znd (k a : Nat) : Nat := if (zSH.getD a (99, 0)).1 = k then (zSH.getD a (99, 0)).2 else 0
theorem zk_of {M : zf_M} (h : M.1 = zSH) (a : Nat) : zf_k M a = zkd a := by unfold zf_k zkd; rw [h]
theorem zn_of {M : zf_M} (h : M.1 = zSH) (k a : Nat) : zf_n M k a = znd k a := by unfold zf_n znd; rw [h]
theorem zkd0 : zkd 0 = 8 := rfl
theorem zkd1 : zkd 1 = 5 := rfl
theorem zkd2 : zkd 2 = 10 := rfl
theorem znd2 : znd 10 2 = 96 := rfl
theorem zkd3 : zkd 3 = 13 := rfl
theorem znd3 : znd 13 3 = 2 := rfl
theorem zkd4 : zkd 4 = 2 := rfl
theorem zkd5 : zkd 5 = 10 := rfl
theorem znd5 : znd 10 5 = 6 := rfl
theorem zkd6 : zkd 6 = 10 := rfl
theorem znd6 : znd 10 6 = 6 := rfl
theorem zkd7 : zkd 7 = 10 := rfl
theorem znd7 : znd 10 7 = 6 := rfl
theorem zkd8 : zkd 8 = 10 := rfl
theorem znd8 : znd 10 8 = 6 := rfl
theorem zkd9 : zkd 9 = 10 := rfl
theorem znd9 : znd 10 9 = 6 := rfl
theorem zkd10 : zkd 10 = 10 := rfl
theorem znd10 : znd 10 10 = 6 := rfl
theorem zkd11 : zkd 11 = 10 := rfl
theorem znd11 : znd 10 11 = 6 := rfl
theorem zkd12 : zkd 12 = 4 := rfl
theorem zkd13 : zkd 13 = 11 := rfl
theorem znd13 : znd 11 13 = 3 := rfl
theorem zkd14 : zkd 14 = 11 := rfl
theorem znd14 : znd 11 14 = 7 := rfl
theorem zkd15 : zkd 15 = 11 := rfl
theorem znd15 : znd 11 15 = 384 := rfl
theorem zkd16 : zkd 16 = 3 := rfl
theorem zkd17 : zkd 17 = 11 := rfl
theorem znd17 : znd 11 17 = 400 := rfl
theorem zkd18 : zkd 18 = 11 := rfl
theorem znd18 : znd 11 18 = 400 := rfl
theorem zkd19 : zkd 19 = 10 := rfl
theorem znd19 : znd 10 19 = 400 := rfl
theorem zkd20 : zkd 20 = 10 := rfl
theorem znd20 : znd 10 20 = 1024 := rfl
theorem zkd21 : zkd 21 = 3 := rfl
theorem zkd22 : zkd 22 = 11 := rfl
theorem znd22 : znd 11 22 = 400 := rfl
theorem zkd23 : zkd 23 = 11 := rfl
theorem znd23 : znd 11 23 = 400 := rfl
theorem zkd24 : zkd 24 = 10 := rfl
theorem znd24 : znd 10 24 = 400 := rfl
theorem zkd25 : zkd 25 = 10 := rfl
theorem znd25 : znd 10 25 = 1024 := rfl
theorem zkd26 : zkd 26 = 1 := rfl
theorem zkd27 : zkd 27 = 13 := rfl
theorem znd27 : znd 13 27 = 6 := rfl
theorem zkd28 : zkd 28 = 10 := rfl
theorem znd28 : znd 10 28 = 6 := rfl
theorem zkd29 : zkd 29 = 10 := rfl
theorem znd29 : znd 10 29 = 6 := rfl
theorem zkd30 : zkd 30 = 6 := rfl
theorem zkd31 : zkd 31 = 10 := rfl
theorem znd31 : znd 10 31 = 3 := rfl
theorem zkd32 : zkd 32 = 6 := rfl
theorem zkd33 : zkd 33 = 10 := rfl
theorem znd33 : znd 10 33 = 3 := rfl
theorem zkd34 : zkd 34 = 6 := rfl
theorem zkd35 : zkd 35 = 10 := rfl
theorem znd35 : znd 10 35 = 3 := rfl
theorem zkd36 : zkd 36 = 6 := rfl
theorem zkd37 : zkd 37 = 10 := rfl
theorem znd37 : znd 10 37 = 3 := rfl
theorem zkd38 : zkd 38 = 6 := rfl
theorem zkd39 : zkd 39 = 10 := rfl
theorem znd39 : znd 10 39 = 3 := rfl
theorem zkd40 : zkd 40 = 6 := rfl
theorem zkd41 : zkd 41 = 10 := rfl
theorem znd41 : znd 10 41 = 3 := rfl
theorem zkd42 : zkd 42 = 10 := rfl
theorem znd42 : znd 10 42 = 27 := rfl
theorem zkd43 : zkd 43 = 0 := rfl
theorem zkd44 : zkd 44 = 10 := rfl
theorem znd44 : znd 10 44 = 6 := rfl
theorem zkd45 : zkd 45 = 14 := rfl
theorem znd45 : znd 14 45 = 4 := rfl
theorem zkd46 : zkd 46 = 6 := rfl
theorem zkd47 : zkd 47 = 10 := rfl
theorem znd47 : znd 10 47 = 3 := rfl
theorem zkd48 : zkd 48 = 6 := rfl
theorem zkd49 : zkd 49 = 10 := rfl
theorem znd49 : znd 10 49 = 3 := rfl
theorem zkd50 : zkd 50 = 7 := rfl
theorem zkd51 : zkd 51 = 10 := rfl
theorem znd51 : znd 10 51 = 60 := rfl
theorem zkd52 : zkd 52 = 7 := rfl
theorem zkd53 : zkd 53 = 10 := rfl
theorem znd53 : znd 10 53 = 60 := rfl
theorem zkd54 : zkd 54 = 7 := rfl
theorem zkd55 : zkd 55 = 10 := rfl
theorem znd55 : znd 10 55 = 60 := rfl
theorem zkd56 : zkd 56 = 7 := rfl
theorem zkd57 : zkd 57 = 10 := rfl
theorem znd57 : znd 10 57 = 60 := rfl
theorem zkd58 : zkd 58 = 9 := rfl
theorem zkd59 : zkd 59 = 10 := rfl
theorem znd59 : znd 10 59 = 96 := rfl
theorem zkd60 : zkd 60 = 10 := rfl
theorem znd60 : znd 10 60 = 6 := rfl
theorem zkd61 : zkd 61 = 10 := rfl
theorem znd61 : znd 10 61 = 6 := rfl
theorem zkd62 : zkd 62 = 10 := rfl
theorem znd62 : znd 10 62 = 6 := rfl
theorem zkd63 : zkd 63 = 10 := rfl
theorem znd63 : znd 10 63 = 6 := rfl
theorem zkd64 : zkd 64 = 10 := rfl
theorem znd64 : znd 10 64 = 6 := rfl
theorem zkd65 : zkd 65 = 12 := rfl
theorem znd65 : znd 12 65 = 6 := rfl
theorem zkd66 : zkd 66 = 11 := rfl
theorem znd66 : znd 11 66 = 400 := rfl
theorem zkd67 : zkd 67 = 11 := rfl
theorem znd67 : znd 11 67 = 400 := rfl
theorem zkd68 : zkd 68 = 11 := rfl
theorem znd68 : znd 11 68 = 800 := rfl
theorem zkd69 : zkd 69 = 11 := rfl
theorem znd69 : znd 11 69 = 800 := rfl
theorem zkd70 : zkd 70 = 10 := rfl
theorem znd70 : znd 10 70 = 2048 := rfl
theorem zkd71 : zkd 71 = 11 := rfl
theorem znd71 : znd 11 71 = 3 := rfl
theorem zkd72 : zkd 72 = 11 := rfl
theorem znd72 : znd 11 72 = 7 := rfl
theorem zkd73 : zkd 73 = 11 := rfl
theorem znd73 : znd 11 73 = 252 := rfl
theorem zkd74 : zkd 74 = 11 := rfl
theorem znd74 : znd 11 74 = 24 := rfl
theorem zkd75 : zkd 75 = 10 := rfl
theorem znd75 : znd 10 75 = 18 := rfl
theorem zkd76 : zkd 76 = 10 := rfl
theorem znd76 : znd 10 76 = 12 := rfl
theorem zkd77 : zkd 77 = 10 := rfl
theorem znd77 : znd 10 77 = 27 := rfl
theorem zkd78 : zkd 78 = 10 := rfl
theorem znd78 : znd 10 78 = 3 := rfl
theorem zkd79 : zkd 79 = 10 := rfl
theorem znd79 : znd 10 79 = 6 := rfl
theorem zkd80 : zkd 80 = 10 := rfl
theorem znd80 : znd 10 80 = 6 := rfl
theorem zkd81 : zkd 81 = 10 := rfl
theorem znd81 : znd 10 81 = 4 := rfl
theorem zkd82 : zkd 82 = 10 := rfl
theorem znd82 : znd 10 82 = 4 := rfl
theorem zkd83 : zkd 83 = 10 := rfl
theorem znd83 : znd 10 83 = 240 := rfl
theorem zkd84 : zkd 84 = 10 := rfl
theorem znd84 : znd 10 84 = 60 := rfl
