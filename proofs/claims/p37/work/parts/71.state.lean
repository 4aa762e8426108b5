/-! ===== the model: a state ===== -/
/-- who won, as the model says it -/
def zwm (N : Nat) : Int32 := if zwin N = -1 then 2 else zwin N
section ZMs
variable {X : zf_X} {M : zf_M} {Q : Option Value → zf_M → Prop} {N k : Nat}
end ZMs

