/-! ===== the model: who fights ===== -/
def zvo (o : Option Nat) : Int32 := match o with
  | none => -1
  | some f => nI f
section ZMb
variable {X : zf_X} {M : zf_M} {Q : Option Value → zf_M → Prop} {n : Nat} {c : zCs}
end ZMb

