/-! ===== the model: more asks ===== -/
section ZMl
variable {X : zf_X} {M : zf_M} {Q : Option Value → zf_M → Prop} {q : tQ}
theorem n5 : ¬ (-5 : Int32) = 0 := by decide
end ZMl

