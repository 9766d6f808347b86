/-! The reference: chips are given, owed, burnt; counts -/
theorem p2_b : ∀ x : Fin 5, 2 ^ x.val < 32 := by decide
theorem o_31n : ∀ s : Fin 32, oAnd 31 (-(s.val : Int) - 1) = some ((31 - s.val : Nat) : Int) := by decide
section RD
variable {S : Nat → Nat → Int}
end RD
