/-! The reference: matrices, what is made of them -/
section RN
variable {S : Nat → Nat → Int}
end RN
