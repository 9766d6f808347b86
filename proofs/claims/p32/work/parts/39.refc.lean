/-! The reference: chips -/
theorem i_31 : ∀ k : Fin 5, iB 31 k.val := by decide
theorem nCe_all (B : Nat → Nat → Int) (v : Nat) {k : Nat} (hk : k < 5) : nCe B v 31 (k + 1) = nCe B v 31 k + B v k := by
  rw [nCe, if_pos (i_31 ⟨k, hk⟩)]
section RC
variable {S : Nat → Nat → Int}
theorem o_or0 : ∀ s : Fin 32, oOr (s.val : Int) 0 = some (s.val : Int) := by decide
end RC
