/-! The reference: its static methods -/
theorem z_bd (b : Bool) (Q : Prop) : (b = z_dec Q) ↔ (b = true ↔ Q) := by
  cases b
  · rw [eq_comm, z_dec_f]; simp
  · rw [eq_comm, z_dec_iff]; simp
theorem z_vB1 (b : Bool) : ((1 : Int) = if b = true then 1 else 0) ↔ b = true := by cases b <;> simp
theorem z_vB0 (b : Bool) : ((0 : Int) = if b = true then 1 else 0) ↔ b = false := by cases b <;> simp
theorem z_vBP (P : Prop) [Decidable P] (b : Bool) : ((if P then (1 : Int) else 0) = if b = true then 1 else 0) ↔ (P ↔ b = true) := by
  by_cases h : P <;> cases b <;> simp [h]
theorem qS_cons {s : z_St} {ρ : List z_V} {h : z_Hp} {Q Q' : z_Oc → z_Hp → Prop} (H : qS s ρ h Q) (K : ∀ o h', Q o h' → Q' o h') : qS s ρ h Q' := by
  unfold qS at H ⊢
  generalize s ρ h = r at H ⊢
  rcases r with _ | ⟨o, h'⟩
  · exact H
  · exact K _ _ H
section RS
variable {h : z_Hp}
end RS
