/-! The reference: determinants -/
theorem z_or4 {a b c d e : Prop} (h : a ∨ b ∨ c ∨ d) (x : a → e) (y : b → e) (z : c → e) (w : d → e) : e := h.elim x (fun h => h.elim y (fun h => h.elim z w))
theorem z_or2 {a b e : Prop} (h : a ∨ b) (x : a → e) (y : b → e) : e := h.elim x y
theorem z_up_id (f : Nat → Int) (k : Nat) : z_up f k (f k) = f := by
  funext i
  unfold z_up
  split
  · next h => rw [h]
  · rfl
theorem o_rest : ∀ (s : Fin 32) (c : Fin 5), oAnd (s.val : Int) (-((2 ^ c.val : Nat) : Int) - 1) = some ((if s.val.testBit c.val then s.val - 2 ^ c.val else s.val : Nat) : Int) := by decide
section RB
variable {S : Nat → Nat → Int}
theorem qT_to {α : Type} {x : z_Rs α} {v : α} {h : z_Hp} (H : qT x (fun w h' => w = v ∧ h' = h) (fun _ _ => False)) : x = some (.inl v, h) := by
  rcases x with _ | ⟨a | E, h'⟩
  · exact H.elim
  · obtain ⟨rfl, rfl⟩ := H
    rfl
  · exact H.elim
end RB
