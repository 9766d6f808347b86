/-! The reference: polynomials -/
theorem z_mb {x y : Int} {X : Int} (hx : -X ≤ x ∧ x ≤ X) (hy : 0 ≤ y ∧ y ≤ 9) : -(9 * X) ≤ x * y ∧ x * y ≤ 9 * X := by
  obtain ⟨k, rfl⟩ : ∃ k : Nat, y = k := ⟨y.toNat, by omega⟩
  rcases (show k = 0 ∨ k = 1 ∨ k = 2 ∨ k = 3 ∨ k = 4 ∨ k = 5 ∨ k = 6 ∨ k = 7 ∨ k = 8 ∨ k = 9 by omega) with rfl | rfl | rfl | rfl | rfl | rfl | rfl | rfl | rfl | rfl <;> omega
section RP
variable {S : Nat → Nat → Int}
def pOv (f : Nat → Int) (i m : Nat) : Prop := ∃ a b : Nat, a < m ∧ i < b ∧ b < 9 ∧ f a ≠ INF ∧ f b ≠ INF ∧ f a * ((b : Int) - i) + f b * ((i : Int) - a) ≤ f i * ((b : Int) - a)
def pOw (f : Nat → Int) (i a m : Nat) : Prop := ∃ b : Nat, i < b ∧ b < m ∧ f a ≠ INF ∧ f b ≠ INF ∧ f a * ((b : Int) - i) + f b * ((i : Int) - a) ≤ f i * ((b : Int) - a)
theorem pOv_s (f : Nat → Int) (i m : Nat) : pOv f i (m + 1) ↔ pOv f i m ∨ pOw f i m 9 := by
  constructor
  · rintro ⟨a, b, h1, h2, h3, h4⟩
    rcases Nat.lt_succ_iff_lt_or_eq.mp h1 with h | rfl
    · exact Or.inl ⟨a, b, h, h2, h3, h4⟩
    · exact Or.inr ⟨b, h2, h3, h4⟩
  · rintro (⟨a, b, h1, h2⟩ | ⟨b, h1, h2, h3⟩)
    · exact ⟨a, b, by omega, h2⟩
    · exact ⟨m, b, by omega, h1, h2, h3⟩
theorem pOw_s (f : Nat → Int) (i a m : Nat) (h : i < m) : pOw f i a (m + 1) ↔ pOw f i a m ∨ (f a ≠ INF ∧ f m ≠ INF ∧ f a * ((m : Int) - i) + f m * ((i : Int) - a) ≤ f i * ((m : Int) - a)) := by
  constructor
  · rintro ⟨b, h1, h2, h3⟩
    rcases Nat.lt_succ_iff_lt_or_eq.mp h2 with h | rfl
    · exact Or.inl ⟨b, h1, h, h3⟩
    · exact Or.inr h3
  · rintro (⟨b, h1, h2, h3⟩ | h3)
    · exact ⟨b, h1, by omega, h3⟩
    · exact ⟨m, h, by omega, h3⟩
theorem pSpare_ov (f : Nat → Int) (i : Nat) : pSpare f i ↔ f i ≠ INF ∧ pOv f i i := Iff.rfl
end RP
