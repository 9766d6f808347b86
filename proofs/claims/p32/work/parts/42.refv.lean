/-! The reference: vectors, distances -/
theorem z_fa_s (P : Nat → Prop) (m : Nat) : (∀ k, k < m + 1 → P k) ↔ (∀ k, k < m → P k) ∧ P m :=
  ⟨fun q => ⟨fun k hk => q k (by omega), q m (by omega)⟩, fun q k hk => by rcases Nat.lt_succ_iff_lt_or_eq.mp hk with h | rfl; exact q.1 k h; exact q.2⟩
theorem z_fa_0 (P : Nat → Prop) : (∀ k, k < 0 → P k) ↔ True := ⟨fun _ => trivial, fun _ k hk => absurd hk (Nat.not_lt_zero k)⟩
theorem z_dec_t : z_dec True = true := (z_dec_iff _).mpr trivial
section RV
variable {S : Nat → Nat → Int}
end RV
