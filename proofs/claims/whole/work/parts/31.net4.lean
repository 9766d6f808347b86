/-! Net: debts -/
theorem i32_in {x : Int} (h : -2147483648 ≤ x ∧ x < 2147483648) : (i32 x).toInt = x := by
  unfold i32
  rw [Int32.toInt_ofInt_of_le (by simpa using h.1) (by simpa using h.2)]
theorem o_xor_neg {x y : Int} (hx : -2147483648 ≤ x ∧ x < 2147483648) (hy : 0 ≤ y ∧ y < 2147483648) : ∃ z, oXor x y = some z ∧ (z < 0 ↔ x < 0) ∧ -2147483648 ≤ z ∧ z < 2147483648 := by
  refine ⟨_, rfl, ?_, ?_, ?_⟩
  · have h1 : ∀ a : Int32, a.toInt < 0 ↔ a.toBitVec.msb = true := fun a => by
      rw [BitVec.msb_eq_toInt, decide_eq_true_iff]
      exact Iff.rfl
    have a := i32_in hx
    have b := i32_in (x := y) ⟨by omega, hy.2⟩
    rw [h1, Int32.toBitVec_xor, BitVec.msb_xor]
    have c : (i32 y).toBitVec.msb = false := by
      rw [Bool.eq_false_iff, ne_eq, ← h1, b]
      omega
    rw [c, Bool.xor_false, ← h1, a]
  · exact Int32.le_toInt _
  · exact Int32.toInt_lt _
