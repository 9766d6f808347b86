/-! The reference: matrices -/
def rA (f : Nat → Int) : Nat → Nat → Int := fun i j => f (5 * i + j)
theorem z_dv {k m : Nat} (hm : 0 < m) (hk : k < 2147483648) (h2 : m < 2147483648) : oDiv (k : Int) (m : Int) = some ((k / m : Nat) : Int) := by
  unfold oDiv
  rw [if_pos (by simp only [Bool.and_eq_true, z_in_iff, decide_eq_true_eq]; omega)]
  rfl
theorem z_rm {k m : Nat} (hm : 0 < m) (hk : k < 2147483648) (h2 : m < 2147483648) : oRem (k : Int) (m : Int) = some ((k % m : Nat) : Int) := by
  unfold oRem
  rw [if_pos (by simp only [Bool.and_eq_true, z_in_iff, decide_eq_true_eq]; omega)]
  rfl
def z_at (o k : Nat) (f g : Nat → Int) : Nat → Int := fun i => if o ≤ i ∧ i < o + k then f (i - o) else g i
theorem z_at_0 (o : Nat) (f g : Nat → Int) : z_at o 0 f g = g := by
  funext i
  unfold z_at
  rw [if_neg (by omega)]
theorem z_at_s (o k : Nat) (f g : Nat → Int) : z_up (z_at o k f g) (o + k) (f k) = z_at o (k + 1) f g := by
  funext i
  unfold z_up z_at
  by_cases h : i = o + k
  · subst h
    rw [if_pos rfl, if_pos (by omega), Nat.add_sub_cancel_left]
  · rw [if_neg h]
    by_cases h2 : o ≤ i ∧ i < o + k
    · rw [if_pos h2, if_pos (by omega)]
    · rw [if_neg h2, if_neg (by omega)]
theorem k_u_4 {S : Nat → Nat → Int} {a b : Nat} {f g f' g' : Nat → Int} (h : a ≠ b) : k_u (k_u (k_u (k_u S a f) b g) a f') b g' = k_u (k_u S a f') b g' := by
  funext x
  unfold k_u
  by_cases h1 : x = b
  · simp [h1]
  · by_cases h2 : x = a
    · simp [h1, h2]
    · simp [h1, h2]
section RM
variable {S : Nat → Nat → Int}
def rCo (A B : Nat → Nat → Int) (n : Nat) : Nat → Int := fun x => if x / 5 < n ∧ x % 5 < n then mMul A B n (x / 5) (x % 5) else INF
end RM
