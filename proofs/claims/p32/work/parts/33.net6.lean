/-! Net: minors -/
section NY
variable {h : z_Hp} {B P D : Nat → Nat → Int} {C N : Nat → Int}
theorem nAt.setD (a : nAt h B C N P D) {i : Nat} (hi : i < 4) (j : Nat) (v : Int) : nAt (h.set (24 + i) (.inr (0, 4, z_up (D i) j v))) B C N P (m_up D i j v) := by
  obtain ⟨a1, a2, a3, a4, a5, a6⟩ := a
  have st := a6.set (by omega) hi (z_up (D i) j v)
  have ef : (fun x => if x = i then z_up (D i) j v else D x) = m_up D i j v := by
    funext x y
    unfold m_up z_up
    by_cases hx : x = i
    · subst hx; simp
    · simp [hx]
  rw [ef] at st
  exact ⟨(z_set_ne (by omega)).trans a1, a2.kept (z_set_ne (by omega)) (fun j hj => z_set_ne (by omega)), (z_set_ne (by omega)).trans a3, (z_set_ne (by omega)).trans a4, a5.kept (z_set_ne (by omega)) (fun j hj => z_set_ne (by omega)), st⟩
/-- a row of the minors is laid; the first rows -/
def nLr (B : Nat → Nat → Int) (D : Nat → Nat → Int) (i : Nat) : Nat → Nat → Nat → Int
  | 0 => D
  | j + 1 => m_up (nLr B D i j) i j (-(B (i + 1) (j + 1)))
def nLp (B : Nat → Nat → Int) (D : Nat → Nat → Int) : Nat → Nat → Nat → Int
  | 0 => D
  | i + 1 => m_up (nLr B (nLp B D i) i 4) i i (if 1 < nAll B (i + 1) then nAll B (i + 1) else 1)
end NY
