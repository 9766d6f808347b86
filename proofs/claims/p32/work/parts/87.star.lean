/-! THE FACE: star -/
section FSt
variable {S : Nat → Nat → Int}
theorem z_mn0 {f : Nat → Int} {n : Nat} (hn : 1 ≤ n) (h : ∀ i, i < n → f i ≤ 0) : z_mn f n = 0 ↔ ∀ i, i < n → 0 ≤ f i := by
  have b6 : INF = 1000000 := rfl
  constructor
  · intro q i hi
    have := z_mn_lb f n i hi
    omega
  · intro q
    have w := z_mn_lb f n 0 (by omega)
    have w0 := h 0 (by omega)
    rcases z_mn_at f n with e | ⟨k, hk, e⟩
    · omega
    · have := q k hk
      have := h k hk
      omega
/-- a power, laid in a row of 25 -/
def sQ (A : Nat → Nat → Int) (n m : Nat) (k : Nat) : Int := if k / 5 < n ∧ k % 5 < n then sP A n m (k / 5) (k % 5) else INF
theorem sP_bd {A : Nat → Nat → Int} {n : Nat} (hA : wA A n) (m : Nat) (hm : m ≤ 6) {i j : Nat} (hi : i < n) (hj : j < n) : -700000 ≤ sP A n m i j ∧ sP A n m i j ≤ 1000000 := by
  have b6 : INF = 1000000 := rfl
  rcases sP_at hA m i j hi hj with w | ⟨l, l1, l2, l3⟩
  · omega
  · have := wW_b hA l i j hi hj l2
    omega
end FSt
