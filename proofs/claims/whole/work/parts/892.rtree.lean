/-! Spanning trees: the reference -/
section RT
variable {S : Nat → Nat → Int} {L : Nat → Nat → Int} {f f0 : Nat → Int}
/-- a column's part of a minor -/
def tm (L : Nat → Nat → Int) (f : Nat → Int) (s c : Nat) : Int := if s.testBit c = true then (if nb (s / 2 ^ (c + 1)) % 2 = 0 then L (nb s - 1) c * f (s - 2 ^ c) else -(L (nb s - 1) c * f (s - 2 ^ c))) else 0
def tCo (L : Nat → Nat → Int) (s c : Nat) (f : Nat → Int) : Nat → Int := if s.testBit c = true then z_up f s (f s + (if nb (s / 2 ^ (c + 1)) % 2 = 0 then L (nb s - 1) c * f (s - 2 ^ c) else -(L (nb s - 1) c * f (s - 2 ^ c)))) else f
def tCs (L : Nat → Nat → Int) (s : Nat) (f : Nat → Int) : Nat → Nat → Int
  | 0 => z_up f s 0
  | c + 1 => tCo L s c (tCs L s f c)
def tW (L : Nat → Nat → Int) (f0 : Nat → Int) : Nat → Nat → Int
  | 0 => z_up f0 0 1
  | s + 1 => tCs L (s + 1) (tW L f0 s) 4
theorem tCs_o (s : Nat) {k : Nat} (hk : k ≠ s) : ∀ c, tCs L s f c k = f k
  | 0 => by
    unfold tCs z_up
    rw [if_neg hk]
  | c + 1 => by
    unfold tCs tCo
    split
    · unfold z_up
      rw [if_neg hk]
      exact tCs_o s hk c
    · exact tCs_o s hk c
theorem tCs_s {s : Nat} (hs : 0 < s) (c : Nat) : tCs L s f (c + 1) s = tCs L s f c s + tm L f s c := by
  have ne : s - 2 ^ c ≠ s := by
    have : 0 < 2 ^ c := Nat.pow_pos (by decide)
    omega
  have e : tCs L s f c (s - 2 ^ c) = f (s - 2 ^ c) := tCs_o s ne c
  show tCo L s c (tCs L s f c) s = _
  unfold tCo tm
  by_cases h : s.testBit c = true
  · rw [if_pos h, if_pos h, e]
    unfold z_up
    rw [if_pos rfl]
  · rw [if_neg h, if_neg h, Int.add_zero]
theorem tCs_4 {s : Nat} (hs : 0 < s) : tCs L s f 4 s = 0 + tm L f s 0 + tm L f s 1 + tm L f s 2 + tm L f s 3 := by
  rw [tCs_s hs 3, tCs_s hs 2, tCs_s hs 1, tCs_s hs 0]
  have e : tCs L s f 0 s = 0 := by
    unfold tCs z_up
    rw [if_pos rfl]
  rw [e]
theorem tW_o (k : Nat) : ∀ d, tW L f0 (k + d) k = tW L f0 k k
  | 0 => rfl
  | d + 1 => by
    show tCs L (k + d + 1) (tW L f0 (k + d)) 4 k = _
    rw [tCs_o (k + d + 1) (by omega) 4]
    exact tW_o k d
theorem tW_0 : tW L f0 0 0 = 1 := by
  unfold tW z_up
  rw [if_pos rfl]
theorem tm_1_0 : tm L f 1 0 = L 0 0 * f 0 := by
  unfold tm
  rw [if_pos (by decide), if_pos (by decide)]
  rfl
theorem tm_1_1 : tm L f 1 1 = 0 := by
  unfold tm
  rw [if_neg (by decide)]
theorem tm_1_2 : tm L f 1 2 = 0 := by
  unfold tm
  rw [if_neg (by decide)]
theorem tm_1_3 : tm L f 1 3 = 0 := by
  unfold tm
  rw [if_neg (by decide)]
theorem tW_1 : tW L f0 1 1 = 0 + L 0 0 * tW L f0 0 0 + 0 + 0 + 0 := by
  have u : tW L f0 1 1 = tCs L 1 (tW L f0 0) 4 1 := rfl
  rw [u, tCs_4 (by decide), tm_1_0, tm_1_1, tm_1_2, tm_1_3]
theorem tm_2_0 : tm L f 2 0 = 0 := by
  unfold tm
  rw [if_neg (by decide)]
theorem tm_2_1 : tm L f 2 1 = L 0 1 * f 0 := by
  unfold tm
  rw [if_pos (by decide), if_pos (by decide)]
  rfl
theorem tm_2_2 : tm L f 2 2 = 0 := by
  unfold tm
  rw [if_neg (by decide)]
theorem tm_2_3 : tm L f 2 3 = 0 := by
  unfold tm
  rw [if_neg (by decide)]
theorem tW_2 : tW L f0 2 2 = 0 + 0 + L 0 1 * tW L f0 0 0 + 0 + 0 := by
  have u : tW L f0 2 2 = tCs L 2 (tW L f0 1) 4 2 := rfl
  rw [u, tCs_4 (by decide), tm_2_0, tm_2_1, tm_2_2, tm_2_3]
  have o1 : tW L f0 1 0 = tW L f0 0 0 := tW_o 0 1
  rw [o1]
theorem tm_3_0 : tm L f 3 0 = -(L 1 0 * f 2) := by
  unfold tm
  rw [if_pos (by decide), if_neg (by decide)]
  rfl
theorem tm_3_1 : tm L f 3 1 = L 1 1 * f 1 := by
  unfold tm
  rw [if_pos (by decide), if_pos (by decide)]
  rfl
theorem tm_3_2 : tm L f 3 2 = 0 := by
  unfold tm
  rw [if_neg (by decide)]
theorem tm_3_3 : tm L f 3 3 = 0 := by
  unfold tm
  rw [if_neg (by decide)]
theorem tW_3 : tW L f0 3 3 = 0 + -(L 1 0 * tW L f0 2 2) + L 1 1 * tW L f0 1 1 + 0 + 0 := by
  have u : tW L f0 3 3 = tCs L 3 (tW L f0 2) 4 3 := rfl
  rw [u, tCs_4 (by decide), tm_3_0, tm_3_1, tm_3_2, tm_3_3]
  have o1 : tW L f0 2 1 = tW L f0 1 1 := tW_o 1 1
  rw [o1]
theorem tm_4_0 : tm L f 4 0 = 0 := by
  unfold tm
  rw [if_neg (by decide)]
theorem tm_4_1 : tm L f 4 1 = 0 := by
  unfold tm
  rw [if_neg (by decide)]
theorem tm_4_2 : tm L f 4 2 = L 0 2 * f 0 := by
  unfold tm
  rw [if_pos (by decide), if_pos (by decide)]
  rfl
theorem tm_4_3 : tm L f 4 3 = 0 := by
  unfold tm
  rw [if_neg (by decide)]
theorem tW_4 : tW L f0 4 4 = 0 + 0 + 0 + L 0 2 * tW L f0 0 0 + 0 := by
  have u : tW L f0 4 4 = tCs L 4 (tW L f0 3) 4 4 := rfl
  rw [u, tCs_4 (by decide), tm_4_0, tm_4_1, tm_4_2, tm_4_3]
  have o2 : tW L f0 3 0 = tW L f0 0 0 := tW_o 0 3
  rw [o2]
theorem tm_5_0 : tm L f 5 0 = -(L 1 0 * f 4) := by
  unfold tm
  rw [if_pos (by decide), if_neg (by decide)]
  rfl
theorem tm_5_1 : tm L f 5 1 = 0 := by
  unfold tm
  rw [if_neg (by decide)]
theorem tm_5_2 : tm L f 5 2 = L 1 2 * f 1 := by
  unfold tm
  rw [if_pos (by decide), if_pos (by decide)]
  rfl
theorem tm_5_3 : tm L f 5 3 = 0 := by
  unfold tm
  rw [if_neg (by decide)]
theorem tW_5 : tW L f0 5 5 = 0 + -(L 1 0 * tW L f0 4 4) + 0 + L 1 2 * tW L f0 1 1 + 0 := by
  have u : tW L f0 5 5 = tCs L 5 (tW L f0 4) 4 5 := rfl
  rw [u, tCs_4 (by decide), tm_5_0, tm_5_1, tm_5_2, tm_5_3]
  have o2 : tW L f0 4 1 = tW L f0 1 1 := tW_o 1 3
  rw [o2]
theorem tm_6_0 : tm L f 6 0 = 0 := by
  unfold tm
  rw [if_neg (by decide)]
theorem tm_6_1 : tm L f 6 1 = -(L 1 1 * f 4) := by
  unfold tm
  rw [if_pos (by decide), if_neg (by decide)]
  rfl
theorem tm_6_2 : tm L f 6 2 = L 1 2 * f 2 := by
  unfold tm
  rw [if_pos (by decide), if_pos (by decide)]
  rfl
theorem tm_6_3 : tm L f 6 3 = 0 := by
  unfold tm
  rw [if_neg (by decide)]
theorem tW_6 : tW L f0 6 6 = 0 + 0 + -(L 1 1 * tW L f0 4 4) + L 1 2 * tW L f0 2 2 + 0 := by
  have u : tW L f0 6 6 = tCs L 6 (tW L f0 5) 4 6 := rfl
  rw [u, tCs_4 (by decide), tm_6_0, tm_6_1, tm_6_2, tm_6_3]
  have o1 : tW L f0 5 4 = tW L f0 4 4 := tW_o 4 1
  rw [o1]
  have o2 : tW L f0 5 2 = tW L f0 2 2 := tW_o 2 3
  rw [o2]
theorem tm_7_0 : tm L f 7 0 = L 2 0 * f 6 := by
  unfold tm
  rw [if_pos (by decide), if_pos (by decide)]
  rfl
theorem tm_7_1 : tm L f 7 1 = -(L 2 1 * f 5) := by
  unfold tm
  rw [if_pos (by decide), if_neg (by decide)]
  rfl
theorem tm_7_2 : tm L f 7 2 = L 2 2 * f 3 := by
  unfold tm
  rw [if_pos (by decide), if_pos (by decide)]
  rfl
theorem tm_7_3 : tm L f 7 3 = 0 := by
  unfold tm
  rw [if_neg (by decide)]
theorem tW_7 : tW L f0 7 7 = 0 + L 2 0 * tW L f0 6 6 + -(L 2 1 * tW L f0 5 5) + L 2 2 * tW L f0 3 3 + 0 := by
  have u : tW L f0 7 7 = tCs L 7 (tW L f0 6) 4 7 := rfl
  rw [u, tCs_4 (by decide), tm_7_0, tm_7_1, tm_7_2, tm_7_3]
  have o1 : tW L f0 6 5 = tW L f0 5 5 := tW_o 5 1
  rw [o1]
  have o2 : tW L f0 6 3 = tW L f0 3 3 := tW_o 3 3
  rw [o2]
theorem tm_8_0 : tm L f 8 0 = 0 := by
  unfold tm
  rw [if_neg (by decide)]
theorem tm_8_1 : tm L f 8 1 = 0 := by
  unfold tm
  rw [if_neg (by decide)]
theorem tm_8_2 : tm L f 8 2 = 0 := by
  unfold tm
  rw [if_neg (by decide)]
theorem tm_8_3 : tm L f 8 3 = L 0 3 * f 0 := by
  unfold tm
  rw [if_pos (by decide), if_pos (by decide)]
  rfl
theorem tW_8 : tW L f0 8 8 = 0 + 0 + 0 + 0 + L 0 3 * tW L f0 0 0 := by
  have u : tW L f0 8 8 = tCs L 8 (tW L f0 7) 4 8 := rfl
  rw [u, tCs_4 (by decide), tm_8_0, tm_8_1, tm_8_2, tm_8_3]
  have o3 : tW L f0 7 0 = tW L f0 0 0 := tW_o 0 7
  rw [o3]
theorem tm_9_0 : tm L f 9 0 = -(L 1 0 * f 8) := by
  unfold tm
  rw [if_pos (by decide), if_neg (by decide)]
  rfl
theorem tm_9_1 : tm L f 9 1 = 0 := by
  unfold tm
  rw [if_neg (by decide)]
theorem tm_9_2 : tm L f 9 2 = 0 := by
  unfold tm
  rw [if_neg (by decide)]
theorem tm_9_3 : tm L f 9 3 = L 1 3 * f 1 := by
  unfold tm
  rw [if_pos (by decide), if_pos (by decide)]
  rfl
theorem tW_9 : tW L f0 9 9 = 0 + -(L 1 0 * tW L f0 8 8) + 0 + 0 + L 1 3 * tW L f0 1 1 := by
  have u : tW L f0 9 9 = tCs L 9 (tW L f0 8) 4 9 := rfl
  rw [u, tCs_4 (by decide), tm_9_0, tm_9_1, tm_9_2, tm_9_3]
  have o3 : tW L f0 8 1 = tW L f0 1 1 := tW_o 1 7
  rw [o3]
theorem tm_10_0 : tm L f 10 0 = 0 := by
  unfold tm
  rw [if_neg (by decide)]
theorem tm_10_1 : tm L f 10 1 = -(L 1 1 * f 8) := by
  unfold tm
  rw [if_pos (by decide), if_neg (by decide)]
  rfl
theorem tm_10_2 : tm L f 10 2 = 0 := by
  unfold tm
  rw [if_neg (by decide)]
theorem tm_10_3 : tm L f 10 3 = L 1 3 * f 2 := by
  unfold tm
  rw [if_pos (by decide), if_pos (by decide)]
  rfl
theorem tW_10 : tW L f0 10 10 = 0 + 0 + -(L 1 1 * tW L f0 8 8) + 0 + L 1 3 * tW L f0 2 2 := by
  have u : tW L f0 10 10 = tCs L 10 (tW L f0 9) 4 10 := rfl
  rw [u, tCs_4 (by decide), tm_10_0, tm_10_1, tm_10_2, tm_10_3]
  have o1 : tW L f0 9 8 = tW L f0 8 8 := tW_o 8 1
  rw [o1]
  have o3 : tW L f0 9 2 = tW L f0 2 2 := tW_o 2 7
  rw [o3]
theorem tm_11_0 : tm L f 11 0 = L 2 0 * f 10 := by
  unfold tm
  rw [if_pos (by decide), if_pos (by decide)]
  rfl
theorem tm_11_1 : tm L f 11 1 = -(L 2 1 * f 9) := by
  unfold tm
  rw [if_pos (by decide), if_neg (by decide)]
  rfl
theorem tm_11_2 : tm L f 11 2 = 0 := by
  unfold tm
  rw [if_neg (by decide)]
theorem tm_11_3 : tm L f 11 3 = L 2 3 * f 3 := by
  unfold tm
  rw [if_pos (by decide), if_pos (by decide)]
  rfl
theorem tW_11 : tW L f0 11 11 = 0 + L 2 0 * tW L f0 10 10 + -(L 2 1 * tW L f0 9 9) + 0 + L 2 3 * tW L f0 3 3 := by
  have u : tW L f0 11 11 = tCs L 11 (tW L f0 10) 4 11 := rfl
  rw [u, tCs_4 (by decide), tm_11_0, tm_11_1, tm_11_2, tm_11_3]
  have o1 : tW L f0 10 9 = tW L f0 9 9 := tW_o 9 1
  rw [o1]
  have o3 : tW L f0 10 3 = tW L f0 3 3 := tW_o 3 7
  rw [o3]
theorem tm_12_0 : tm L f 12 0 = 0 := by
  unfold tm
  rw [if_neg (by decide)]
theorem tm_12_1 : tm L f 12 1 = 0 := by
  unfold tm
  rw [if_neg (by decide)]
theorem tm_12_2 : tm L f 12 2 = -(L 1 2 * f 8) := by
  unfold tm
  rw [if_pos (by decide), if_neg (by decide)]
  rfl
theorem tm_12_3 : tm L f 12 3 = L 1 3 * f 4 := by
  unfold tm
  rw [if_pos (by decide), if_pos (by decide)]
  rfl
theorem tW_12 : tW L f0 12 12 = 0 + 0 + 0 + -(L 1 2 * tW L f0 8 8) + L 1 3 * tW L f0 4 4 := by
  have u : tW L f0 12 12 = tCs L 12 (tW L f0 11) 4 12 := rfl
  rw [u, tCs_4 (by decide), tm_12_0, tm_12_1, tm_12_2, tm_12_3]
  have o2 : tW L f0 11 8 = tW L f0 8 8 := tW_o 8 3
  rw [o2]
  have o3 : tW L f0 11 4 = tW L f0 4 4 := tW_o 4 7
  rw [o3]
theorem tm_13_0 : tm L f 13 0 = L 2 0 * f 12 := by
  unfold tm
  rw [if_pos (by decide), if_pos (by decide)]
  rfl
theorem tm_13_1 : tm L f 13 1 = 0 := by
  unfold tm
  rw [if_neg (by decide)]
theorem tm_13_2 : tm L f 13 2 = -(L 2 2 * f 9) := by
  unfold tm
  rw [if_pos (by decide), if_neg (by decide)]
  rfl
theorem tm_13_3 : tm L f 13 3 = L 2 3 * f 5 := by
  unfold tm
  rw [if_pos (by decide), if_pos (by decide)]
  rfl
theorem tW_13 : tW L f0 13 13 = 0 + L 2 0 * tW L f0 12 12 + 0 + -(L 2 2 * tW L f0 9 9) + L 2 3 * tW L f0 5 5 := by
  have u : tW L f0 13 13 = tCs L 13 (tW L f0 12) 4 13 := rfl
  rw [u, tCs_4 (by decide), tm_13_0, tm_13_1, tm_13_2, tm_13_3]
  have o2 : tW L f0 12 9 = tW L f0 9 9 := tW_o 9 3
  rw [o2]
  have o3 : tW L f0 12 5 = tW L f0 5 5 := tW_o 5 7
  rw [o3]
theorem tm_14_0 : tm L f 14 0 = 0 := by
  unfold tm
  rw [if_neg (by decide)]
theorem tm_14_1 : tm L f 14 1 = L 2 1 * f 12 := by
  unfold tm
  rw [if_pos (by decide), if_pos (by decide)]
  rfl
theorem tm_14_2 : tm L f 14 2 = -(L 2 2 * f 10) := by
  unfold tm
  rw [if_pos (by decide), if_neg (by decide)]
  rfl
theorem tm_14_3 : tm L f 14 3 = L 2 3 * f 6 := by
  unfold tm
  rw [if_pos (by decide), if_pos (by decide)]
  rfl
theorem tW_14 : tW L f0 14 14 = 0 + 0 + L 2 1 * tW L f0 12 12 + -(L 2 2 * tW L f0 10 10) + L 2 3 * tW L f0 6 6 := by
  have u : tW L f0 14 14 = tCs L 14 (tW L f0 13) 4 14 := rfl
  rw [u, tCs_4 (by decide), tm_14_0, tm_14_1, tm_14_2, tm_14_3]
  have o1 : tW L f0 13 12 = tW L f0 12 12 := tW_o 12 1
  rw [o1]
  have o2 : tW L f0 13 10 = tW L f0 10 10 := tW_o 10 3
  rw [o2]
  have o3 : tW L f0 13 6 = tW L f0 6 6 := tW_o 6 7
  rw [o3]
theorem tm_15_0 : tm L f 15 0 = -(L 3 0 * f 14) := by
  unfold tm
  rw [if_pos (by decide), if_neg (by decide)]
  rfl
theorem tm_15_1 : tm L f 15 1 = L 3 1 * f 13 := by
  unfold tm
  rw [if_pos (by decide), if_pos (by decide)]
  rfl
theorem tm_15_2 : tm L f 15 2 = -(L 3 2 * f 11) := by
  unfold tm
  rw [if_pos (by decide), if_neg (by decide)]
  rfl
theorem tm_15_3 : tm L f 15 3 = L 3 3 * f 7 := by
  unfold tm
  rw [if_pos (by decide), if_pos (by decide)]
  rfl
theorem tW_15 : tW L f0 15 15 = 0 + -(L 3 0 * tW L f0 14 14) + L 3 1 * tW L f0 13 13 + -(L 3 2 * tW L f0 11 11) + L 3 3 * tW L f0 7 7 := by
  have u : tW L f0 15 15 = tCs L 15 (tW L f0 14) 4 15 := rfl
  rw [u, tCs_4 (by decide), tm_15_0, tm_15_1, tm_15_2, tm_15_3]
  have o1 : tW L f0 14 13 = tW L f0 13 13 := tW_o 13 1
  rw [o1]
  have o2 : tW L f0 14 11 = tW L f0 11 11 := tW_o 11 3
  rw [o2]
  have o3 : tW L f0 14 7 = tW L f0 7 7 := tW_o 7 7
  rw [o3]
theorem tW_D4 : tW L f0 15 15 = tD4 L := by
  rw [tW_15, tW_14, tW_13, tW_12, tW_11, tW_10, tW_9, tW_8, tW_7, tW_6, tW_5, tW_4, tW_3, tW_2, tW_1, tW_0]
  unfold tD4 tV3 tV2
  grind
theorem tL_i {B : Nat → Nat → Int} (g : gOk B) {i : Nat} (hi : i < 4) : tL B i i = if 0 < nAll B (i + 1) then nAll B (i + 1) else 1 := by
  have b : 0 ≤ nAll B (i + 1) := by
    rw [nAll_5]
    have b0 := g (i + 1) 0 (by omega) (by decide)
    have b1 := g (i + 1) 1 (by omega) (by decide)
    have b2 := g (i + 1) 2 (by omega) (by decide)
    have b3 := g (i + 1) 3 (by omega) (by decide)
    have b4 := g (i + 1) 4 (by omega) (by decide)
    simp only [s5]
    omega
  unfold tL
  rw [if_pos rfl]
  (repeat' split) <;> omega
theorem rf_its {T : Nat → Nat → Int} (e98 : T 98 = S 98) (g : gOk (rE S)) {r c : Nat} (hr : 1 ≤ r ∧ r ≤ 4) (hc : c < 4) {v1 v4 v5 v6 : z_V} : (eIf (bCmp cNe (eL 2) (eL 3)) (e1 oNeg (eLd 0 (eFR 6 13 (eLR 0)) (e2 oAdd (e2 oMul (eC 5) (eL 2)) (eL 3)))) (eIf (eClB (m_X6_isOf) (aS vI (aS vR (aN) (eLR 0)) (eL 3))) (eCl (m_X6_edgesOf) (aS vI (aS vR (aN) (eLR 0)) (eL 3))) (eC 1))) [vR 85, v1, vI (r : Int), vI ((c + 1 : Nat) : Int), v4, v5, v6] (k_W T) = some (.inl (tL (rE S) (r - 1) c), k_W T) := by
  have io := rf_isOf (S := T) (v := c + 1) (by omega) (by rw [rE_e e98]; exact g.bd)
  have ed := rf_edgesOf (S := T) (v := c + 1) (by omega) (by rw [rE_e e98]; exact g.bd)
  rw [rE_e e98] at io ed
  have ti := tL_i g hc
  have t5 : (5 * (r : Int) + ((c + 1 : Nat) : Int)).toNat = 5 * r + (c + 1) := by omega
  have re : T 98 (5 * r + (c + 1)) = rE S r (c + 1) := by rw [e98]; rfl
  by_cases q : r = c + 1
  · subst q
    rw [Nat.add_sub_cancel, ti]
    by_cases p : 0 < nAll (rE S) (c + 1)
    · have hv : nHv (rE S) (c + 1) := Or.inr p
      rw [(z_dec_iff _).mpr hv] at io
      rw [if_pos p]
      refine qT_to ?_
      simp only [io, ed, z_vB1, z_vB0, if_true, if_false, not_true_eq_false, not_false_eq_true, k_t_n, k_t_1, exists_eq, qS_nop, qS_seq, qS_set, qS_setJ, qS_if, qS_brk, qS_ret, qS_retV, qS_throw, qS_inc, qS_cl, qS_ast, qS_aop, qS_fst, qS_fop, qS_sw, qT_eC, qT_eCB, qT_eL, qT_eLJ, qT_eLR, qT_eLB, qT_e1, qT_e2, qT_bCmp, qT_bCmpJ, qT_bAnd, qT_bOr, qT_bNot, qT_eBI, qT_eIf, qT_eLd, qT_eLdR, qT_eLen, qT_eF, qT_eFR, qT_aN, qT_aS, qT_eCl, qT_eClR, qT_eClB, qT_some, qT_x, z_nx_N, z_nx_B, z_nx_R, z_nx_X, z_bk_N, z_bk_B, z_bk_R, z_bk_X, oAdd, oSub, oMul, oNeg, cLt, cLe, cGt, cGe, cEq, cNe, Option.some.injEq, Sum.inl.injEq, Sum.inr.injEq, Prod.mk.injEq, exists_eq_left, exists_eq_left', exists_eq_right, exists_and_left, reduceCtorEq, and_true, true_and, and_false, false_and, List.getElem?_cons_zero, List.getElem?_cons_succ, List.set_cons_zero, List.set_cons_succ, List.replicate, List.length_cons, List.length_nil, List.cons_append, List.nil_append, Nat.reduceAdd, Nat.reduceSub, decide_eq_true_eq, decide_eq_false_iff_not, Bool.true_eq_false, Bool.false_eq_true, true_implies, false_implies, implies_true, Nat.reduceLT, exists_const, z_vB_inj, and_assoc, z_in_iff, oI2L, oL2I, Int.toNat_natCast, z_toNat0, Bool.not_eq_true', Bool.not_eq_false', ne_eq, Bool.not_true, Bool.not_false, Nat.add_zero, Int.add_zero, z_sl_s]
      omega
    · have np : ¬ nHv (rE S) (c + 1) := fun w => w.elim (fun w => by omega) p
      rw [(z_dec_f _).mpr np] at io
      rw [if_neg p]
      refine qT_to ?_
      simp only [io, z_vB1, z_vB0, if_true, if_false, not_true_eq_false, not_false_eq_true, k_t_n, k_t_1, exists_eq, qS_nop, qS_seq, qS_set, qS_setJ, qS_if, qS_brk, qS_ret, qS_retV, qS_throw, qS_inc, qS_cl, qS_ast, qS_aop, qS_fst, qS_fop, qS_sw, qT_eC, qT_eCB, qT_eL, qT_eLJ, qT_eLR, qT_eLB, qT_e1, qT_e2, qT_bCmp, qT_bCmpJ, qT_bAnd, qT_bOr, qT_bNot, qT_eBI, qT_eIf, qT_eLd, qT_eLdR, qT_eLen, qT_eF, qT_eFR, qT_aN, qT_aS, qT_eCl, qT_eClR, qT_eClB, qT_some, qT_x, z_nx_N, z_nx_B, z_nx_R, z_nx_X, z_bk_N, z_bk_B, z_bk_R, z_bk_X, oAdd, oSub, oMul, oNeg, cLt, cLe, cGt, cGe, cEq, cNe, Option.some.injEq, Sum.inl.injEq, Sum.inr.injEq, Prod.mk.injEq, exists_eq_left, exists_eq_left', exists_eq_right, exists_and_left, reduceCtorEq, and_true, true_and, and_false, false_and, List.getElem?_cons_zero, List.getElem?_cons_succ, List.set_cons_zero, List.set_cons_succ, List.replicate, List.length_cons, List.length_nil, List.cons_append, List.nil_append, Nat.reduceAdd, Nat.reduceSub, decide_eq_true_eq, decide_eq_false_iff_not, Bool.true_eq_false, Bool.false_eq_true, true_implies, false_implies, implies_true, Nat.reduceLT, exists_const, z_vB_inj, and_assoc, z_in_iff, oI2L, oL2I, Int.toNat_natCast, z_toNat0, Bool.not_eq_true', Bool.not_eq_false', ne_eq, Bool.not_true, Bool.not_false, Nat.add_zero, Int.add_zero, z_sl_s]
      omega
  · have tl : tL (rE S) (r - 1) c = -rE S r (c + 1) := by
      unfold tL
      rw [if_neg (by omega), show r - 1 + 1 = r by omega]
    rw [tl]
    refine qT_to ?_
    have q' : ¬ ((r : Int) = ((c + 1 : Nat) : Int)) := by omega
    simp only [q', t5, re, z_vB1, z_vB0, if_true, if_false, not_true_eq_false, not_false_eq_true, k_t_n, k_t_1, exists_eq, k_v85, k_o85, k_r0, k_r1, k_r2, k_r3, k_r4, k_r5, k_r6, k_r7, k_r8, k_r9, k_r10, k_r11, k_r12, k_r13, k_r14, k_r15, k_r16, k_r17, k_r18, k_rl, k_sc, k_st, k_a86, k_s86, k_a87, k_s87, k_a88, k_s88, k_a89, k_s89, k_a90, k_s90, k_a91, k_s91, k_a92, k_s92, k_a93, k_s93, k_a94, k_s94, k_a95, k_s95, k_a96, k_s96, k_a97, k_s97, k_a98, k_s98, k_a99, k_s99, k_a100, k_s100, k_a101, k_s101, k_a102, k_s102, k_u_s, k_u_n, k_u_u, Nat.reduceEqDiff, not_false_eq_true, qS_nop, qS_seq, qS_set, qS_setJ, qS_if, qS_brk, qS_ret, qS_retV, qS_throw, qS_inc, qS_cl, qS_ast, qS_aop, qS_fst, qS_fop, qS_sw, qT_eC, qT_eCB, qT_eL, qT_eLJ, qT_eLR, qT_eLB, qT_e1, qT_e2, qT_bCmp, qT_bCmpJ, qT_bAnd, qT_bOr, qT_bNot, qT_eBI, qT_eIf, qT_eLd, qT_eLdR, qT_eLen, qT_eF, qT_eFR, qT_aN, qT_aS, qT_eCl, qT_eClR, qT_eClB, qT_some, qT_x, z_nx_N, z_nx_B, z_nx_R, z_nx_X, z_bk_N, z_bk_B, z_bk_R, z_bk_X, oAdd, oSub, oMul, oNeg, cLt, cLe, cGt, cGe, cEq, cNe, Option.some.injEq, Sum.inl.injEq, Sum.inr.injEq, Prod.mk.injEq, exists_eq_left, exists_eq_left', exists_eq_right, exists_and_left, reduceCtorEq, and_true, true_and, and_false, false_and, List.getElem?_cons_zero, List.getElem?_cons_succ, List.set_cons_zero, List.set_cons_succ, List.replicate, List.length_cons, List.length_nil, List.cons_append, List.nil_append, Nat.reduceAdd, Nat.reduceSub, decide_eq_true_eq, decide_eq_false_iff_not, Bool.true_eq_false, Bool.false_eq_true, true_implies, false_implies, implies_true, Nat.reduceLT, exists_const, z_vB_inj, and_assoc, z_in_iff, oI2L, oL2I, Int.toNat_natCast, z_toNat0, Bool.not_eq_true', Bool.not_eq_false', ne_eq, Bool.not_true, Bool.not_false, Nat.add_zero, Int.add_zero, z_sl_s]
    omega
theorem rf_sgn {s c : Nat} (hs : s < 16) (hc : c < 4) {x : Int} {v0 v2 v4 v6 : z_V} {h : z_Hp} : (eIf (bCmp cEq (e2 oRem (eCl (m_X6_bits) (aS vI (aN) (e2 oShr (eL 1) (eL 3)))) (eC 2)) (eC 0)) (eLJ 5) (e1 oNeg (eLJ 5))) [v0, vI (s : Int), v2, vI ((c + 1 : Nat) : Int), v4, vJ x, v6] h = some (.inl (if nb (s / 2 ^ (c + 1)) % 2 = 0 then x else -x), h) := by
  have e1 := o_shr ⟨s, by omega⟩ ⟨c + 1, by omega⟩
  simp only at e1
  have lt : s / 2 ^ (c + 1) < 32 := Nat.lt_of_le_of_lt (Nat.div_le_self _ _) (by omega)
  have e2 := rf_bits (h := h) lt
  have n5 := nb_le ⟨s / 2 ^ (c + 1), lt⟩
  simp only at n5
  have e3 := z_rm (k := nb (s / 2 ^ (c + 1))) (m := 2) (by decide) (by omega) (by decide)
  have c2 : ((2 : Nat) : Int) = 2 := rfl
  rw [c2] at e3
  refine qT_to ?_
  simp only [e1, e2, e3, qS_nop, qS_seq, qS_set, qS_setJ, qS_if, qS_brk, qS_ret, qS_retV, qS_throw, qS_inc, qS_cl, qS_ast, qS_aop, qS_fst, qS_fop, qS_sw, qT_eC, qT_eCB, qT_eL, qT_eLJ, qT_eLR, qT_eLB, qT_e1, qT_e2, qT_bCmp, qT_bCmpJ, qT_bAnd, qT_bOr, qT_bNot, qT_eBI, qT_eIf, qT_eLd, qT_eLdR, qT_eLen, qT_eF, qT_eFR, qT_aN, qT_aS, qT_eCl, qT_eClR, qT_eClB, qT_some, qT_x, z_nx_N, z_nx_B, z_nx_R, z_nx_X, z_bk_N, z_bk_B, z_bk_R, z_bk_X, oAdd, oSub, oMul, oNeg, cLt, cLe, cGt, cGe, cEq, cNe, Option.some.injEq, Sum.inl.injEq, Sum.inr.injEq, Prod.mk.injEq, exists_eq_left, exists_eq_left', exists_eq_right, exists_and_left, reduceCtorEq, and_true, true_and, and_false, false_and, List.getElem?_cons_zero, List.getElem?_cons_succ, List.set_cons_zero, List.set_cons_succ, List.replicate, List.length_cons, List.length_nil, List.cons_append, List.nil_append, Nat.reduceAdd, Nat.reduceSub, decide_eq_true_eq, decide_eq_false_iff_not, Bool.true_eq_false, Bool.false_eq_true, true_implies, false_implies, implies_true, Nat.reduceLT, exists_const, z_vB_inj, and_assoc, z_in_iff, oI2L, oL2I, Int.toNat_natCast, z_toNat0, Bool.not_eq_true', Bool.not_eq_false', ne_eq, Bool.not_true, Bool.not_false, Nat.add_zero, Int.add_zero, z_sl_s]
  clear e1 e2 e3
  generalize nb (s / 2 ^ (c + 1)) = y at *
  (repeat' (first | apply And.intro | intro _)) <;> first | omega | rfl | grind
theorem rf_trees (g : gOk (rE S)) : ∃ V, m_X6_trees [vR 85] (k_W S) = some (.inl (some (vI (tD4 (tL (rE S))))), k_W V) ∧ ∀ x, x ≠ 102 → V x = S x := by
  refine ⟨k_u S 102 (tW (tL (rE S)) (S 102) 15), ?_, fun x hx => k_u_n hx⟩
  have td := tW_D4 (L := tL (rE S)) (f0 := S 102)
  obtain ⟨L, hL⟩ : ∃ L, L = tL (rE S) := ⟨_, rfl⟩
  rw [← hL] at td ⊢
  have lb := (tL_b g).1
  rw [← hL] at lb
  unfold m_X6_trees
  rw [k_v85]
  apply q_body
  have b6 : INF = 1000000 := rfl
  have w0 : tW L (S 102) 0 = z_up (S 102) 0 1 := rfl
  simp only [b_X6_trees, k_v85, k_o85, k_r0, k_r1, k_r2, k_r3, k_r4, k_r5, k_r6, k_r7, k_r8, k_r9, k_r10, k_r11, k_r12, k_r13, k_r14, k_r15, k_r16, k_r17, k_r18, k_rl, k_sc, k_st, k_a86, k_s86, k_a87, k_s87, k_a88, k_s88, k_a89, k_s89, k_a90, k_s90, k_a91, k_s91, k_a92, k_s92, k_a93, k_s93, k_a94, k_s94, k_a95, k_s95, k_a96, k_s96, k_a97, k_s97, k_a98, k_s98, k_a99, k_s99, k_a100, k_s100, k_a101, k_s101, k_a102, k_s102, k_u_s, k_u_n, k_u_u, Nat.reduceEqDiff, not_false_eq_true, qS_nop, qS_seq, qS_set, qS_setJ, qS_if, qS_brk, qS_ret, qS_retV, qS_throw, qS_inc, qS_cl, qS_ast, qS_aop, qS_fst, qS_fop, qS_sw, qT_eC, qT_eCB, qT_eL, qT_eLJ, qT_eLR, qT_eLB, qT_e1, qT_e2, qT_bCmp, qT_bCmpJ, qT_bAnd, qT_bOr, qT_bNot, qT_eBI, qT_eIf, qT_eLd, qT_eLdR, qT_eLen, qT_eF, qT_eFR, qT_aN, qT_aS, qT_eCl, qT_eClR, qT_eClB, qT_some, qT_x, z_nx_N, z_nx_B, z_nx_R, z_nx_X, z_bk_N, z_bk_B, z_bk_R, z_bk_X, oAdd, oSub, oMul, oNeg, cLt, cLe, cGt, cGe, cEq, cNe, Option.some.injEq, Sum.inl.injEq, Sum.inr.injEq, Prod.mk.injEq, exists_eq_left, exists_eq_left', exists_eq_right, exists_and_left, reduceCtorEq, and_true, true_and, and_false, false_and, List.getElem?_cons_zero, List.getElem?_cons_succ, List.set_cons_zero, List.set_cons_succ, List.replicate, List.length_cons, List.length_nil, List.cons_append, List.nil_append, Nat.reduceAdd, Nat.reduceSub, decide_eq_true_eq, decide_eq_false_iff_not, Bool.true_eq_false, Bool.false_eq_true, true_implies, false_implies, implies_true, Nat.reduceLT, exists_const, z_vB_inj, and_assoc, z_in_iff, oI2L, oL2I, Int.toNat_natCast, z_toNat0, Bool.not_eq_true', Bool.not_eq_false', ne_eq, Bool.not_true, Bool.not_false, Nat.add_zero, Int.add_zero, z_sl_s]
  repeat (refine And.intro (by omega) ?_)
  refine qS_loop (fun k ρ h' => h' = k_W (k_u S 102 (tW L (S 102) k)) ∧ ∃ a b c d e, ρ = [vR 85, vI ((k + 1 : Nat) : Int), a, b, c, d, e]) 15 ?_ ?_ 15 0 z_fuel _ _ (by omega) (z_fuel_lt (by omega)) ⟨rfl, _, _, _, _, _, rfl⟩
  · rintro k ρ h' hk ⟨rfl, a, b, c, d, e, rfl⟩
    have wk : tW L (S 102) (k + 1) = tCs L (k + 1) (tW L (S 102) k) 4 := rfl
    rw [wk]
    have hs0 : 0 < k + 1 := Nat.succ_pos k
    have hs : k + 1 < 16 := by omega
    have kl : ((k + 1 : Nat) : Int) + 1 = ((k + 1 + 1 : Nat) : Int) := rfl
    generalize k + 1 = s at *
    have n1 := nb_pos ⟨s, by omega⟩ hs0
    have n5 := nb_ltn ⟨4, by omega⟩ ⟨s, by omega⟩ hs
    simp only at n1 n5
    have bi := fun h : z_Hp => rf_bits (h := h) (show s < 32 by omega)
    generalize tW L (S 102) k = F at *
    have hk3 : (s : Int) < 16 := by omega
    have zup : z_up F s 0 = tCs L s F 0 := rfl
    simp only [bi, hk3, zup, z_vB1, z_vB0, if_true, if_false, not_true_eq_false, not_false_eq_true, k_t_n, k_t_1, exists_eq, k_v85, k_o85, k_r0, k_r1, k_r2, k_r3, k_r4, k_r5, k_r6, k_r7, k_r8, k_r9, k_r10, k_r11, k_r12, k_r13, k_r14, k_r15, k_r16, k_r17, k_r18, k_rl, k_sc, k_st, k_a86, k_s86, k_a87, k_s87, k_a88, k_s88, k_a89, k_s89, k_a90, k_s90, k_a91, k_s91, k_a92, k_s92, k_a93, k_s93, k_a94, k_s94, k_a95, k_s95, k_a96, k_s96, k_a97, k_s97, k_a98, k_s98, k_a99, k_s99, k_a100, k_s100, k_a101, k_s101, k_a102, k_s102, k_u_s, k_u_n, k_u_u, Nat.reduceEqDiff, not_false_eq_true, qS_nop, qS_seq, qS_set, qS_setJ, qS_if, qS_brk, qS_ret, qS_retV, qS_throw, qS_inc, qS_cl, qS_ast, qS_aop, qS_fst, qS_fop, qS_sw, qT_eC, qT_eCB, qT_eL, qT_eLJ, qT_eLR, qT_eLB, qT_e1, qT_e2, qT_bCmp, qT_bCmpJ, qT_bOr, qT_bNot, qT_eBI, qT_eLd, qT_eLdR, qT_eLen, qT_eF, qT_eFR, qT_aN, qT_aS, qT_eCl, qT_eClR, qT_eClB, qT_some, qT_x, z_nx_N, z_nx_B, z_nx_R, z_nx_X, z_bk_N, z_bk_B, z_bk_R, z_bk_X, oAdd, oSub, oMul, oNeg, cLt, cLe, cGt, cGe, cEq, cNe, Option.some.injEq, Sum.inl.injEq, Sum.inr.injEq, Prod.mk.injEq, exists_eq_left, exists_eq_left', exists_eq_right, exists_and_left, reduceCtorEq, and_true, true_and, and_false, false_and, List.getElem?_cons_zero, List.getElem?_cons_succ, List.set_cons_zero, List.set_cons_succ, List.replicate, List.length_cons, List.length_nil, List.cons_append, List.nil_append, Nat.reduceAdd, Nat.reduceSub, decide_eq_true_eq, decide_eq_false_iff_not, Bool.true_eq_false, Bool.false_eq_true, true_implies, false_implies, implies_true, Nat.reduceLT, exists_const, z_vB_inj, and_assoc, z_in_iff, oI2L, oL2I, Int.toNat_natCast, z_toNat0, Bool.not_eq_true', Bool.not_eq_false', ne_eq, Bool.not_true, Bool.not_false, Nat.add_zero, Int.add_zero, z_sl_s]
    repeat (refine And.intro (by omega) ?_)
    refine qS_loop (fun c ρ h' => h' = k_W (k_u S 102 (tCs L s F c)) ∧ ∃ d e f, ρ = [vR 85, vI (s : Int), vI (nb s : Int), vI ((c + 1 : Nat) : Int), d, e, f]) 4 ?_ ?_ 4 0 z_fuel _ _ (by omega) (z_fuel_lt (by omega)) ⟨rfl, _, _, _, rfl⟩
    · rintro c ρ h' hc ⟨rfl, d, e, f, rfl⟩
      have wc : tCs L s F (c + 1) = tCo L s c (tCs L s F c) := rfl
      rw [wc]
      generalize tCs L s F c = G at *
      have b1 := o_shr ⟨s, by omega⟩ ⟨c, by omega⟩
      have b0 : s / 2 ^ c < 32 := Nat.lt_of_le_of_lt (Nat.div_le_self _ _) (by omega)
      have b2 := o_and ⟨s / 2 ^ c, b0⟩
      have b3 := o_bit ⟨s, by omega⟩ ⟨c, by omega⟩
      have b4 := o_shl ⟨c, by omega⟩
      have pc : 2 ^ c < 32 := by
        have : 2 ^ c ≤ 2 ^ 4 := Nat.pow_le_pow_right (by decide) (by omega)
        omega
      have b5 := o_not ⟨2 ^ c, pc⟩
      have b7 := o_rest ⟨s, by omega⟩ ⟨c, by omega⟩
      simp only at b1 b2 b3 b4 b5 b7
      have tc : ((c + 1 : Nat) : Int) - 1 = (c : Int) := by omega
      have c1 : ((c + 1 : Nat) : Int) + 1 = ((c + 1 + 1 : Nat) : Int) := rfl
      have hc5 : ((c + 1 : Nat) : Int) < 5 := by omega
      have its := fun G' v1 v4 v5 v6 => rf_its (S := S) (T := k_u S 102 G') (k_u_n (by decide)) g (r := nb s) (c := c) ⟨n1, n5⟩ hc (v1 := v1) (v4 := v4) (v5 := v5) (v6 := v6)
      rw [← hL] at its
      have li := lb (nb s - 1) c (by omega) hc
      have oi : oI2L (L (nb s - 1) c) = some (L (nb s - 1) c) := by
        unfold oI2L
        rw [if_pos ((z_in_iff _).mpr ⟨by omega, by omega⟩)]
      have sg := fun x v0 v2 v4 v6 h => rf_sgn (s := s) (c := c) hs hc (x := x) (v0 := v0) (v2 := v2) (v4 := v4) (v6 := v6) (h := h)
      have hle : s - 2 ^ c < 32 := Nat.lt_of_le_of_lt (Nat.sub_le _ _) (by omega)
      have r32 : (if s.testBit c = true then s - 2 ^ c else s) < 32 := by split <;> omega
      have rt : s.testBit c = true → (if s.testBit c = true then s - 2 ^ c else s) = s - 2 ^ c := fun w => if_pos w
      generalize (if s.testBit c = true then s - 2 ^ c else s) = r at b7 r32 rt
      have cp : s.testBit c = true → z_up G s (G s + (if nb (s / 2 ^ (c + 1)) % 2 = 0 then L (nb s - 1) c * G r else -(L (nb s - 1) c * G r))) = tCo L s c G := fun w => by
        unfold tCo
        rw [if_pos w, rt w]
      have cn : ¬ s.testBit c = true → G = tCo L s c G := fun w => by
        unfold tCo
        rw [if_neg w]
      simp only [hc5, tc, b1, b2, its, b4, b5, b7, oi, sg, z_vB1, z_vB0, if_true, if_false, not_true_eq_false, not_false_eq_true, k_t_n, k_t_1, exists_eq, k_v85, k_o85, k_r0, k_r1, k_r2, k_r3, k_r4, k_r5, k_r6, k_r7, k_r8, k_r9, k_r10, k_r11, k_r12, k_r13, k_r14, k_r15, k_r16, k_r17, k_r18, k_rl, k_sc, k_st, k_a86, k_s86, k_a87, k_s87, k_a88, k_s88, k_a89, k_s89, k_a90, k_s90, k_a91, k_s91, k_a92, k_s92, k_a93, k_s93, k_a94, k_s94, k_a95, k_s95, k_a96, k_s96, k_a97, k_s97, k_a98, k_s98, k_a99, k_s99, k_a100, k_s100, k_a101, k_s101, k_a102, k_s102, k_u_s, k_u_n, k_u_u, Nat.reduceEqDiff, not_false_eq_true, qS_nop, qS_seq, qS_set, qS_setJ, qS_if, qS_brk, qS_ret, qS_retV, qS_throw, qS_inc, qS_cl, qS_ast, qS_aop, qS_fst, qS_fop, qS_sw, qT_eC, qT_eCB, qT_eL, qT_eLJ, qT_eLR, qT_eLB, qT_e1, qT_e2, qT_bCmp, qT_bCmpJ, qT_bOr, qT_bNot, qT_eBI, qT_eLd, qT_eLdR, qT_eLen, qT_eF, qT_eFR, qT_aN, qT_aS, qT_eCl, qT_eClR, qT_eClB, qT_some, qT_x, z_nx_N, z_nx_B, z_nx_R, z_nx_X, z_bk_N, z_bk_B, z_bk_R, z_bk_X, oAdd, oSub, oMul, oNeg, cLt, cLe, cGt, cGe, cEq, cNe, Option.some.injEq, Sum.inl.injEq, Sum.inr.injEq, Prod.mk.injEq, exists_eq_left, exists_eq_left', exists_eq_right, exists_and_left, reduceCtorEq, and_true, true_and, and_false, false_and, List.getElem?_cons_zero, List.getElem?_cons_succ, List.set_cons_zero, List.set_cons_succ, List.replicate, List.length_cons, List.length_nil, List.cons_append, List.nil_append, Nat.reduceAdd, Nat.reduceSub, decide_eq_true_eq, decide_eq_false_iff_not, Bool.true_eq_false, Bool.false_eq_true, true_implies, false_implies, implies_true, Nat.reduceLT, exists_const, z_vB_inj, and_assoc, z_in_iff, oI2L, oL2I, Int.toNat_natCast, z_toNat0, Bool.not_eq_true', Bool.not_eq_false', ne_eq, Bool.not_true, Bool.not_false, Nat.add_zero, Int.add_zero, z_sl_s]
      have bm : s / 2 ^ c % 2 < 2 := Nat.mod_lt _ (by decide)
      clear b1 b2 b4 b5 b7 oi sg its bi
      generalize s / 2 ^ c % 2 = y at *
      repeat (refine And.intro (by omega) ?_)
      refine ⟨fun w => ⟨L (nb s - 1) c, if_pos ⟨by omega, by omega⟩, ?_⟩, fun w => ⟨by rw [← cn (fun t => w (b3.mpr t))], _, _, _, rfl⟩⟩
      repeat (refine And.intro (by omega) ?_)
      exact ⟨by rw [cp (b3.mp w)], _, _, _, rfl⟩
    · rintro ρ h' ⟨rfl, d, e, f, rfl⟩
      simp only [qS_nop, qS_seq, qS_set, qS_setJ, qS_if, qS_brk, qS_ret, qS_retV, qS_throw, qS_inc, qS_cl, qS_ast, qS_aop, qS_fst, qS_fop, qS_sw, qT_eC, qT_eCB, qT_eL, qT_eLJ, qT_eLR, qT_eLB, qT_e1, qT_e2, qT_bCmp, qT_bCmpJ, qT_bAnd, qT_bOr, qT_bNot, qT_eBI, qT_eIf, qT_eLd, qT_eLdR, qT_eLen, qT_eF, qT_eFR, qT_aN, qT_aS, qT_eCl, qT_eClR, qT_eClB, qT_some, qT_x, z_nx_N, z_nx_B, z_nx_R, z_nx_X, z_bk_N, z_bk_B, z_bk_R, z_bk_X, oAdd, oSub, oMul, oNeg, cLt, cLe, cGt, cGe, cEq, cNe, Option.some.injEq, Sum.inl.injEq, Sum.inr.injEq, Prod.mk.injEq, exists_eq_left, exists_eq_left', exists_eq_right, exists_and_left, reduceCtorEq, and_true, true_and, and_false, false_and, List.getElem?_cons_zero, List.getElem?_cons_succ, List.set_cons_zero, List.set_cons_succ, List.replicate, List.length_cons, List.length_nil, List.cons_append, List.nil_append, Nat.reduceAdd, Nat.reduceSub, decide_eq_true_eq, decide_eq_false_iff_not, Bool.true_eq_false, Bool.false_eq_true, true_implies, false_implies, implies_true, Nat.reduceLT, exists_const, z_vB_inj, and_assoc, z_in_iff, oI2L, oL2I, Int.toNat_natCast, z_toNat0, Bool.not_eq_true', Bool.not_eq_false', ne_eq, Bool.not_true, Bool.not_false, Nat.add_zero, Int.add_zero, z_sl_s]
      repeat (refine And.intro (by omega) ?_)
      exact ⟨_, _, _, _, _, rfl⟩
  · rintro ρ h' ⟨rfl, a, b, c, d, e, rfl⟩
    simp only [td, k_v85, k_o85, k_r0, k_r1, k_r2, k_r3, k_r4, k_r5, k_r6, k_r7, k_r8, k_r9, k_r10, k_r11, k_r12, k_r13, k_r14, k_r15, k_r16, k_r17, k_r18, k_rl, k_sc, k_st, k_a86, k_s86, k_a87, k_s87, k_a88, k_s88, k_a89, k_s89, k_a90, k_s90, k_a91, k_s91, k_a92, k_s92, k_a93, k_s93, k_a94, k_s94, k_a95, k_s95, k_a96, k_s96, k_a97, k_s97, k_a98, k_s98, k_a99, k_s99, k_a100, k_s100, k_a101, k_s101, k_a102, k_s102, k_u_s, k_u_n, k_u_u, Nat.reduceEqDiff, not_false_eq_true, qS_nop, qS_seq, qS_set, qS_setJ, qS_if, qS_brk, qS_ret, qS_retV, qS_throw, qS_inc, qS_cl, qS_ast, qS_aop, qS_fst, qS_fop, qS_sw, qT_eC, qT_eCB, qT_eL, qT_eLJ, qT_eLR, qT_eLB, qT_e1, qT_e2, qT_bCmp, qT_bCmpJ, qT_bAnd, qT_bOr, qT_bNot, qT_eBI, qT_eIf, qT_eLd, qT_eLdR, qT_eLen, qT_eF, qT_eFR, qT_aN, qT_aS, qT_eCl, qT_eClR, qT_eClB, qT_some, qT_x, z_nx_N, z_nx_B, z_nx_R, z_nx_X, z_bk_N, z_bk_B, z_bk_R, z_bk_X, oAdd, oSub, oMul, oNeg, cLt, cLe, cGt, cGe, cEq, cNe, Option.some.injEq, Sum.inl.injEq, Sum.inr.injEq, Prod.mk.injEq, exists_eq_left, exists_eq_left', exists_eq_right, exists_and_left, reduceCtorEq, and_true, true_and, and_false, false_and, List.getElem?_cons_zero, List.getElem?_cons_succ, List.set_cons_zero, List.set_cons_succ, List.replicate, List.length_cons, List.length_nil, List.cons_append, List.nil_append, Nat.reduceAdd, Nat.reduceSub, decide_eq_true_eq, decide_eq_false_iff_not, Bool.true_eq_false, Bool.false_eq_true, true_implies, false_implies, implies_true, Nat.reduceLT, exists_const, z_vB_inj, and_assoc, z_in_iff, oI2L, oL2I, Int.toNat_natCast, z_toNat0, Bool.not_eq_true', Bool.not_eq_false', ne_eq, Bool.not_true, Bool.not_false, Nat.add_zero, Int.add_zero, z_sl_s]
    repeat (refine And.intro (by omega) ?_)
    exact td
end RT
