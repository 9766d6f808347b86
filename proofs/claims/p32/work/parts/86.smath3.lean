/-! STARS: bounds while ways are closed; what lies outside does not matter -/
section SB
variable {X Y : Nat → Nat → Int} {n k i : Nat}
theorem zp_lo {x y a b : Int} (hx : -a ≤ x) (hy : -b ≤ y) (ha : 0 ≤ a) (hb : 0 ≤ b) : -(a + b) ≤ z_plus x y := by
  unfold z_plus
  split
  · have b6 : INF = 1000000 := rfl
    omega
  · omega
theorem bJ (hik : i ≠ k) (hk : k < n) {R C K : Int} (r0 : 0 ≤ R) (c0 : 0 ≤ C) (k0 : 0 ≤ K) (hR : ∀ y, y < n → -R ≤ Y i y) (hC : ∀ y, y < n → -C ≤ Y k y) (hK : -K ≤ Y k k) : ∀ j, j ≤ n → (∀ x y, x ≠ i → mJ Y k i j x y = Y x y) ∧ (∀ y, y < n → -(R + K + C) ≤ mJ Y k i j i y) ∧ -(R + K) ≤ mJ Y k i j i k ∧ (j ≤ k → mJ Y k i j i k = Y i k)
  | 0, _ => ⟨fun _ _ _ => rfl, fun y hy => by have := hR y hy; show -(R + K + C) ≤ Y i y; omega, by have := hR k hk; show -(R + K) ≤ Y i k; omega, fun _ => rfl⟩
  | j + 1, hj => by
    obtain ⟨h1, h2, h3, h4⟩ := bJ hik hk r0 c0 k0 hR hC hK j (by omega)
    have e : ∀ x y, mJ Y k i (j + 1) x y = if x = i ∧ y = j then (if z_plus (mJ Y k i j i k) (mJ Y k i j k j) < mJ Y k i j i j then z_plus (mJ Y k i j i k) (mJ Y k i j k j) else mJ Y k i j i j) else mJ Y k i j x y := fun x y => rfl
    have pk : mJ Y k i j k j = Y k j := h1 k j (Ne.symm hik)
    have w1 := zp_lo (x := mJ Y k i j i k) (y := Y k j) (a := R + K) (b := C) h3 (hC j (by omega)) (by omega) c0
    have w2 := h2 j (by omega)
    refine ⟨fun x y hx => ?_, fun y hy => ?_, ?_, fun hjk => ?_⟩
    · rw [e, if_neg (fun w => hx w.1)]
      exact h1 x y hx
    · rw [e]
      by_cases c : y = j
      · rw [if_pos ⟨rfl, c⟩, pk]
        split <;> omega
      · rw [if_neg (fun w => c w.2)]
        exact h2 y hy
    · rw [e]
      by_cases c : k = j
      · subst c
        rw [if_pos ⟨rfl, rfl⟩, pk]
        have h5 := h4 (Nat.le_refl k)
        have h6 := hR k hk
        have w3 := zp_lo (x := mJ Y k i k i k) (y := Y k k) (a := R) (b := K) (by omega) hK r0 k0
        split <;> omega
      · rw [if_neg (fun w => c w.2)]
        exact h3
    · rw [e, if_neg (fun w => by omega)]
      exact h4 (by omega)
theorem bJk (hk : k < n) {L : Int} (l0 : 0 ≤ L) (h : ∀ y, y < n → -L ≤ Y k y) : ∀ j, j ≤ n → (∀ x y, x ≠ k → mJ Y k k j x y = Y x y) ∧ (∀ y, y < n → j ≤ y → mJ Y k k j k y = Y k y) ∧ (∀ y, y < n → -(3 * L) ≤ mJ Y k k j k y) ∧ -(2 * L) ≤ mJ Y k k j k k
  | 0, _ => ⟨fun _ _ _ => rfl, fun _ _ _ => rfl, fun y hy => by have := h y hy; show -(3 * L) ≤ Y k y; omega, by have := h k hk; show -(2 * L) ≤ Y k k; omega⟩
  | j + 1, hj => by
    obtain ⟨h1, h2, h3, h4⟩ := bJk hk l0 h j (by omega)
    have e : ∀ x y, mJ Y k k (j + 1) x y = if x = k ∧ y = j then (if z_plus (mJ Y k k j k k) (mJ Y k k j k j) < mJ Y k k j k j then z_plus (mJ Y k k j k k) (mJ Y k k j k j) else mJ Y k k j k j) else mJ Y k k j x y := fun x y => rfl
    have pj : mJ Y k k j k j = Y k j := h2 j (by omega) (Nat.le_refl j)
    have hj' := h j (by omega)
    have w1 := zp_lo (x := mJ Y k k j k k) (y := Y k j) (a := 2 * L) (b := L) h4 hj' (by omega) l0
    refine ⟨fun x y hx => ?_, fun y hy hl => ?_, fun y hy => ?_, ?_⟩
    · rw [e, if_neg (fun w => hx w.1)]
      exact h1 x y hx
    · rw [e, if_neg (fun w => by omega)]
      exact h2 y hy (by omega)
    · rw [e]
      by_cases c : y = j
      · rw [if_pos ⟨rfl, c⟩, pj]
        split <;> omega
      · rw [if_neg (fun w => c w.2)]
        exact h3 y hy
    · rw [e]
      by_cases c : k = j
      · rw [if_pos ⟨rfl, c⟩]
        subst c
        rw [pj]
        have w3 := zp_lo (x := Y k k) (y := Y k k) (a := L) (b := L) hj' hj' l0 l0
        split <;> omega
      · rw [if_neg (fun w => c w.2)]
        exact h4
/-- a whole step over k -/
theorem bI (hk : k < n) {L : Int} (l0 : 0 ≤ L) (h : ∀ x y, x < n → y < n → -L ≤ X x y) : ∀ i, i ≤ n → (∀ x y, i ≤ x → mI n X k i x y = X x y) ∧ (∀ x y, x < n → y < n → -(6 * L) ≤ mI n X k i x y) ∧ (∀ x y, x ≤ k → y < n → -(3 * L) ≤ mI n X k i x y) ∧ -(2 * L) ≤ mI n X k i k k
  | 0, _ => ⟨fun _ _ _ => rfl, fun x y hx hy => by have := h x y hx hy; show -(6 * L) ≤ X x y; omega, fun x y hx hy => by have := h x y (by omega) hy; show -(3 * L) ≤ X x y; omega, by have := h k k hk hk; show -(2 * L) ≤ X k k; omega⟩
  | i + 1, hi => by
    obtain ⟨h1, h2, h3, h4⟩ := bI hk l0 h i (by omega)
    have e : mI n X k (i + 1) = mJ (mI n X k i) k i n := rfl
    have ri : ∀ y, y < n → -L ≤ mI n X k i i y := fun y hy => by rw [h1 i y (Nat.le_refl i)]; exact h i y (by omega) hy
    rcases Nat.lt_trichotomy i k with c | c | c
    · have w := bJ (Y := mI n X k i) (i := i) (k := k) (n := n) (by omega) hk l0 l0 l0 ri (fun y hy => by rw [h1 k y (by omega)]; exact h k y hk hy) (by rw [h1 k k (by omega)]; exact h k k hk hk) n (Nat.le_refl n)
      rw [e]
      refine ⟨fun x y hx => by rw [w.1 x y (by omega)]; exact h1 x y (by omega), fun x y hx hy => ?_, fun x y hx hy => ?_, ?_⟩
      · by_cases d : x = i
        · subst d
          have := w.2.1 y hy
          omega
        · rw [w.1 x y d]
          exact h2 x y hx hy
      · by_cases d : x = i
        · subst d
          have := w.2.1 y hy
          omega
        · rw [w.1 x y d]
          exact h3 x y hx hy
      · rw [w.1 k k (by omega)]
        exact h4
    · subst c
      have w := bJk (Y := mI n X i i) (k := i) (n := n) hk l0 ri n (Nat.le_refl n)
      rw [e]
      refine ⟨fun x y hx => by rw [w.1 x y (by omega)]; exact h1 x y (by omega), fun x y hx hy => ?_, fun x y hx hy => ?_, w.2.2.2⟩
      · by_cases d : x = i
        · subst d
          have := w.2.2.1 y hy
          omega
        · rw [w.1 x y d]
          exact h2 x y hx hy
      · by_cases d : x = i
        · subst d
          exact w.2.2.1 y hy
        · rw [w.1 x y d]
          exact h3 x y hx hy
    · have w := bJ (Y := mI n X k i) (i := i) (k := k) (n := n) (by omega) hk l0 (show 0 ≤ 3 * L by omega) (show 0 ≤ 2 * L by omega) ri (fun y hy => h3 k y (Nat.le_refl k) hy) h4 n (Nat.le_refl n)
      rw [e]
      refine ⟨fun x y hx => by rw [w.1 x y (by omega)]; exact h1 x y (by omega), fun x y hx hy => ?_, fun x y hx hy => ?_, ?_⟩
      · by_cases d : x = i
        · subst d
          have := w.2.1 y hy
          omega
        · rw [w.1 x y d]
          exact h2 x y hx hy
      · rw [w.1 x y (by omega)]
        exact h3 x y hx hy
      · rw [w.1 k k (by omega)]
        exact h4
/-- within a step -/
theorem bIJ (hk : k < n) {L : Int} (l0 : 0 ≤ L) (h : ∀ x y, x < n → y < n → -L ≤ X x y) (hi : i < n) {j : Nat} (hj : j ≤ n) : ∀ x y, x < n → y < n → -(6 * L) ≤ mJ (mI n X k i) k i j x y := fun x y hx hy => by
  have w := mJ_le (mI n X k i) k i x y j (n - j)
  rw [show j + (n - j) = n by omega] at w
  have z := (bI hk l0 h (i + 1) (by omega)).2.1 x y hx hy
  have e : mI n X k (i + 1) x y = mJ (mI n X k i) k i n x y := rfl
  omega
theorem bK {L : Int} (l0 : 0 ≤ L) (h : ∀ x y, x < n → y < n → -L ≤ X x y) : ∀ k, k ≤ n → ∀ x y, x < n → y < n → -(6 ^ k * L) ≤ mK n X k x y
  | 0, _, x, y, hx, hy => by
    have := h x y hx hy
    show -(1 * L) ≤ X x y
    omega
  | k + 1, hk, x, y, hx, hy => by
    have ih := bK l0 h k (by omega)
    have p : (0 : Int) ≤ 6 ^ k * L := Int.mul_nonneg (Int.pow_nonneg (by decide)) l0
    have w := (bI (X := mK n X k) (show k < n by omega) p ih n (Nat.le_refl n)).2.1 x y hx hy
    have e : (6 : Int) ^ (k + 1) * L = 6 * (6 ^ k * L) := by
      rw [Int.pow_succ, Int.mul_comm (6 ^ k) 6, Int.mul_assoc]
    rw [e]
    exact w
-- outside nothing changes
theorem oJ (hi : i < n) : ∀ j, j ≤ n → ∀ x y, ¬ (x < n ∧ y < n) → mJ X k i j x y = X x y
  | 0, _, _, _, _ => rfl
  | j + 1, hj, x, y, h => by
    have e : mJ X k i (j + 1) x y = if x = i ∧ y = j then (if z_plus (mJ X k i j i k) (mJ X k i j k j) < mJ X k i j i j then z_plus (mJ X k i j i k) (mJ X k i j k j) else mJ X k i j i j) else mJ X k i j x y := rfl
    rw [e, if_neg (fun w => h (by omega))]
    exact oJ hi j (by omega) x y h
theorem oI : ∀ i, i ≤ n → ∀ x y, ¬ (x < n ∧ y < n) → mI n X k i x y = X x y
  | 0, _, _, _, _ => rfl
  | i + 1, hi, x, y, h => by
    have e : mI n X k (i + 1) x y = mJ (mI n X k i) k i n x y := rfl
    rw [e, oJ (by omega) n (Nat.le_refl n) x y h]
    exact oI i (by omega) x y h
theorem oK : ∀ k, ∀ x y, ¬ (x < n ∧ y < n) → mK n X k x y = X x y
  | 0, _, _, _ => rfl
  | k + 1, x, y, h => by
    have e : mK n X (k + 1) x y = mI n (mK n X k) k n x y := rfl
    rw [e, oI n (Nat.le_refl n) x y h]
    exact oK k x y h
-- what lies outside does not matter
def eqN (n : Nat) (X Y : Nat → Nat → Int) : Prop := ∀ x y, x < n → y < n → X x y = Y x y
theorem eqN.J (h : eqN n X Y) (hk : k < n) (hi : i < n) : ∀ j, j ≤ n → eqN n (mJ X k i j) (mJ Y k i j)
  | 0, _ => h
  | j + 1, hj => fun x y hx hy => by
    have ih := eqN.J h hk hi j (by omega)
    have e : ∀ X : Nat → Nat → Int, mJ X k i (j + 1) x y = if x = i ∧ y = j then (if z_plus (mJ X k i j i k) (mJ X k i j k j) < mJ X k i j i j then z_plus (mJ X k i j i k) (mJ X k i j k j) else mJ X k i j i j) else mJ X k i j x y := fun X => rfl
    rw [e X, e Y, ih i k hi hk, ih k j hk (by omega), ih i j hi (by omega), ih x y hx hy]
theorem eqN.I (h : eqN n X Y) (hk : k < n) : ∀ i, i ≤ n → eqN n (mI n X k i) (mI n Y k i)
  | 0, _ => h
  | i + 1, hi => (eqN.I h hk i (by omega)).J hk (by omega) n (Nat.le_refl n)
theorem eqN.K (h : eqN n X Y) : ∀ k, k ≤ n → eqN n (mK n X k) (mK n Y k)
  | 0, _ => h
  | k + 1, hk => (eqN.K h k (by omega)).I (by omega) n (Nat.le_refl n)
theorem mDg_at (M : Nat → Nat → Int) : ∀ m x y, mDg M m x y = if x = y ∧ x < m then (if M x x < 0 then M x x else 0) else M x y
  | 0, x, y => by simp [mDg]
  | m + 1, x, y => by
    have e : mDg M (m + 1) x y = if x = m ∧ y = m then (if mDg M m m m < 0 then mDg M m m m else 0) else mDg M m x y := rfl
    rw [e, mDg_at M m m m, if_neg (show ¬ (m = m ∧ m < m) by omega)]
    by_cases c : x = m ∧ y = m
    · have d : x = y ∧ x < m + 1 := by omega
      rw [if_pos c, if_pos d, c.1]
    · rw [if_neg c, mDg_at M m x y]
      by_cases d : x = y ∧ x < m
      · have d' : x = y ∧ x < m + 1 := by omega
        rw [if_pos d, if_pos d']
      · have d' : ¬ (x = y ∧ x < m + 1) := by omega
        rw [if_neg d, if_neg d']
/-- with 0 from a row to itself -/
def wD (M : Nat → Nat → Int) : Nat → Nat → Int := fun x y => if x = y then (if M x x < 0 then M x x else 0) else M x y
theorem wD_ok {M : Nat → Nat → Int} {n : Nat} (h : mWi M n) : wA (wD M) n := by
  have b6 : INF = 1000000 := rfl
  refine ⟨fun i j hi hj => ?_, fun i hi => ?_⟩
  · have w1 := h i j hi hj
    have w2 := h i i hi hi
    unfold wD
    (repeat' split) <;> omega
  · unfold wD
    rw [if_pos rfl]
    split <;> omega
end SB
