/-! STARS: what the class closes -/
section SN
variable {A X Y : Nat → Nat → Int} {n k : Nat}
/-- a matrix of sums of ways, at most those that it began with -/
def dOk (A : Nat → Nat → Int) (n : Nat) (X : Nat → Nat → Int) : Prop := ∀ i j, i < n → j < n → X i j ≤ A i j ∧ X i j ≤ INF ∧ (X i j = INF ∨ ∃ l, wV A n i l j ∧ X i j = wW A i l j)
theorem dOk.up (h : dOk A n X) {i j k : Nat} (hi : i < n) (hj : j < n) (hk : k < n) : dOk A n (m_up X i j (if z_plus (X i k) (X k j) < X i j then z_plus (X i k) (X k j) else X i j)) := fun x y hx hy => by
  unfold m_up
  by_cases c : x = i ∧ y = j
  · rw [if_pos c, c.1, c.2]
    have w := h i j hi hj
    split
    · next q =>
      refine ⟨by omega, by omega, Or.inr ?_⟩
      have n1 : ¬ (X i k = INF ∨ X k j = INF) := fun v => by
        unfold z_plus at q
        rw [if_pos v] at q
        omega
      have e : z_plus (X i k) (X k j) = X i k + X k j := by unfold z_plus; rw [if_neg n1]
      obtain ⟨l1, a1, a2⟩ := ((h i k hi hk).2.2).resolve_left (fun v => n1 (Or.inl v))
      obtain ⟨l2, b1, b2⟩ := ((h k j hk hj).2.2).resolve_left (fun v => n1 (Or.inr v))
      exact ⟨l1 ++ k :: l2, (wV_app l1 i k l2 j).mpr ⟨a1, hk, b1⟩, by rw [wW_app l1 i k l2 j, e, a2, b2]⟩
    · exact w
  · rw [if_neg c]
    exact h x y hx hy
theorem dOk.J (h : dOk A n X) {i k : Nat} (hi : i < n) (hk : k < n) : ∀ j, j ≤ n → dOk A n (mJ X k i j)
  | 0, _ => h
  | j + 1, hj => (dOk.J h hi hk j (by omega)).up hi (by omega) hk
theorem dOk.I (h : dOk A n X) {k : Nat} (hk : k < n) : ∀ i, i ≤ n → dOk A n (mI n X k i)
  | 0, _ => h
  | i + 1, hi => (dOk.I h hk i (by omega)).J (by omega) hk n (Nat.le_refl n)
theorem dOk.K (h : dOk A n X) : ∀ k, k ≤ n → dOk A n (mK n X k)
  | 0, _ => h
  | k + 1, hk => (dOk.K h k (by omega)).I (by omega) n (Nat.le_refl n)
-- never more
theorem up_le (X : Nat → Nat → Int) (i j k x y : Nat) : m_up X i j (if z_plus (X i k) (X k j) < X i j then z_plus (X i k) (X k j) else X i j) x y ≤ X x y := by
  unfold m_up
  by_cases c : x = i ∧ y = j
  · rw [if_pos c, c.1, c.2]
    split <;> omega
  · rw [if_neg c]
    exact Int.le_refl _
theorem mJ_le (X : Nat → Nat → Int) (k i x y : Nat) : ∀ j d, mJ X k i (j + d) x y ≤ mJ X k i j x y
  | _, 0 => Int.le_refl _
  | j, d + 1 => Int.le_trans (up_le _ _ _ _ _ _) (mJ_le X k i x y j d)
theorem mI_le (n : Nat) (X : Nat → Nat → Int) (k x y : Nat) : ∀ i d, mI n X k (i + d) x y ≤ mI n X k i x y
  | _, 0 => Int.le_refl _
  | i, d + 1 => by
    have w := mJ_le (mI n X k (i + d)) k (i + d) x y 0 n
    rw [Nat.zero_add] at w
    exact Int.le_trans w (mI_le n X k x y i d)
theorem mK_le (n : Nat) (X : Nat → Nat → Int) (x y : Nat) : ∀ k d, mK n X (k + d) x y ≤ mK n X k x y
  | _, 0 => Int.le_refl _
  | k, d + 1 => by
    have w := mI_le n (mK n X (k + d)) (k + d) x y 0 n
    rw [Nat.zero_add] at w
    exact Int.le_trans w (mK_le n X x y k d)
/-- a row's step over k is at most the sum of what was there -/
theorem mI_st {n : Nat} (X : Nat → Nat → Int) (hX : ∀ i j, i < n → j < n → X i j ≤ INF) {k i j : Nat} (hk : k < n) (hi : i < n) (hj : j < n) (f1 : X i k ≠ INF) (f2 : X k j ≠ INF) : mI n X k n i j ≤ X i k + X k j := by
  have b1 := hX i k hi hk
  have b2 := hX k j hk hj
  have w0 := mI_le n X k i j (i + 1) (n - (i + 1))
  rw [show i + 1 + (n - (i + 1)) = n by omega] at w0
  have w1 := mJ_le (mI n X k i) k i i j (j + 1) (n - (j + 1))
  rw [show j + 1 + (n - (j + 1)) = n by omega] at w1
  have e1 : mI n X k (i + 1) i j = mJ (mI n X k i) k i n i j := rfl
  obtain ⟨Z, hZ⟩ : ∃ Z, Z = mJ (mI n X k i) k i j := ⟨_, rfl⟩
  have le : ∀ x y, Z x y ≤ X x y := fun x y => by
    have u1 := mJ_le (mI n X k i) k i x y 0 j
    have u2 := mI_le n X k x y 0 i
    rw [Nat.zero_add] at u1 u2
    rw [hZ]
    exact Int.le_trans u1 u2
  have e2 : mJ (mI n X k i) k i (j + 1) i j = if z_plus (Z i k) (Z k j) < Z i j then z_plus (Z i k) (Z k j) else Z i j := by
    rw [hZ]
    show m_up _ i j _ i j = _
    unfold m_up
    rw [if_pos ⟨rfl, rfl⟩]
  have l1 := le i k
  have l2 := le k j
  have n1 : z_plus (Z i k) (Z k j) = Z i k + Z k j := by
    unfold z_plus
    rw [if_neg (fun w => w.elim (fun w => by omega) (fun w => by omega))]
  rw [e1] at w0
  rw [e2, n1] at w1
  split at w1 <;> omega
/-- a simple way by rows below k is no less than what is closed -/
theorem mK_lo (hA : wA A n) (hn : n ≤ 5) : ∀ (k : Nat), k ≤ n → ∀ (l : List Nat) (i j : Nat), i < n → j < n → l.Nodup → (∀ x, x ∈ l → x < k) → wV A n i l j → mK n A k i j ≤ wW A i l j
  | 0, _, l, i, j, hi, hj, hd, hx, v => by
    cases l with
    | nil => exact Int.le_refl _
    | cons x l => exact absurd (hx x (List.mem_cons_self ..)) (Nat.not_lt_zero x)
  | k + 1, hk, l, i, j, hi, hj, hd, hx, v => by
    have b6 : INF = 1000000 := rfl
    by_cases c : k ∈ l
    · obtain ⟨a, b, rfl⟩ := List.append_of_mem c
      have hp : (k :: (a ++ b)).Nodup := (List.perm_middle.nodup_iff).mp hd
      have hp' := List.nodup_cons.mp hp
      have ha := List.nodup_append.mp hp'.2
      have v1 := (wV_app a i k b j).mp v
      have xa : ∀ x, x ∈ a → x < k := fun x q => by
        have h1 := hx x (List.mem_append.mpr (Or.inl q))
        have h2 : x ≠ k := fun e => hp'.1 (List.mem_append.mpr (Or.inl (e ▸ q)))
        omega
      have xb : ∀ x, x ∈ b → x < k := fun x q => by
        have h1 := hx x (List.mem_append.mpr (Or.inr (List.mem_cons_of_mem _ q)))
        have h2 : x ≠ k := fun e => hp'.1 (List.mem_append.mpr (Or.inr (e ▸ q)))
        omega
      have i1 := mK_lo hA hn k (by omega) a i k hi (by omega) ha.1 xa v1.1
      have i2 := mK_lo hA hn k (by omega) b k j (by omega) hj ha.2.1 xb v1.2.2
      have la := l_len k a ha.1 xa
      have lb := l_len k b ha.2.1 xb
      have ba := wW_b hA a i k hi (by omega) v1.1
      have bb := wW_b hA b k j (by omega) hj v1.2.2
      have ok : ∀ x y, x < n → y < n → mK n A k x y ≤ INF := fun x y hx hy => by
        have w := mK_le n A x y 0 k
        rw [Nat.zero_add] at w
        have z := hA.1 x y hx hy
        have w' : mK n A k x y ≤ A x y := w
        omega
      have st := mI_st (mK n A k) ok (show k < n by omega) hi hj (by omega) (by omega)
      rw [wW_app a i k b j]
      have st' : mK n A (k + 1) i j ≤ mK n A k i k + mK n A k k j := st
      omega
    · have w := mK_le n A i j k 1
      have ih := mK_lo hA hn k (by omega) l i j hi hj hd (fun x q => by
        have h1 := hx x q
        have h2 : x ≠ k := fun e => c (e ▸ q)
        omega) v
      omega
theorem dOk.rf (hA : wA A n) : dOk A n A := fun i j hi hj => ⟨Int.le_refl _, by have := hA.1 i j hi hj; have b6 : INF = 1000000 := rfl; omega, by
  by_cases c : A i j = INF
  · exact Or.inl c
  · exact Or.inr ⟨[], c, rfl⟩⟩
/-- both see the same ways back below 0 -/
theorem star_neg (hA : wA A n) (hn : n ≤ 5) : (∃ i, i < n ∧ mK n A n i i < 0) ↔ ¬ (∀ i, i < n → 0 ≤ sP A n n i i) := by
  constructor
  · intro ⟨i, hi, h⟩ q
    have nn : wN A n := fun x l hx hd hm v => by
      have w := sP_n hA hn hx hx hd v
      have := q x hx
      omega
    have ok := (dOk.rf hA).K n (Nat.le_refl n) i i hi hi
    rcases ok.2.2 with w | ⟨l, v, e⟩
    · have b6 : INF = 1000000 := rfl
      omega
    · have := wN_b nn hi v
      omega
  · intro q
    refine Classical.byContradiction fun no => q (fun i hi => ?_)
    have nn : wN A n := fun x l hx hd hm v => by
      have w := mK_lo hA hn n (Nat.le_refl n) l x x hx hx hd (wV_lt l x x v) v
      have : ¬ mK n A n x x < 0 := fun z => no ⟨x, hx, z⟩
      omega
    rcases sP_at hA n i i hi hi with w | ⟨l, -, v, e⟩
    · have b6 : INF = 1000000 := rfl
      omega
    · have := wN_b nn hi v
      omega
/-- without such a way both have the same -/
theorem star_eq (hA : wA A n) (hn : n ≤ 5) (q : ∀ i, i < n → 0 ≤ sP A n n i i) {i j : Nat} (hi : i < n) (hj : j < n) : mK n A n i j = sP A n n i j := by
  have nn : wN A n := fun x l hx hd hm v => by
    have w := sP_n hA hn hx hx hd v
    have := q x hx
    omega
  have ok := (dOk.rf hA).K n (Nat.le_refl n) i j hi hj
  have le := sP_le hA n hi hj
  refine Int.le_antisymm ?_ ?_
  · rcases sP_at hA n i j hi hj with w | ⟨l, -, v, e⟩
    · rw [w]
      exact ok.2.1
    · obtain ⟨p, p1, p2, p3, -⟩ := wR nn l.length l i j (Nat.le_refl _) v
      have := mK_lo hA hn n (Nat.le_refl n) p i j hi hj p1 (wV_lt p i j p2) p2
      omega
  · rcases ok.2.2 with w | ⟨l, v, e⟩
    · rw [w]
      exact le
    · obtain ⟨p, p1, p2, p3, -⟩ := wR nn l.length l i j (Nat.le_refl _) v
      have := sP_n hA hn hi hj p1 p2
      omega
end SN
