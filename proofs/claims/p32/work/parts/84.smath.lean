/-! STARS: ways and their sums; both find the least ones, or a way back below 0 -/
section SM
variable {A : Nat → Nat → Int} {n : Nat}
/-- a way by what has a number; its sum -/
def wV (A : Nat → Nat → Int) (n : Nat) (i : Nat) (l : List Nat) (j : Nat) : Prop := match l with
  | [] => A i j ≠ INF
  | x :: l => x < n ∧ A i x ≠ INF ∧ wV A n x l j
def wW (A : Nat → Nat → Int) (i : Nat) (l : List Nat) (j : Nat) : Int := match l with
  | [] => A i j
  | x :: l => A i x + wW A x l j
theorem wV_app : ∀ (l1 : List Nat) (i x : Nat) (l2 : List Nat) (j : Nat), wV A n i (l1 ++ x :: l2) j ↔ wV A n i l1 x ∧ x < n ∧ wV A n x l2 j
  | [], i, x, l2, j => ⟨fun ⟨a, b, c⟩ => ⟨b, a, c⟩, fun ⟨a, b, c⟩ => ⟨b, a, c⟩⟩
  | y :: l1, i, x, l2, j => by
    show (y < n ∧ A i y ≠ INF ∧ wV A n y (l1 ++ x :: l2) j) ↔ (y < n ∧ A i y ≠ INF ∧ wV A n y l1 x) ∧ x < n ∧ wV A n x l2 j
    rw [wV_app l1 y x l2 j]
    exact ⟨fun ⟨a, b, c, d, e⟩ => ⟨⟨a, b, c⟩, d, e⟩, fun ⟨⟨a, b, c⟩, d, e⟩ => ⟨a, b, c, d, e⟩⟩
theorem wW_app : ∀ (l1 : List Nat) (i x : Nat) (l2 : List Nat) (j : Nat), wW A i (l1 ++ x :: l2) j = wW A i l1 x + wW A x l2 j
  | [], i, x, l2, j => rfl
  | y :: l1, i, x, l2, j => by
    show A i y + wW A y (l1 ++ x :: l2) j = A i y + wW A y l1 x + wW A x l2 j
    rw [wW_app l1 y x l2 j, Int.add_assoc]
/-- entries of steps -/
def wA (A : Nat → Nat → Int) (n : Nat) : Prop := (∀ i j, i < n → j < n → A i j = INF ∨ (-99999 ≤ A i j ∧ A i j ≤ 99999)) ∧ ∀ i, i < n → A i i ≤ 0
theorem wW_b (h : wA A n) : ∀ (l : List Nat) (i j : Nat), i < n → j < n → wV A n i l j → -(99999 * ((l.length : Int) + 1)) ≤ wW A i l j ∧ wW A i l j ≤ 99999 * ((l.length : Int) + 1)
  | [], i, j, hi, hj, v => by
    have w := h.1 i j hi hj
    have v' : A i j ≠ INF := v
    show -(99999 * ((0 : Int) + 1)) ≤ A i j ∧ A i j ≤ 99999 * ((0 : Int) + 1)
    omega
  | x :: l, i, j, hi, hj, v => by
    obtain ⟨v1, v2, v3⟩ := v
    have ih := wW_b h l x j v1 hj v3
    have w := h.1 i x hi v1
    show -(99999 * (((l.length + 1 : Nat) : Int) + 1)) ≤ A i x + wW A x l j ∧ A i x + wW A x l j ≤ 99999 * (((l.length + 1 : Nat) : Int) + 1)
    omega
theorem wV_lt : ∀ (l : List Nat) (i j : Nat), wV A n i l j → ∀ x, x ∈ l → x < n
  | [], _, _, _, x, hx => by cases hx
  | y :: l, i, j, v, x, hx => by
    rcases List.mem_cons.mp hx with rfl | hx
    · exact v.1
    · exact wV_lt l y j v.2.2 x hx
theorem l_first : ∀ (l : List Nat) (y : Nat), y ∈ l → ∃ a b, l = a ++ y :: b ∧ y ∉ a
  | [], y, h => by cases h
  | z :: l, y, h => by
    by_cases c : z = y
    · exact ⟨[], l, by rw [c]; rfl, by simp⟩
    · have hm : y ∈ l := by
        rcases List.mem_cons.mp h with rfl | h
        · exact absurd rfl c
        · exact h
      obtain ⟨a, b, e, hn⟩ := l_first l y hm
      refine ⟨z :: a, b, by rw [e]; rfl, fun w => ?_⟩
      rcases List.mem_cons.mp w with rfl | w
      · exact c rfl
      · exact hn w
/-- a list that holds one twice -/
theorem l_twice : ∀ l : List Nat, ¬ l.Nodup → ∃ l1 x l2 l3, l = l1 ++ x :: (l2 ++ x :: l3) ∧ x ∉ l2
  | [], h => absurd List.nodup_nil h
  | y :: l, h => by
    by_cases c : y ∈ l
    · obtain ⟨a, b, e, hn⟩ := l_first l y c
      exact ⟨[], y, a, b, by rw [e]; rfl, hn⟩
    · have : ¬ l.Nodup := fun w => h (List.nodup_cons.mpr ⟨c, w⟩)
      obtain ⟨l1, x, l2, l3, e, hn⟩ := l_twice l this
      exact ⟨y :: l1, x, l2, l3, by rw [e]; rfl, hn⟩
theorem l_len : ∀ (n : Nat) (l : List Nat), l.Nodup → (∀ x, x ∈ l → x < n) → l.length ≤ n
  | 0, l, _, h => by
    cases l with
    | nil => exact Nat.le_refl 0
    | cons x l => exact absurd (h x (List.mem_cons_self ..)) (Nat.not_lt_zero x)
  | n + 1, l, hd, h => by
    by_cases c : n ∈ l
    · obtain ⟨a, b, rfl⟩ := List.append_of_mem c
      have hp : (n :: (a ++ b)).Nodup := (List.perm_middle.nodup_iff).mp hd
      have hp' := List.nodup_cons.mp hp
      have w := l_len n (a ++ b) hp'.2 (fun x hx => by
        have h1 := h x (by
          rcases List.mem_append.mp hx with q | q
          · exact List.mem_append.mpr (Or.inl q)
          · exact List.mem_append.mpr (Or.inr (List.mem_cons_of_mem _ q)))
        have h2 : x ≠ n := fun e => hp'.1 (e ▸ hx)
        omega)
      rw [List.length_append] at w
      rw [List.length_append, List.length_cons]
      omega
    · have w := l_len n l hd (fun x hx => by
        have h1 := h x hx
        have h2 : x ≠ n := fun e => c (e ▸ hx)
        omega)
      omega
/-- no simple way back is below 0 -/
def wN (A : Nat → Nat → Int) (n : Nat) : Prop := ∀ x l, x < n → l.Nodup → x ∉ l → wV A n x l x → 0 ≤ wW A x l x
/-- then a way can be made simple, and is no longer -/
theorem wR (h : wN A n) : ∀ (m : Nat) (l : List Nat) (i j : Nat), l.length ≤ m → wV A n i l j → ∃ l', l'.Nodup ∧ wV A n i l' j ∧ wW A i l' j ≤ wW A i l j ∧ ∀ x, x ∈ l' → x ∈ l
  | 0, l, i, j, hl, v => by
    cases l with
    | nil => exact ⟨[], List.nodup_nil, v, Int.le_refl _, fun _ q => q⟩
    | cons x l => exact absurd hl (by simp)
  | m + 1, l, i, j, hl, v => by
    by_cases c : l.Nodup
    · exact ⟨l, c, v, Int.le_refl _, fun _ q => q⟩
    · obtain ⟨l1, x, l2, l3, rfl, hn⟩ := l_twice l c
      have v1 := (wV_app l1 i x _ j).mp v
      have v2 := (wV_app l2 x x l3 j).mp v1.2.2
      have s1 := wW_app (A := A) l1 i x (l2 ++ x :: l3) j
      have s2 := wW_app (A := A) l2 x x l3 j
      rw [List.length_append, List.length_cons, List.length_append, List.length_cons] at hl
      obtain ⟨k, k1, k2, k3, k4⟩ := wR h m l2 x x (by omega) v2.1
      have z := h x k v1.2.1 k1 (fun w => hn (k4 x w)) k2
      have v3 : wV A n i (l1 ++ x :: l3) j := (wV_app l1 i x l3 j).mpr ⟨v1.1, v1.2.1, v2.2.2⟩
      obtain ⟨p, p1, p2, p3, p4⟩ := wR h m (l1 ++ x :: l3) i j (by rw [List.length_append, List.length_cons]; omega) v3
      rw [wW_app l1 i x l3 j] at p3
      refine ⟨p, p1, p2, by omega, fun y hy => ?_⟩
      rcases List.mem_append.mp (p4 y hy) with q | q
      · exact List.mem_append.mpr (Or.inl q)
      · refine List.mem_append.mpr (Or.inr ?_)
        rcases List.mem_cons.mp q with rfl | q
        · exact List.mem_cons_self ..
        · exact List.mem_cons_of_mem _ (List.mem_append.mpr (Or.inr (List.mem_cons_of_mem _ q)))
theorem wN_b (h : wN A n) {i : Nat} (hi : i < n) {l : List Nat} (v : wV A n i l i) : 0 ≤ wW A i l i := by
  obtain ⟨k, k1, k2, k3, -⟩ := wR h l.length l i i (Nat.le_refl _) v
  by_cases c : i ∈ k
  · obtain ⟨a, b, rfl⟩ := List.append_of_mem c
    have hp : (i :: (a ++ b)).Nodup := (List.perm_middle.nodup_iff).mp k1
    have hp' := List.nodup_cons.mp hp
    have ha := List.nodup_append.mp hp'.2
    have v1 := (wV_app a i i b i).mp k2
    have z1 := h i a hi ha.1 (fun w => hp'.1 (List.mem_append.mpr (Or.inl w))) v1.1
    have z2 := h i b hi ha.2.1 (fun w => hp'.1 (List.mem_append.mpr (Or.inr w))) v1.2.2
    rw [wW_app a i i b i] at k3
    omega
  · have := h i k hi k1 c k2
    omega
-- powers, as the reference makes them
def sP (A : Nat → Nat → Int) (n : Nat) : Nat → Nat → Nat → Int
  | 0 => A
  | m + 1 => fun i j => mMul (sP A n m) A n i j
theorem sP_up (m i j k : Nat) (hk : k < n) : sP A n (m + 1) i j ≤ z_plus (sP A n m i k) (A k j) := z_mn_lb (fun k => z_plus (sP A n m i k) (A k j)) n k hk
theorem sP_le (hA : wA A n) (m : Nat) {i j : Nat} (hi : i < n) (hj : j < n) : sP A n m i j ≤ INF := by
  cases m with
  | zero => have b6 : INF = 1000000 := rfl; have := hA.1 i j hi hj; show A i j ≤ INF; omega
  | succ m => exact z_mn_le _ _
/-- what is a power's entry is a way's sum -/
theorem sP_at (hA : wA A n) : ∀ (m i j : Nat), i < n → j < n → sP A n m i j = INF ∨ ∃ l : List Nat, l.length = m ∧ wV A n i l j ∧ sP A n m i j = wW A i l j
  | 0, i, j, hi, hj => by
    by_cases c : A i j = INF
    · exact Or.inl c
    · exact Or.inr ⟨[], rfl, c, rfl⟩
  | m + 1, i, j, hi, hj => by
    rcases z_mn_at (fun k => z_plus (sP A n m i k) (A k j)) n with q | ⟨k, hk, q⟩
    · exact Or.inl q
    · have q' : sP A n (m + 1) i j = z_plus (sP A n m i k) (A k j) := q
      by_cases c : sP A n (m + 1) i j = INF
      · exact Or.inl c
      · have n1 : ¬ (sP A n m i k = INF ∨ A k j = INF) := fun w => c (by rw [q']; unfold z_plus; rw [if_pos w])
        have e : sP A n (m + 1) i j = sP A n m i k + A k j := by rw [q']; unfold z_plus; rw [if_neg n1]
        rcases sP_at hA m i k hi hk with w | ⟨l, l1, l2, l3⟩
        · exact absurd (Or.inl w) n1
        · refine Or.inr ⟨l ++ [k], by rw [List.length_append, l1]; rfl, (wV_app l i k [] j).mpr ⟨l2, hk, fun w => n1 (Or.inr w)⟩, ?_⟩
          rw [wW_app l i k [] j, e, l3]
          rfl
/-- a step ahead -/
theorem sP_fr (hA : wA A n) : ∀ (m i j x : Nat), m ≤ 6 → i < n → j < n → x < n → sP A n (m + 1) i j ≤ z_plus (A i x) (sP A n m x j)
  | 0, i, j, x, _, hi, hj, hx => sP_up 0 i j x hx
  | m + 1, i, j, x, hm, hi, hj, hx => by
    have b6 : INF = 1000000 := rfl
    by_cases c : A i x = INF ∨ sP A n (m + 1) x j = INF
    · have e : z_plus (A i x) (sP A n (m + 1) x j) = INF := by unfold z_plus; rw [if_pos c]
      rw [e]
      exact sP_le hA _ hi hj
    · have e : z_plus (A i x) (sP A n (m + 1) x j) = A i x + sP A n (m + 1) x j := by unfold z_plus; rw [if_neg c]
      rw [e]
      rcases z_mn_at (fun k => z_plus (sP A n m x k) (A k j)) n with q | ⟨k, hk, q⟩
      · exact absurd (Or.inr q) c
      · have q' : sP A n (m + 1) x j = z_plus (sP A n m x k) (A k j) := q
        have n1 : ¬ (sP A n m x k = INF ∨ A k j = INF) := fun w => c (Or.inr (by rw [q']; unfold z_plus; rw [if_pos w]))
        have e2 : sP A n (m + 1) x j = sP A n m x k + A k j := by rw [q']; unfold z_plus; rw [if_neg n1]
        have ih := sP_fr hA m i k x (by omega) hi hk hx
        have e3 : z_plus (A i x) (sP A n m x k) = A i x + sP A n m x k := by
          unfold z_plus
          rw [if_neg (fun w => w.elim (fun w => c (Or.inl w)) (fun w => n1 (Or.inl w)))]
        have w1 := sP_up (A := A) (n := n) (m + 1) i j k hk
        have bx := hA.1 i x hi hx
        have nx : A i x ≠ INF := fun w => c (Or.inl w)
        rcases sP_at hA m x k hx hk with w | ⟨l, l1, l2, l3⟩
        · exact absurd (Or.inl w) n1
        · have bl := wW_b hA l x k hx hk l2
          have fin : sP A n (m + 1) i k ≠ INF := by omega
          have e4 : z_plus (sP A n (m + 1) i k) (A k j) = sP A n (m + 1) i k + A k j := by
            unfold z_plus
            rw [if_neg (fun w => w.elim fin (fun w => n1 (Or.inr w)))]
          omega
/-- no power is above a way -/
theorem sP_lo (hA : wA A n) : ∀ (l : List Nat) (i j : Nat), l.length ≤ 7 → i < n → j < n → wV A n i l j → sP A n l.length i j ≤ wW A i l j
  | [], i, j, _, hi, hj, v => Int.le_refl _
  | x :: l, i, j, hl, hi, hj, v => by
    have b6 : INF = 1000000 := rfl
    obtain ⟨v1, v2, v3⟩ := v
    rw [List.length_cons] at hl
    have ih := sP_lo hA l x j (by omega) v1 hj v3
    have w := sP_fr hA l.length i j x (by omega) hi hj v1
    have bl := wW_b hA l x j v1 hj v3
    have e : z_plus (A i x) (sP A n l.length x j) = A i x + sP A n l.length x j := by
      unfold z_plus
      rw [if_neg (fun w => w.elim v2 (fun w => by omega))]
    show sP A n (l.length + 1) i j ≤ A i x + wW A x l j
    omega
theorem sP_mo (hA : wA A n) (m : Nat) {i j : Nat} (hi : i < n) (hj : j < n) : sP A n (m + 1) i j ≤ sP A n m i j := by
  have b6 : INF = 1000000 := rfl
  by_cases c : sP A n m i j = INF
  · rw [c]
    exact sP_le hA _ hi hj
  · have w := sP_up (A := A) (n := n) m i j j hj
    have d := hA.2 j hj
    have e : z_plus (sP A n m i j) (A j j) = sP A n m i j + A j j := by
      unfold z_plus
      rw [if_neg (fun w => w.elim c (fun w => by omega))]
    omega
theorem sP_ms (hA : wA A n) {i j : Nat} (hi : i < n) (hj : j < n) (m : Nat) : ∀ d, sP A n (m + d) i j ≤ sP A n m i j
  | 0 => Int.le_refl _
  | d + 1 => Int.le_trans (sP_mo hA (m + d) hi hj) (sP_ms hA hi hj m d)
/-- powers far enough hold the simple ways -/
theorem sP_n (hA : wA A n) (hn : n ≤ 5) {l : List Nat} {i j : Nat} (hi : i < n) (hj : j < n) (hd : l.Nodup) (v : wV A n i l j) : sP A n n i j ≤ wW A i l j := by
  have hl := l_len n l hd (wV_lt l i j v)
  have w1 := sP_lo hA l i j (by omega) hi hj v
  have w2 := sP_ms hA hi hj l.length (n - l.length)
  rw [show l.length + (n - l.length) = n by omega] at w2
  omega
end SM
