/-! THE START: what both constructors leave; the invariant holds of it -/
def k_S0L : List (Nat → Int) := [fun _ => 0,
  fun _ => 0,
  fun _ => 0,
  fun _ => 0,
  fun _ => 0,
  fun _ => 0,
  fun _ => 0,
  fun _ => 0,
  fun _ => 0,
  fun _ => 0,
  fun _ => 0,
  fun _ => 0,
  fun _ => 0,
  fun _ => 0,
  fun _ => 0,
  fun _ => 0,
  fun _ => 0,
  fun _ => 0,
  fun _ => 0,
  fun _ => 0,
  fun _ => 0,
  fun _ => 0,
  fun _ => 0,
  fun _ => 0,
  fun _ => 0,
  fun _ => 0,
  fun _ => 0,
  fun _ => 0,
  fun _ => 0,
  fun k => if k < 9 then 1000000 else 0,
  fun _ => 1,
  fun _ => 0,
  fun j => if 0 < 5 ∧ j < 5 then INF else 0,
  fun j => if 1 < 5 ∧ j < 5 then INF else 0,
  fun j => if 2 < 5 ∧ j < 5 then INF else 0,
  fun j => if 3 < 5 ∧ j < 5 then INF else 0,
  fun j => if 4 < 5 ∧ j < 5 then INF else 0,
  fun _ => 1,
  fun _ => 0,
  fun j => if 0 < 5 ∧ j < 5 then INF else 0,
  fun j => if 1 < 5 ∧ j < 5 then INF else 0,
  fun j => if 2 < 5 ∧ j < 5 then INF else 0,
  fun j => if 3 < 5 ∧ j < 5 then INF else 0,
  fun j => if 4 < 5 ∧ j < 5 then INF else 0,
  fun _ => 0,
  fun _ => 0,
  fun _ => 0,
  fun _ => 0,
  fun _ => 0,
  fun _ => 0,
  fun k => if k < 9 then 1000000 else 0,
  fun _ => 1,
  fun _ => 0,
  fun j => if 0 < 5 ∧ j < 5 then INF else 0,
  fun j => if 1 < 5 ∧ j < 5 then INF else 0,
  fun j => if 2 < 5 ∧ j < 5 then INF else 0,
  fun j => if 3 < 5 ∧ j < 5 then INF else 0,
  fun j => if 4 < 5 ∧ j < 5 then INF else 0,
  fun _ => 0,
  fun k => if k < 9 then 1000000 else 0,
  fun _ => 1,
  fun _ => 0,
  fun j => if 0 < 5 ∧ j < 5 then INF else 0,
  fun j => if 1 < 5 ∧ j < 5 then INF else 0,
  fun j => if 2 < 5 ∧ j < 5 then INF else 0,
  fun j => if 3 < 5 ∧ j < 5 then INF else 0,
  fun j => if 4 < 5 ∧ j < 5 then INF else 0,
  fun _ => 0,
  fun k => if k < 9 then 1000000 else 0,
  fun _ => 1,
  fun _ => 0,
  fun j => if 0 < 5 ∧ j < 5 then INF else 0,
  fun j => if 1 < 5 ∧ j < 5 then INF else 0,
  fun j => if 2 < 5 ∧ j < 5 then INF else 0,
  fun j => if 3 < 5 ∧ j < 5 then INF else 0,
  fun j => if 4 < 5 ∧ j < 5 then INF else 0,
  fun _ => 0,
  fun k => if k < 9 then 1000000 else 0,
  fun _ => 1,
  fun _ => 0,
  fun j => if 0 < 5 ∧ j < 5 then INF else 0,
  fun j => if 1 < 5 ∧ j < 5 then INF else 0,
  fun j => if 2 < 5 ∧ j < 5 then INF else 0,
  fun j => if 3 < 5 ∧ j < 5 then INF else 0,
  fun j => if 4 < 5 ∧ j < 5 then INF else 0,
  fun _ => 0,
  fun k => if k < 36 then 1000000 else 0,
  fun _ => 0,
  fun _ => 0,
  fun k => if k < 4 then 1 else 0,
  fun k => if k < 100 then 1000000 else 0,
  fun _ => 0,
  fun _ => 0,
  fun _ => 0,
  fun _ => 0,
  fun _ => 0,
  fun _ => 0,
  fun _ => 0,
  fun _ => 0,
  fun _ => 0,
  fun _ => 0,
  fun _ => 0,
  fun _ => 0,
  fun _ => 0]
def k_S0 : Nat → Nat → Int := fun a => match k_S0L[a]? with
  | some f => f
  | none => fun _ => 0
def k_st85 : z_Hp := [.inl (5, [vR 1, vR 2, vR 3, vR 8, vR 28, vR 30, vR 37, vR 44, vR 45, vR 46]),
  .inr (3, 4, fun j => if j < 4 then ((49 + 9 * j : Nat) : Int) else -1),
  .inr (2, 4, fun j => if j < 4 then ((51 + 9 * j : Nat) : Int) else -1),
  .inr (4, 4, fun j => if j < 4 then ((4 + 1 * j : Nat) : Int) else -1),
  .inr (0, 5, fun _ => 0),
  .inr (0, 5, fun _ => 0),
  .inr (0, 5, fun _ => 0),
  .inr (0, 5, fun _ => 0),
  .inl (3, [vR 9, vR 15, vR 16, vR 17, vR 23]),
  .inr (4, 5, fun j => if j < 5 then ((10 + 1 * j : Nat) : Int) else -1),
  .inr (0, 5, fun _ => 0),
  .inr (0, 5, fun _ => 0),
  .inr (0, 5, fun _ => 0),
  .inr (0, 5, fun _ => 0),
  .inr (0, 5, fun _ => 0),
  .inr (0, 5, fun _ => 0),
  .inr (0, 5, fun _ => 0),
  .inr (4, 5, fun j => if j < 5 then ((18 + 1 * j : Nat) : Int) else -1),
  .inr (0, 5, fun _ => 0),
  .inr (0, 5, fun _ => 0),
  .inr (0, 5, fun _ => 0),
  .inr (0, 5, fun _ => 0),
  .inr (0, 5, fun _ => 0),
  .inr (4, 4, fun j => if j < 4 then ((24 + 1 * j : Nat) : Int) else -1),
  .inr (0, 4, fun _ => 0),
  .inr (0, 4, fun _ => 0),
  .inr (0, 4, fun _ => 0),
  .inr (0, 4, fun _ => 0),
  .inl (4, [vR 29]),
  .inr (0, 9, fun k => if k < 9 then 1000000 else 0),
  .inl (2, [vR 31, vI 1]),
  .inr (4, 5, fun j => if j < 5 then ((32 + 1 * j : Nat) : Int) else -1),
  .inr (0, 5, fun j => if 0 < 5 ∧ j < 5 then INF else 0),
  .inr (0, 5, fun j => if 1 < 5 ∧ j < 5 then INF else 0),
  .inr (0, 5, fun j => if 2 < 5 ∧ j < 5 then INF else 0),
  .inr (0, 5, fun j => if 3 < 5 ∧ j < 5 then INF else 0),
  .inr (0, 5, fun j => if 4 < 5 ∧ j < 5 then INF else 0),
  .inl (2, [vR 38, vI 1]),
  .inr (4, 5, fun j => if j < 5 then ((39 + 1 * j : Nat) : Int) else -1),
  .inr (0, 5, fun j => if 0 < 5 ∧ j < 5 then INF else 0),
  .inr (0, 5, fun j => if 1 < 5 ∧ j < 5 then INF else 0),
  .inr (0, 5, fun j => if 2 < 5 ∧ j < 5 then INF else 0),
  .inr (0, 5, fun j => if 3 < 5 ∧ j < 5 then INF else 0),
  .inr (0, 5, fun j => if 4 < 5 ∧ j < 5 then INF else 0),
  .inr (0, 5, fun _ => 0),
  .inl (1, [vI 0, vI 0]),
  .inl (0, [vR 47, vR 48]),
  .inr (0, 32, fun _ => 0),
  .inr (0, 32, fun _ => 0),
  .inl (4, [vR 50]),
  .inr (0, 9, fun k => if k < 9 then 1000000 else 0),
  .inl (2, [vR 52, vI 1]),
  .inr (4, 5, fun j => if j < 5 then ((53 + 1 * j : Nat) : Int) else -1),
  .inr (0, 5, fun j => if 0 < 5 ∧ j < 5 then INF else 0),
  .inr (0, 5, fun j => if 1 < 5 ∧ j < 5 then INF else 0),
  .inr (0, 5, fun j => if 2 < 5 ∧ j < 5 then INF else 0),
  .inr (0, 5, fun j => if 3 < 5 ∧ j < 5 then INF else 0),
  .inr (0, 5, fun j => if 4 < 5 ∧ j < 5 then INF else 0),
  .inl (4, [vR 59]),
  .inr (0, 9, fun k => if k < 9 then 1000000 else 0),
  .inl (2, [vR 61, vI 1]),
  .inr (4, 5, fun j => if j < 5 then ((62 + 1 * j : Nat) : Int) else -1),
  .inr (0, 5, fun j => if 0 < 5 ∧ j < 5 then INF else 0),
  .inr (0, 5, fun j => if 1 < 5 ∧ j < 5 then INF else 0),
  .inr (0, 5, fun j => if 2 < 5 ∧ j < 5 then INF else 0),
  .inr (0, 5, fun j => if 3 < 5 ∧ j < 5 then INF else 0),
  .inr (0, 5, fun j => if 4 < 5 ∧ j < 5 then INF else 0),
  .inl (4, [vR 68]),
  .inr (0, 9, fun k => if k < 9 then 1000000 else 0),
  .inl (2, [vR 70, vI 1]),
  .inr (4, 5, fun j => if j < 5 then ((71 + 1 * j : Nat) : Int) else -1),
  .inr (0, 5, fun j => if 0 < 5 ∧ j < 5 then INF else 0),
  .inr (0, 5, fun j => if 1 < 5 ∧ j < 5 then INF else 0),
  .inr (0, 5, fun j => if 2 < 5 ∧ j < 5 then INF else 0),
  .inr (0, 5, fun j => if 3 < 5 ∧ j < 5 then INF else 0),
  .inr (0, 5, fun j => if 4 < 5 ∧ j < 5 then INF else 0),
  .inl (4, [vR 77]),
  .inr (0, 9, fun k => if k < 9 then 1000000 else 0),
  .inl (2, [vR 79, vI 1]),
  .inr (4, 5, fun j => if j < 5 then ((80 + 1 * j : Nat) : Int) else -1),
  .inr (0, 5, fun j => if 0 < 5 ∧ j < 5 then INF else 0),
  .inr (0, 5, fun j => if 1 < 5 ∧ j < 5 then INF else 0),
  .inr (0, 5, fun j => if 2 < 5 ∧ j < 5 then INF else 0),
  .inr (0, 5, fun j => if 3 < 5 ∧ j < 5 then INF else 0),
  .inr (0, 5, fun j => if 4 < 5 ∧ j < 5 then INF else 0)]
def k_stt : z_Hp := k_st85 ++ [.inl (6, [vR 86, vR 87, vI 0, vR 88, vR 89, vR 90, vR 91, vR 92, vR 93, vR 94, vR 95, vR 96, vR 97, vR 98, vR 99, vR 100, vR 101, vR 102, vI 0]),
  .inr (0, 36, fun k => if k < 36 then 1000000 else 0),
  .inr (0, 9, fun _ => 0),
  .inr (0, 17, fun _ => 0),
  .inr (0, 4, fun k => if k < 4 then 1 else 0),
  .inr (0, 100, fun k => if k < 100 then 1000000 else 0),
  .inr (0, 25, fun _ => 0),
  .inr (0, 25, fun _ => 0),
  .inr (0, 25, fun _ => 0),
  .inr (0, 20, fun _ => 0),
  .inr (0, 5, fun _ => 0),
  .inr (0, 32, fun _ => 0),
  .inr (0, 32, fun _ => 0),
  .inr (0, 25, fun _ => 0),
  .inr (0, 5, fun _ => 0),
  .inr (0, 5, fun _ => 0),
  .inr (0, 5, fun _ => 0),
  .inr (1, 32, fun _ => 0),
  .inr (1, 1, fun _ => 0)]
set_option maxRecDepth 100000 in
theorem k_W_S0 : k_W k_S0 = k_stt := rfl
theorem k_up4 (a c d g : Int) : z_up (z_up (z_up (z_up (fun _ => -1) 0 a) 1 c) 2 d) 3 g = fun j => if j = 0 then a else if j = 1 then c else if j = 2 then d else if j = 3 then g else -1 := by
  funext j
  unfold z_up
  split <;> rename_i h
  · subst h; rfl
  · split <;> rename_i h1
    · subst h1; rfl
    · split <;> rename_i h2
      · subst h2; rfl
      · rfl
theorem k_if4 (o : Nat) : (fun j : Nat => if j < 4 then ((o + 9 * j : Nat) : Int) else -1) = fun j => if j = 0 then ((o : Nat) : Int) else if j = 1 then ((o + 9 : Nat) : Int) else if j = 2 then ((o + 18 : Nat) : Int) else if j = 3 then ((o + 27 : Nat) : Int) else -1 := by
  funext j
  match j with
  | 0 => rfl
  | 1 => rfl
  | 2 => rfl
  | 3 => rfl
  | j + 4 => simp; intro h; omega
theorem k_S0_inv : kInv k_S0 := by
  refine ⟨fun i hi => ?_, fun i hi => ⟨1, by decide, by decide, ?_⟩, fun i hi k hk => ?_, ⟨fun i j hi hj => ?_, fun i j hi hj => ?_, fun v hv => ?_⟩, ⟨1, by decide, rfl⟩, ⟨1, by decide, rfl⟩, ?_, ?_⟩
  · have e1 : k_S0 (50 + 9 * i) = fun k => if k < 9 then 1000000 else 0 := by
      match i, hi with
      | 0, _ => rfl
      | 1, _ => rfl
      | 2, _ => rfl
      | 3, _ => rfl
      | i + 4, h => exact absurd h (by omega)
    have e2 : k_S0 86 = fun k => if k < 36 then 1000000 else 0 := rfl
    rw [e1, e2]
    refine ⟨fun k hk => Or.inl (if_pos hk), fun k hk => ?_⟩
    show (if 9 * i + k < 36 then (1000000 : Int) else 0) = if k < 9 then 1000000 else 0
    rw [if_pos hk, if_pos (by omega)]
  · have e1 : k_S0 (51 + 9 * i) 0 = 1 := by
      match i, hi with
      | 0, _ => rfl
      | 1, _ => rfl
      | 2, _ => rfl
      | 3, _ => rfl
      | i + 4, h => exact absurd h (by omega)
    have e2 : k_S0 89 i = 1 := by
      show (if i < 4 then (1 : Int) else 0) = 1
      rw [if_pos hi]
    have e3 : ∀ x y, x < 5 → y < 5 → k_S0 (53 + 9 * i + x) y = INF := by
      intro x y hx hy
      have e4 : k_S0 (53 + 9 * i + x) = fun j => if x < 5 ∧ j < 5 then INF else 0 := by
        match i, hi, x, hx with
        | 0, _, 0, _ => rfl
        | 0, _, 1, _ => rfl
        | 0, _, 2, _ => rfl
        | 0, _, 3, _ => rfl
        | 0, _, 4, _ => rfl
        | 1, _, 0, _ => rfl
        | 1, _, 1, _ => rfl
        | 1, _, 2, _ => rfl
        | 1, _, 3, _ => rfl
        | 1, _, 4, _ => rfl
        | 2, _, 0, _ => rfl
        | 2, _, 1, _ => rfl
        | 2, _, 2, _ => rfl
        | 2, _, 3, _ => rfl
        | 2, _, 4, _ => rfl
        | 3, _, 0, _ => rfl
        | 3, _, 1, _ => rfl
        | 3, _, 2, _ => rfl
        | 3, _, 3, _ => rfl
        | 3, _, 4, _ => rfl
        | i + 4, h, _, _ => exact absurd h (by omega)
        | _, _, x + 5, h => exact absurd h (by omega)
      rw [e4]
      exact if_pos ⟨hx, hy⟩
    have e5 : ∀ x y, x < 5 → y < 5 → rM k_S0 i x y = INF := by
      intro x y hx hy
      show (if 25 * i + 5 * x + y < 100 then (1000000 : Int) else 0) = INF
      rw [if_pos (by omega)]
    refine ⟨e1, e2, fun x y hx hy => ?_, fun x y hx hy => ⟨?_, Or.inl (e5 x y (by omega) (by omega))⟩, fun x y hx hy _ => e5 x y hx hy⟩
    · unfold kF
      rw [if_pos hx, e3 x y hx hy]
      decide
    · rw [e5 x y (by omega) (by omega), e3 x y (by omega) (by omega)]
  · have e1 : k_S0 (4 + i) k = 0 := by
      match i, hi with
      | 0, _ => rfl
      | 1, _ => rfl
      | 2, _ => rfl
      | 3, _ => rfl
      | i + 4, h => exact absurd h (by omega)
    have e2 : rV k_S0 i k = 0 := rfl
    rw [e1, e2]
    decide
  · have e1 : ∀ i j, i < 5 → kF k_S0 10 5 i j = 0 := by
      intro i j hi
      unfold kF
      rw [if_pos hi]
      match i, hi with
      | 0, _ => rfl
      | 1, _ => rfl
      | 2, _ => rfl
      | 3, _ => rfl
      | 4, _ => rfl
      | i + 5, h => exact absurd h (by omega)
    rw [e1 i j hi, e1 j i hj]
    exact ⟨by decide, by decide, rfl, fun _ => rfl⟩
  · match i, hi with
    | 0, _ => rfl
    | 1, _ => rfl
    | 2, _ => rfl
    | 3, _ => rfl
    | 4, _ => rfl
    | i + 5, h => exact absurd h (by omega)
  · exact ⟨rfl, by decide +revert, by decide +revert⟩
  · intro x y hx hy
    have e4 : kF k_S0 32 5 x y = INF := by
      unfold kF
      rw [if_pos hx]
      match x, hx with
      | 0, _ => exact if_pos ⟨by decide, hy⟩
      | 1, _ => exact if_pos ⟨by decide, hy⟩
      | 2, _ => exact if_pos ⟨by decide, hy⟩
      | 3, _ => exact if_pos ⟨by decide, hy⟩
      | 4, _ => exact if_pos ⟨by decide, hy⟩
      | i + 5, h => exact absurd h (by omega)
    rw [e4]
    decide
  · intro x y hx hy
    have e4 : kF k_S0 39 5 x y = INF := by
      unfold kF
      rw [if_pos hx]
      match x, hx with
      | 0, _ => exact if_pos ⟨by decide, hy⟩
      | 1, _ => exact if_pos ⟨by decide, hy⟩
      | 2, _ => exact if_pos ⟨by decide, hy⟩
      | 3, _ => exact if_pos ⟨by decide, hy⟩
      | 4, _ => exact if_pos ⟨by decide, hy⟩
      | i + 5, h => exact absurd h (by omega)
    rw [e4]
    decide
