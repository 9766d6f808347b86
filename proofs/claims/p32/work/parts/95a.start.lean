/-! THE START: what the constructor leaves; the invariant holds of it -/
def k_S0L : List (Nat → Int) := [fun _ => 0,
  fun _ => 0,
  fun _ => 0,
  fun _ => 0,
  fun _ => 0,
  fun _ => 0,
  fun _ => 0,
  fun _ => 0,
  fun _ => 0,
  fun _ => 0,
  fun _ => 0,
  fun _ => 0,
  fun _ => 0,
  fun _ => 0,
  fun _ => 0,
  fun _ => 0,
  fun _ => 0,
  fun _ => 0,
  fun _ => 0,
  fun _ => 0,
  fun _ => 0,
  fun _ => 0,
  fun _ => 0,
  fun _ => 0,
  fun _ => 0,
  fun _ => 0,
  fun _ => 0,
  fun _ => 0,
  fun _ => 0,
  fun k => if k < 9 then 1000000 else 0,
  fun _ => 1,
  fun _ => 0,
  fun j => if 0 < 5 ∧ j < 5 then INF else 0,
  fun j => if 1 < 5 ∧ j < 5 then INF else 0,
  fun j => if 2 < 5 ∧ j < 5 then INF else 0,
  fun j => if 3 < 5 ∧ j < 5 then INF else 0,
  fun j => if 4 < 5 ∧ j < 5 then INF else 0,
  fun _ => 1,
  fun _ => 0,
  fun j => if 0 < 5 ∧ j < 5 then INF else 0,
  fun j => if 1 < 5 ∧ j < 5 then INF else 0,
  fun j => if 2 < 5 ∧ j < 5 then INF else 0,
  fun j => if 3 < 5 ∧ j < 5 then INF else 0,
  fun j => if 4 < 5 ∧ j < 5 then INF else 0,
  fun _ => 0,
  fun _ => 0,
  fun _ => 0,
  fun _ => 0,
  fun _ => 0,
  fun _ => 0,
  fun k => if k < 9 then 1000000 else 0,
  fun _ => 1,
  fun _ => 0,
  fun j => if 0 < 5 ∧ j < 5 then INF else 0,
  fun j => if 1 < 5 ∧ j < 5 then INF else 0,
  fun j => if 2 < 5 ∧ j < 5 then INF else 0,
  fun j => if 3 < 5 ∧ j < 5 then INF else 0,
  fun j => if 4 < 5 ∧ j < 5 then INF else 0,
  fun _ => 0,
  fun k => if k < 9 then 1000000 else 0,
  fun _ => 1,
  fun _ => 0,
  fun j => if 0 < 5 ∧ j < 5 then INF else 0,
  fun j => if 1 < 5 ∧ j < 5 then INF else 0,
  fun j => if 2 < 5 ∧ j < 5 then INF else 0,
  fun j => if 3 < 5 ∧ j < 5 then INF else 0,
  fun j => if 4 < 5 ∧ j < 5 then INF else 0,
  fun _ => 0,
  fun k => if k < 9 then 1000000 else 0,
  fun _ => 1,
  fun _ => 0,
  fun j => if 0 < 5 ∧ j < 5 then INF else 0,
  fun j => if 1 < 5 ∧ j < 5 then INF else 0,
  fun j => if 2 < 5 ∧ j < 5 then INF else 0,
  fun j => if 3 < 5 ∧ j < 5 then INF else 0,
  fun j => if 4 < 5 ∧ j < 5 then INF else 0,
  fun _ => 0,
  fun k => if k < 9 then 1000000 else 0,
  fun _ => 1,
  fun _ => 0,
  fun j => if 0 < 5 ∧ j < 5 then INF else 0,
  fun j => if 1 < 5 ∧ j < 5 then INF else 0,
  fun j => if 2 < 5 ∧ j < 5 then INF else 0,
  fun j => if 3 < 5 ∧ j < 5 then INF else 0,
  fun j => if 4 < 5 ∧ j < 5 then INF else 0]
def k_S0 : Nat → Nat → Int := fun a => match k_S0L[a]? with
  | some f => f
  | none => fun _ => 0
def k_st85 : z_Hp := [.inl (5, [vR 1, vR 2, vR 3, vR 8, vR 28, vR 30, vR 37, vR 44, vR 45, vR 46]),
  .inr (3, 4, fun j => if j < 4 then ((49 + 9 * j : Nat) : Int) else -1),
  .inr (2, 4, fun j => if j < 4 then ((51 + 9 * j : Nat) : Int) else -1),
  .inr (4, 4, fun j => if j < 4 then ((4 + 1 * j : Nat) : Int) else -1),
  .inr (0, 5, fun _ => 0),
  .inr (0, 5, fun _ => 0),
  .inr (0, 5, fun _ => 0),
  .inr (0, 5, fun _ => 0),
  .inl (3, [vR 9, vR 15, vR 16, vR 17, vR 23]),
  .inr (4, 5, fun j => if j < 5 then ((10 + 1 * j : Nat) : Int) else -1),
  .inr (0, 5, fun _ => 0),
  .inr (0, 5, fun _ => 0),
  .inr (0, 5, fun _ => 0),
  .inr (0, 5, fun _ => 0),
  .inr (0, 5, fun _ => 0),
  .inr (0, 5, fun _ => 0),
  .inr (0, 5, fun _ => 0),
  .inr (4, 5, fun j => if j < 5 then ((18 + 1 * j : Nat) : Int) else -1),
  .inr (0, 5, fun _ => 0),
  .inr (0, 5, fun _ => 0),
  .inr (0, 5, fun _ => 0),
  .inr (0, 5, fun _ => 0),
  .inr (0, 5, fun _ => 0),
  .inr (4, 4, fun j => if j < 4 then ((24 + 1 * j : Nat) : Int) else -1),
  .inr (0, 4, fun _ => 0),
  .inr (0, 4, fun _ => 0),
  .inr (0, 4, fun _ => 0),
  .inr (0, 4, fun _ => 0),
  .inl (4, [vR 29]),
  .inr (0, 9, fun k => if k < 9 then 1000000 else 0),
  .inl (2, [vR 31, vI 1]),
  .inr (4, 5, fun j => if j < 5 then ((32 + 1 * j : Nat) : Int) else -1),
  .inr (0, 5, fun j => if 0 < 5 ∧ j < 5 then INF else 0),
  .inr (0, 5, fun j => if 1 < 5 ∧ j < 5 then INF else 0),
  .inr (0, 5, fun j => if 2 < 5 ∧ j < 5 then INF else 0),
  .inr (0, 5, fun j => if 3 < 5 ∧ j < 5 then INF else 0),
  .inr (0, 5, fun j => if 4 < 5 ∧ j < 5 then INF else 0),
  .inl (2, [vR 38, vI 1]),
  .inr (4, 5, fun j => if j < 5 then ((39 + 1 * j : Nat) : Int) else -1),
  .inr (0, 5, fun j => if 0 < 5 ∧ j < 5 then INF else 0),
  .inr (0, 5, fun j => if 1 < 5 ∧ j < 5 then INF else 0),
  .inr (0, 5, fun j => if 2 < 5 ∧ j < 5 then INF else 0),
  .inr (0, 5, fun j => if 3 < 5 ∧ j < 5 then INF else 0),
  .inr (0, 5, fun j => if 4 < 5 ∧ j < 5 then INF else 0),
  .inr (0, 5, fun _ => 0),
  .inl (1, [vI 0, vI 0]),
  .inl (0, [vR 47, vR 48]),
  .inr (0, 32, fun _ => 0),
  .inr (0, 32, fun _ => 0),
  .inl (4, [vR 50]),
  .inr (0, 9, fun k => if k < 9 then 1000000 else 0),
  .inl (2, [vR 52, vI 1]),
  .inr (4, 5, fun j => if j < 5 then ((53 + 1 * j : Nat) : Int) else -1),
  .inr (0, 5, fun j => if 0 < 5 ∧ j < 5 then INF else 0),
  .inr (0, 5, fun j => if 1 < 5 ∧ j < 5 then INF else 0),
  .inr (0, 5, fun j => if 2 < 5 ∧ j < 5 then INF else 0),
  .inr (0, 5, fun j => if 3 < 5 ∧ j < 5 then INF else 0),
  .inr (0, 5, fun j => if 4 < 5 ∧ j < 5 then INF else 0),
  .inl (4, [vR 59]),
  .inr (0, 9, fun k => if k < 9 then 1000000 else 0),
  .inl (2, [vR 61, vI 1]),
  .inr (4, 5, fun j => if j < 5 then ((62 + 1 * j : Nat) : Int) else -1),
  .inr (0, 5, fun j => if 0 < 5 ∧ j < 5 then INF else 0),
  .inr (0, 5, fun j => if 1 < 5 ∧ j < 5 then INF else 0),
  .inr (0, 5, fun j => if 2 < 5 ∧ j < 5 then INF else 0),
  .inr (0, 5, fun j => if 3 < 5 ∧ j < 5 then INF else 0),
  .inr (0, 5, fun j => if 4 < 5 ∧ j < 5 then INF else 0),
  .inl (4, [vR 68]),
  .inr (0, 9, fun k => if k < 9 then 1000000 else 0),
  .inl (2, [vR 70, vI 1]),
  .inr (4, 5, fun j => if j < 5 then ((71 + 1 * j : Nat) : Int) else -1),
  .inr (0, 5, fun j => if 0 < 5 ∧ j < 5 then INF else 0),
  .inr (0, 5, fun j => if 1 < 5 ∧ j < 5 then INF else 0),
  .inr (0, 5, fun j => if 2 < 5 ∧ j < 5 then INF else 0),
  .inr (0, 5, fun j => if 3 < 5 ∧ j < 5 then INF else 0),
  .inr (0, 5, fun j => if 4 < 5 ∧ j < 5 then INF else 0),
  .inl (4, [vR 77]),
  .inr (0, 9, fun k => if k < 9 then 1000000 else 0),
  .inl (2, [vR 79, vI 1]),
  .inr (4, 5, fun j => if j < 5 then ((80 + 1 * j : Nat) : Int) else -1),
  .inr (0, 5, fun j => if 0 < 5 ∧ j < 5 then INF else 0),
  .inr (0, 5, fun j => if 1 < 5 ∧ j < 5 then INF else 0),
  .inr (0, 5, fun j => if 2 < 5 ∧ j < 5 then INF else 0),
  .inr (0, 5, fun j => if 3 < 5 ∧ j < 5 then INF else 0),
  .inr (0, 5, fun j => if 4 < 5 ∧ j < 5 then INF else 0)]
set_option maxRecDepth 100000 in
theorem k_W_S0 : k_W [] k_S0 = k_st85 := rfl
theorem k_up4 (a c d g : Int) : z_up (z_up (z_up (z_up (fun _ => -1) 0 a) 1 c) 2 d) 3 g = fun j => if j = 0 then a else if j = 1 then c else if j = 2 then d else if j = 3 then g else -1 := by
  funext j
  unfold z_up
  split <;> rename_i h
  · subst h; rfl
  · split <;> rename_i h1
    · subst h1; rfl
    · split <;> rename_i h2
      · subst h2; rfl
      · rfl
theorem k_if4 (o : Nat) : (fun j : Nat => if j < 4 then ((o + 9 * j : Nat) : Int) else -1) = fun j => if j = 0 then ((o : Nat) : Int) else if j = 1 then ((o + 9 : Nat) : Int) else if j = 2 then ((o + 18 : Nat) : Int) else if j = 3 then ((o + 27 : Nat) : Int) else -1 := by
  funext j
  match j with
  | 0 => rfl
  | 1 => rfl
  | 2 => rfl
  | 3 => rfl
  | j + 4 => simp; intro h; omega
theorem k_S0_inv : cInv k_S0 := by
  have eM : ∀ i x y, i < 4 → x < 5 → y < 5 → k_S0 (53 + 9 * i + x) y = INF := by
    intro i x y hi hx hy
    have e4 : k_S0 (53 + 9 * i + x) = fun j => if x < 5 ∧ j < 5 then INF else 0 := by
      match i, hi, x, hx with
      | 0, _, 0, _ => rfl
      | 0, _, 1, _ => rfl
      | 0, _, 2, _ => rfl
      | 0, _, 3, _ => rfl
      | 0, _, 4, _ => rfl
      | 1, _, 0, _ => rfl
      | 1, _, 1, _ => rfl
      | 1, _, 2, _ => rfl
      | 1, _, 3, _ => rfl
      | 1, _, 4, _ => rfl
      | 2, _, 0, _ => rfl
      | 2, _, 1, _ => rfl
      | 2, _, 2, _ => rfl
      | 2, _, 3, _ => rfl
      | 2, _, 4, _ => rfl
      | 3, _, 0, _ => rfl
      | 3, _, 1, _ => rfl
      | 3, _, 2, _ => rfl
      | 3, _, 3, _ => rfl
      | 3, _, 4, _ => rfl
      | i + 4, h, _, _ => exact absurd h (by omega)
      | _, _, x + 5, h => exact absurd h (by omega)
    rw [e4]
    exact if_pos ⟨hx, hy⟩
  refine ⟨fun i hi => ?_, fun i hi => ⟨1, by decide, ?_, fun x y hx hy => ?_, fun x y hx hy => ?_⟩, fun i hi k hk => ?_, ⟨fun i j hi hj => ?_, fun v hv => ?_⟩, ⟨1, by decide, rfl⟩, ⟨1, by decide, rfl⟩, ?_, ?_⟩
  · have e1 : k_S0 (50 + 9 * i) = fun k => if k < 9 then 1000000 else 0 := by
      match i, hi with
      | 0, _ => rfl
      | 1, _ => rfl
      | 2, _ => rfl
      | 3, _ => rfl
      | i + 4, h => exact absurd h (by omega)
    rw [e1]
    exact fun k hk => Or.inl (if_pos hk)
  · match i, hi with
    | 0, _ => rfl
    | 1, _ => rfl
    | 2, _ => rfl
    | 3, _ => rfl
    | i + 4, h => exact absurd h (by omega)
  · unfold cM kF
    rw [if_pos hx, eM i x y hi hx hy]
    decide
  · unfold cM kF
    rw [if_pos (by omega), eM i x y hi (by omega) (by omega)]
    exact Or.inl rfl
  · have e1 : k_S0 (4 + i) k = 0 := by
      match i, hi with
      | 0, _ => rfl
      | 1, _ => rfl
      | 2, _ => rfl
      | 3, _ => rfl
      | i + 4, h => exact absurd h (by omega)
    rw [e1]
    decide
  · have e1 : ∀ i j, i < 5 → kF k_S0 10 5 i j = 0 := by
      intro i j hi
      unfold kF
      rw [if_pos hi]
      match i, hi with
      | 0, _ => rfl
      | 1, _ => rfl
      | 2, _ => rfl
      | 3, _ => rfl
      | 4, _ => rfl
      | i + 5, h => exact absurd h (by omega)
    rw [e1 i j hi, e1 j i hj]
    exact ⟨by decide, by decide, rfl, fun _ => rfl⟩
  · have e1 : k_S0 15 v = 0 := rfl
    rw [e1]
    decide
  · intro x y hx hy
    have e4 : kF k_S0 32 5 x y = INF := by
      unfold kF
      rw [if_pos hx]
      match x, hx with
      | 0, _ => exact if_pos ⟨by decide, hy⟩
      | 1, _ => exact if_pos ⟨by decide, hy⟩
      | 2, _ => exact if_pos ⟨by decide, hy⟩
      | 3, _ => exact if_pos ⟨by decide, hy⟩
      | 4, _ => exact if_pos ⟨by decide, hy⟩
      | i + 5, h => exact absurd h (by omega)
    rw [e4]
    decide
  · intro x y hx hy
    have e4 : kF k_S0 39 5 x y = INF := by
      unfold kF
      rw [if_pos hx]
      match x, hx with
      | 0, _ => exact if_pos ⟨by decide, hy⟩
      | 1, _ => exact if_pos ⟨by decide, hy⟩
      | 2, _ => exact if_pos ⟨by decide, hy⟩
      | 3, _ => exact if_pos ⟨by decide, hy⟩
      | 4, _ => exact if_pos ⟨by decide, hy⟩
      | i + 5, h => exact absurd h (by omega)
    rw [e4]
    decide
theorem k_dv5 (base : z_B) : ∀ j, j < 10 → defaultValue (tyX5 j) = vp_V (([vU, vU, vU, vU, vU, vU, vU, vU, vU, vU] : List z_V).map (z_kV base)) j := fun j hj => match j, hj with
  | 0, _ => rfl
  | 1, _ => rfl
  | 2, _ => rfl
  | 3, _ => rfl
  | 4, _ => rfl
  | 5, _ => rfl
  | 6, _ => rfl
  | 7, _ => rfl
  | 8, _ => rfl
  | 9, _ => rfl
  | n + 10, h => by omega
def k_B5 (n : Nat) : List z_Cl := .inr (3, 4, z_up (z_up (z_up (z_up (fun _ => -1) 0 ((n + 48 : Nat) : Int)) 1 ((n + 57 : Nat) : Int)) 2 ((n + 66 : Nat) : Int)) 3 ((n + 75 : Nat) : Int)) :: .inr (2, 4, z_up (z_up (z_up (z_up (fun _ => -1) 0 ((n + 50 : Nat) : Int)) 1 ((n + 59 : Nat) : Int)) 2 ((n + 68 : Nat) : Int)) 3 ((n + 77 : Nat) : Int)) :: ((((k5_A2 n ++ k5_rd (n + 48)) ++ k5_rd (n + 57)) ++ k5_rd (n + 66)) ++ k5_rd (n + 75))
theorem k_H85 : ([.inl (5, [vU, vU, vU, vU, vU, vU, vU, vU, vU, vU])] : z_Hp).set 0 (k5_o 1) ++ k_B5 1 = k_st85 := by
  have e1 : z_up (z_up (z_up (z_up (fun _ => -1) 0 ((1 + 48 : Nat) : Int)) 1 ((1 + 57 : Nat) : Int)) 2 ((1 + 66 : Nat) : Int)) 3 ((1 + 75 : Nat) : Int) = fun j => if j < 4 then ((49 + 9 * j : Nat) : Int) else -1 := (k_up4 _ _ _ _).trans (k_if4 49).symm
  have e2 : z_up (z_up (z_up (z_up (fun _ => -1) 0 ((1 + 50 : Nat) : Int)) 1 ((1 + 59 : Nat) : Int)) 2 ((1 + 68 : Nat) : Int)) 3 ((1 + 77 : Nat) : Int) = fun j => if j < 4 then ((51 + 9 * j : Nat) : Int) else -1 := (k_up4 _ _ _ _).trans (k_if4 51).symm
  exact (congr (congrArg (fun (f g : Nat → Int) => (k5_o 1 :: .inr (3, 4, f) :: .inr (2, 4, g) :: ((((k5_A2 1 ++ k5_rd (1 + 48)) ++ k5_rd (1 + 57)) ++ k5_rd (1 + 66)) ++ k5_rd (1 + 75)) : z_Hp)) e1) e2).trans rfl
theorem k_f5 : k_fB 5 [vU, vU, vU, vU, vU, vU, vU, vU, vU, vU] k5_o k_B5 [.inl (5, [vU, vU, vU, vU, vU, vU, vU, vU, vU, vU])] 0 = some k_st85 := by
  unfold k_fB
  simp only [List.getElem?_cons_zero, and_self, if_true]
  exact congrArg some k_H85
theorem k_len85 : k_st85.length = 85 := rfl
