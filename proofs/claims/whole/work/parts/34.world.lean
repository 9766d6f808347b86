/-! THE WHOLE WORLD: printed by wip/whole/gen/world.py: cell a is made of S a -/
def k_tab : List ((Nat → Int) → z_Cl) := [
  fun _ => .inl (5, [vR 1, vR 2, vR 3, vR 8, vR 28, vR 30, vR 37, vR 44, vR 45, vR 46]),
  fun _ => .inr (3, 4, fun j => if j < 4 then ((49 + 9 * j : Nat) : Int) else -1),
  fun _ => .inr (2, 4, fun j => if j < 4 then ((51 + 9 * j : Nat) : Int) else -1),
  fun _ => .inr (4, 4, fun j => if j < 4 then ((4 + 1 * j : Nat) : Int) else -1),
  fun f => .inr (0, 5, f),
  fun f => .inr (0, 5, f),
  fun f => .inr (0, 5, f),
  fun f => .inr (0, 5, f),
  fun _ => .inl (3, [vR 9, vR 15, vR 16, vR 17, vR 23]),
  fun _ => .inr (4, 5, fun j => if j < 5 then ((10 + 1 * j : Nat) : Int) else -1),
  fun f => .inr (0, 5, f),
  fun f => .inr (0, 5, f),
  fun f => .inr (0, 5, f),
  fun f => .inr (0, 5, f),
  fun f => .inr (0, 5, f),
  fun f => .inr (0, 5, f),
  fun f => .inr (0, 5, f),
  fun _ => .inr (4, 5, fun j => if j < 5 then ((18 + 1 * j : Nat) : Int) else -1),
  fun f => .inr (0, 5, f),
  fun f => .inr (0, 5, f),
  fun f => .inr (0, 5, f),
  fun f => .inr (0, 5, f),
  fun f => .inr (0, 5, f),
  fun _ => .inr (4, 4, fun j => if j < 4 then ((24 + 1 * j : Nat) : Int) else -1),
  fun f => .inr (0, 4, f),
  fun f => .inr (0, 4, f),
  fun f => .inr (0, 4, f),
  fun f => .inr (0, 4, f),
  fun _ => .inl (4, [vR 29]),
  fun f => .inr (0, 9, f),
  fun f => .inl (2, [vR 31, vI (f 0)]),
  fun _ => .inr (4, 5, fun j => if j < 5 then ((32 + 1 * j : Nat) : Int) else -1),
  fun f => .inr (0, 5, f),
  fun f => .inr (0, 5, f),
  fun f => .inr (0, 5, f),
  fun f => .inr (0, 5, f),
  fun f => .inr (0, 5, f),
  fun f => .inl (2, [vR 38, vI (f 0)]),
  fun _ => .inr (4, 5, fun j => if j < 5 then ((39 + 1 * j : Nat) : Int) else -1),
  fun f => .inr (0, 5, f),
  fun f => .inr (0, 5, f),
  fun f => .inr (0, 5, f),
  fun f => .inr (0, 5, f),
  fun f => .inr (0, 5, f),
  fun f => .inr (0, 5, f),
  fun f => .inl (1, [vI (f 0), vI (f 1)]),
  fun _ => .inl (0, [vR 47, vR 48]),
  fun f => .inr (0, 32, f),
  fun f => .inr (0, 32, f),
  fun _ => .inl (4, [vR 50]),
  fun f => .inr (0, 9, f),
  fun f => .inl (2, [vR 52, vI (f 0)]),
  fun _ => .inr (4, 5, fun j => if j < 5 then ((53 + 1 * j : Nat) : Int) else -1),
  fun f => .inr (0, 5, f),
  fun f => .inr (0, 5, f),
  fun f => .inr (0, 5, f),
  fun f => .inr (0, 5, f),
  fun f => .inr (0, 5, f),
  fun _ => .inl (4, [vR 59]),
  fun f => .inr (0, 9, f),
  fun f => .inl (2, [vR 61, vI (f 0)]),
  fun _ => .inr (4, 5, fun j => if j < 5 then ((62 + 1 * j : Nat) : Int) else -1),
  fun f => .inr (0, 5, f),
  fun f => .inr (0, 5, f),
  fun f => .inr (0, 5, f),
  fun f => .inr (0, 5, f),
  fun f => .inr (0, 5, f),
  fun _ => .inl (4, [vR 68]),
  fun f => .inr (0, 9, f),
  fun f => .inl (2, [vR 70, vI (f 0)]),
  fun _ => .inr (4, 5, fun j => if j < 5 then ((71 + 1 * j : Nat) : Int) else -1),
  fun f => .inr (0, 5, f),
  fun f => .inr (0, 5, f),
  fun f => .inr (0, 5, f),
  fun f => .inr (0, 5, f),
  fun f => .inr (0, 5, f),
  fun _ => .inl (4, [vR 77]),
  fun f => .inr (0, 9, f),
  fun f => .inl (2, [vR 79, vI (f 0)]),
  fun _ => .inr (4, 5, fun j => if j < 5 then ((80 + 1 * j : Nat) : Int) else -1),
  fun f => .inr (0, 5, f),
  fun f => .inr (0, 5, f),
  fun f => .inr (0, 5, f),
  fun f => .inr (0, 5, f),
  fun f => .inr (0, 5, f),
  fun f => .inl (6, [vR 86, vR 87, vI (f 0), vR 88, vR 89, vR 90, vR 91, vR 92, vR 93, vR 94, vR 95, vR 96, vR 97, vR 98, vR 99, vR 100, vR 101, vR 102, vI (f 1)]),
  fun f => .inr (0, 36, f),
  fun f => .inr (0, 9, f),
  fun f => .inr (0, 17, f),
  fun f => .inr (0, 4, f),
  fun f => .inr (0, 100, f),
  fun f => .inr (0, 25, f),
  fun f => .inr (0, 25, f),
  fun f => .inr (0, 25, f),
  fun f => .inr (0, 20, f),
  fun f => .inr (0, 5, f),
  fun f => .inr (0, 32, f),
  fun f => .inr (0, 32, f),
  fun f => .inr (0, 25, f),
  fun f => .inr (0, 5, f),
  fun f => .inr (0, 5, f),
  fun f => .inr (0, 5, f),
  fun f => .inr (1, 32, f),
  fun f => .inr (1, 1, f)]
def k_C (a : Nat) (f : Nat → Int) : z_Cl := match k_tab[a]? with
  | some c => c f
  | none => .inl (0, [])
def k_W (S : Nat → Nat → Int) : z_Hp := (List.range 104).map fun a => k_C a (S a)
def k_u (S : Nat → Nat → Int) (a : Nat) (f : Nat → Int) : Nat → Nat → Int := fun x => if x = a then f else S x
theorem k_u_s (S : Nat → Nat → Int) (a : Nat) (f : Nat → Int) : k_u S a f a = f := by simp [k_u]
theorem k_u_n {S : Nat → Nat → Int} {a : Nat} {f : Nat → Int} {b : Nat} (h : b ≠ a) : k_u S a f b = S b := by simp [k_u, h]
theorem k_u_u (S : Nat → Nat → Int) (a : Nat) (f g : Nat → Int) : k_u (k_u S a f) a g = k_u S a g := by
  funext x
  unfold k_u
  split <;> simp [*]
theorem k_u_id (S : Nat → Nat → Int) (a : Nat) : k_u S a (S a) = S := by
  funext x
  unfold k_u
  split
  · next h => rw [h]
  · rfl
theorem k_u_c {S : Nat → Nat → Int} {a b : Nat} {f g : Nat → Int} (h : a ≠ b) : k_u (k_u S a f) b g = k_u (k_u S b g) a f := by
  funext x
  unfold k_u
  by_cases h1 : x = b
  · subst h1
    simp [Ne.symm h]
  · simp [h1]
theorem k_get {S : Nat → Nat → Int} {a : Nat} (ha : a < 104) : (k_W S)[a]? = some (k_C a (S a)) := by
  unfold k_W
  simp [List.getElem?_map, List.getElem?_range ha]
theorem k_set {S : Nat → Nat → Int} {a : Nat} {g : Nat → Int} {y : z_Cl} (h : y = k_C a g) : (k_W S).set a y = k_W (k_u S a g) := by
  subst h
  apply List.ext_getElem?
  intro j
  rw [List.getElem?_set]
  by_cases hj : a = j
  · subst hj
    by_cases ha : a < 104
    · rw [if_pos rfl, if_pos (by simpa [k_W] using ha), k_get ha, k_u_s]
    · rw [if_pos rfl, if_neg (by simpa [k_W] using ha), List.getElem?_eq_none (by simp [k_W]; omega)]
  · rw [if_neg hj]
    by_cases hk : j < 104
    · rw [k_get hk, k_get hk, k_u_n (fun e => hj e.symm)]
    · rw [List.getElem?_eq_none (by simp [k_W]; omega), List.getElem?_eq_none (by simp [k_W]; omega)]
theorem k_len (S : Nat → Nat → Int) : (k_W S).length = 104 := by simp [k_W]
/-- a world whose cells are so -/
theorem k_ext {S : Nat → Nat → Int} {h : z_Hp} (hl : h.length = 104) (hc : ∀ a, a < 104 → h[a]? = some (k_C a (S a))) : h = k_W S := by
  apply List.ext_getElem?
  intro j
  by_cases hj : j < 104
  · rw [hc j hj, k_get hj]
  · rw [List.getElem?_eq_none (by omega), List.getElem?_eq_none (by simp [k_W]; omega)]
theorem k_arr {S : Nat → Nat → Int} {a t n : Nat} {f : Nat → Int} (ha : a < 104) (h : k_C a (S a) = .inr (t, n, f)) (hn : n < 2147483648) : z_arr (k_W S) a t = some (n, f) := q_arr ((k_get ha).trans (congrArg some h)) hn
theorem k_obj {S : Nat → Nat → Int} {a ci : Nat} {fs : List z_V} (ha : a < 104) (h : k_C a (S a) = .inl (ci, fs)) : z_obj (k_W S) a ci = some fs := q_obj ((k_get ha).trans (congrArg some h))
theorem k_vm {S : Nat → Nat → Int} {ci : Nat} {f : z_Mt} {r : Nat} {L : List z_V} {fs : List z_V} (hr : r < 104) (h : k_C r (S r) = .inl (ci, fs)) : z_vm ci f (vR r :: L) (k_W S) = f (vR r :: L) (k_W S) := q_vm ((k_get hr).trans (congrArg some h))
section KW
variable (S : Nat → Nat → Int) (g : Nat → Int)
theorem k_v0 (f : z_Mt) (L : List z_V) : z_vm 5 f (vR 0 :: L) (k_W S) = f (vR 0 :: L) (k_W S) := k_vm (by decide) rfl
theorem k_o0 : z_obj (k_W S) 0 5 = some [vR 1, vR 2, vR 3, vR 8, vR 28, vR 30, vR 37, vR 44, vR 45, vR 46] := k_obj (by decide) rfl
theorem k_a1 : z_arr (k_W S) 1 3 = some (4, fun j => if j < 4 then ((49 + 9 * j : Nat) : Int) else -1) := k_arr (by decide) rfl (by decide)
theorem k_a2 : z_arr (k_W S) 2 2 = some (4, fun j => if j < 4 then ((51 + 9 * j : Nat) : Int) else -1) := k_arr (by decide) rfl (by decide)
theorem k_a3 : z_arr (k_W S) 3 4 = some (4, fun j => if j < 4 then ((4 + 1 * j : Nat) : Int) else -1) := k_arr (by decide) rfl (by decide)
theorem k_a4 : z_arr (k_W S) 4 0 = some (5, S 4) := k_arr (by decide) rfl (by decide)
theorem k_s4 : (k_W S).set 4 (.inr (0, 5, g)) = k_W (k_u S 4 g) := k_set rfl
theorem k_a5 : z_arr (k_W S) 5 0 = some (5, S 5) := k_arr (by decide) rfl (by decide)
theorem k_s5 : (k_W S).set 5 (.inr (0, 5, g)) = k_W (k_u S 5 g) := k_set rfl
theorem k_a6 : z_arr (k_W S) 6 0 = some (5, S 6) := k_arr (by decide) rfl (by decide)
theorem k_s6 : (k_W S).set 6 (.inr (0, 5, g)) = k_W (k_u S 6 g) := k_set rfl
theorem k_a7 : z_arr (k_W S) 7 0 = some (5, S 7) := k_arr (by decide) rfl (by decide)
theorem k_s7 : (k_W S).set 7 (.inr (0, 5, g)) = k_W (k_u S 7 g) := k_set rfl
theorem k_v8 (f : z_Mt) (L : List z_V) : z_vm 3 f (vR 8 :: L) (k_W S) = f (vR 8 :: L) (k_W S) := k_vm (by decide) rfl
theorem k_o8 : z_obj (k_W S) 8 3 = some [vR 9, vR 15, vR 16, vR 17, vR 23] := k_obj (by decide) rfl
theorem k_a9 : z_arr (k_W S) 9 4 = some (5, fun j => if j < 5 then ((10 + 1 * j : Nat) : Int) else -1) := k_arr (by decide) rfl (by decide)
theorem k_a10 : z_arr (k_W S) 10 0 = some (5, S 10) := k_arr (by decide) rfl (by decide)
theorem k_s10 : (k_W S).set 10 (.inr (0, 5, g)) = k_W (k_u S 10 g) := k_set rfl
theorem k_a11 : z_arr (k_W S) 11 0 = some (5, S 11) := k_arr (by decide) rfl (by decide)
theorem k_s11 : (k_W S).set 11 (.inr (0, 5, g)) = k_W (k_u S 11 g) := k_set rfl
theorem k_a12 : z_arr (k_W S) 12 0 = some (5, S 12) := k_arr (by decide) rfl (by decide)
theorem k_s12 : (k_W S).set 12 (.inr (0, 5, g)) = k_W (k_u S 12 g) := k_set rfl
theorem k_a13 : z_arr (k_W S) 13 0 = some (5, S 13) := k_arr (by decide) rfl (by decide)
theorem k_s13 : (k_W S).set 13 (.inr (0, 5, g)) = k_W (k_u S 13 g) := k_set rfl
theorem k_a14 : z_arr (k_W S) 14 0 = some (5, S 14) := k_arr (by decide) rfl (by decide)
theorem k_s14 : (k_W S).set 14 (.inr (0, 5, g)) = k_W (k_u S 14 g) := k_set rfl
theorem k_a15 : z_arr (k_W S) 15 0 = some (5, S 15) := k_arr (by decide) rfl (by decide)
theorem k_s15 : (k_W S).set 15 (.inr (0, 5, g)) = k_W (k_u S 15 g) := k_set rfl
theorem k_a16 : z_arr (k_W S) 16 0 = some (5, S 16) := k_arr (by decide) rfl (by decide)
theorem k_s16 : (k_W S).set 16 (.inr (0, 5, g)) = k_W (k_u S 16 g) := k_set rfl
theorem k_a17 : z_arr (k_W S) 17 4 = some (5, fun j => if j < 5 then ((18 + 1 * j : Nat) : Int) else -1) := k_arr (by decide) rfl (by decide)
theorem k_a18 : z_arr (k_W S) 18 0 = some (5, S 18) := k_arr (by decide) rfl (by decide)
theorem k_s18 : (k_W S).set 18 (.inr (0, 5, g)) = k_W (k_u S 18 g) := k_set rfl
theorem k_a19 : z_arr (k_W S) 19 0 = some (5, S 19) := k_arr (by decide) rfl (by decide)
theorem k_s19 : (k_W S).set 19 (.inr (0, 5, g)) = k_W (k_u S 19 g) := k_set rfl
theorem k_a20 : z_arr (k_W S) 20 0 = some (5, S 20) := k_arr (by decide) rfl (by decide)
theorem k_s20 : (k_W S).set 20 (.inr (0, 5, g)) = k_W (k_u S 20 g) := k_set rfl
theorem k_a21 : z_arr (k_W S) 21 0 = some (5, S 21) := k_arr (by decide) rfl (by decide)
theorem k_s21 : (k_W S).set 21 (.inr (0, 5, g)) = k_W (k_u S 21 g) := k_set rfl
theorem k_a22 : z_arr (k_W S) 22 0 = some (5, S 22) := k_arr (by decide) rfl (by decide)
theorem k_s22 : (k_W S).set 22 (.inr (0, 5, g)) = k_W (k_u S 22 g) := k_set rfl
theorem k_a23 : z_arr (k_W S) 23 4 = some (4, fun j => if j < 4 then ((24 + 1 * j : Nat) : Int) else -1) := k_arr (by decide) rfl (by decide)
theorem k_a24 : z_arr (k_W S) 24 0 = some (4, S 24) := k_arr (by decide) rfl (by decide)
theorem k_s24 : (k_W S).set 24 (.inr (0, 4, g)) = k_W (k_u S 24 g) := k_set rfl
theorem k_a25 : z_arr (k_W S) 25 0 = some (4, S 25) := k_arr (by decide) rfl (by decide)
theorem k_s25 : (k_W S).set 25 (.inr (0, 4, g)) = k_W (k_u S 25 g) := k_set rfl
theorem k_a26 : z_arr (k_W S) 26 0 = some (4, S 26) := k_arr (by decide) rfl (by decide)
theorem k_s26 : (k_W S).set 26 (.inr (0, 4, g)) = k_W (k_u S 26 g) := k_set rfl
theorem k_a27 : z_arr (k_W S) 27 0 = some (4, S 27) := k_arr (by decide) rfl (by decide)
theorem k_s27 : (k_W S).set 27 (.inr (0, 4, g)) = k_W (k_u S 27 g) := k_set rfl
theorem k_v28 (f : z_Mt) (L : List z_V) : z_vm 4 f (vR 28 :: L) (k_W S) = f (vR 28 :: L) (k_W S) := k_vm (by decide) rfl
theorem k_o28 : z_obj (k_W S) 28 4 = some [vR 29] := k_obj (by decide) rfl
theorem k_a29 : z_arr (k_W S) 29 0 = some (9, S 29) := k_arr (by decide) rfl (by decide)
theorem k_s29 : (k_W S).set 29 (.inr (0, 9, g)) = k_W (k_u S 29 g) := k_set rfl
theorem k_v30 (f : z_Mt) (L : List z_V) : z_vm 2 f (vR 30 :: L) (k_W S) = f (vR 30 :: L) (k_W S) := k_vm (by decide) rfl
theorem k_o30 : z_obj (k_W S) 30 2 = some [vR 31, vI (S 30 0)] := k_obj (by decide) rfl
theorem k_a31 : z_arr (k_W S) 31 4 = some (5, fun j => if j < 5 then ((32 + 1 * j : Nat) : Int) else -1) := k_arr (by decide) rfl (by decide)
theorem k_a32 : z_arr (k_W S) 32 0 = some (5, S 32) := k_arr (by decide) rfl (by decide)
theorem k_s32 : (k_W S).set 32 (.inr (0, 5, g)) = k_W (k_u S 32 g) := k_set rfl
theorem k_a33 : z_arr (k_W S) 33 0 = some (5, S 33) := k_arr (by decide) rfl (by decide)
theorem k_s33 : (k_W S).set 33 (.inr (0, 5, g)) = k_W (k_u S 33 g) := k_set rfl
theorem k_a34 : z_arr (k_W S) 34 0 = some (5, S 34) := k_arr (by decide) rfl (by decide)
theorem k_s34 : (k_W S).set 34 (.inr (0, 5, g)) = k_W (k_u S 34 g) := k_set rfl
theorem k_a35 : z_arr (k_W S) 35 0 = some (5, S 35) := k_arr (by decide) rfl (by decide)
theorem k_s35 : (k_W S).set 35 (.inr (0, 5, g)) = k_W (k_u S 35 g) := k_set rfl
theorem k_a36 : z_arr (k_W S) 36 0 = some (5, S 36) := k_arr (by decide) rfl (by decide)
theorem k_s36 : (k_W S).set 36 (.inr (0, 5, g)) = k_W (k_u S 36 g) := k_set rfl
theorem k_v37 (f : z_Mt) (L : List z_V) : z_vm 2 f (vR 37 :: L) (k_W S) = f (vR 37 :: L) (k_W S) := k_vm (by decide) rfl
theorem k_o37 : z_obj (k_W S) 37 2 = some [vR 38, vI (S 37 0)] := k_obj (by decide) rfl
theorem k_a38 : z_arr (k_W S) 38 4 = some (5, fun j => if j < 5 then ((39 + 1 * j : Nat) : Int) else -1) := k_arr (by decide) rfl (by decide)
theorem k_a39 : z_arr (k_W S) 39 0 = some (5, S 39) := k_arr (by decide) rfl (by decide)
theorem k_s39 : (k_W S).set 39 (.inr (0, 5, g)) = k_W (k_u S 39 g) := k_set rfl
theorem k_a40 : z_arr (k_W S) 40 0 = some (5, S 40) := k_arr (by decide) rfl (by decide)
theorem k_s40 : (k_W S).set 40 (.inr (0, 5, g)) = k_W (k_u S 40 g) := k_set rfl
theorem k_a41 : z_arr (k_W S) 41 0 = some (5, S 41) := k_arr (by decide) rfl (by decide)
theorem k_s41 : (k_W S).set 41 (.inr (0, 5, g)) = k_W (k_u S 41 g) := k_set rfl
theorem k_a42 : z_arr (k_W S) 42 0 = some (5, S 42) := k_arr (by decide) rfl (by decide)
theorem k_s42 : (k_W S).set 42 (.inr (0, 5, g)) = k_W (k_u S 42 g) := k_set rfl
theorem k_a43 : z_arr (k_W S) 43 0 = some (5, S 43) := k_arr (by decide) rfl (by decide)
theorem k_s43 : (k_W S).set 43 (.inr (0, 5, g)) = k_W (k_u S 43 g) := k_set rfl
theorem k_a44 : z_arr (k_W S) 44 0 = some (5, S 44) := k_arr (by decide) rfl (by decide)
theorem k_s44 : (k_W S).set 44 (.inr (0, 5, g)) = k_W (k_u S 44 g) := k_set rfl
theorem k_v45 (f : z_Mt) (L : List z_V) : z_vm 1 f (vR 45 :: L) (k_W S) = f (vR 45 :: L) (k_W S) := k_vm (by decide) rfl
theorem k_o45 : z_obj (k_W S) 45 1 = some [vI (S 45 0), vI (S 45 1)] := k_obj (by decide) rfl
theorem k_v46 (f : z_Mt) (L : List z_V) : z_vm 0 f (vR 46 :: L) (k_W S) = f (vR 46 :: L) (k_W S) := k_vm (by decide) rfl
theorem k_o46 : z_obj (k_W S) 46 0 = some [vR 47, vR 48] := k_obj (by decide) rfl
theorem k_a47 : z_arr (k_W S) 47 0 = some (32, S 47) := k_arr (by decide) rfl (by decide)
theorem k_s47 : (k_W S).set 47 (.inr (0, 32, g)) = k_W (k_u S 47 g) := k_set rfl
theorem k_a48 : z_arr (k_W S) 48 0 = some (32, S 48) := k_arr (by decide) rfl (by decide)
theorem k_s48 : (k_W S).set 48 (.inr (0, 32, g)) = k_W (k_u S 48 g) := k_set rfl
theorem k_v49 (f : z_Mt) (L : List z_V) : z_vm 4 f (vR 49 :: L) (k_W S) = f (vR 49 :: L) (k_W S) := k_vm (by decide) rfl
theorem k_o49 : z_obj (k_W S) 49 4 = some [vR 50] := k_obj (by decide) rfl
theorem k_a50 : z_arr (k_W S) 50 0 = some (9, S 50) := k_arr (by decide) rfl (by decide)
theorem k_s50 : (k_W S).set 50 (.inr (0, 9, g)) = k_W (k_u S 50 g) := k_set rfl
theorem k_v51 (f : z_Mt) (L : List z_V) : z_vm 2 f (vR 51 :: L) (k_W S) = f (vR 51 :: L) (k_W S) := k_vm (by decide) rfl
theorem k_o51 : z_obj (k_W S) 51 2 = some [vR 52, vI (S 51 0)] := k_obj (by decide) rfl
theorem k_a52 : z_arr (k_W S) 52 4 = some (5, fun j => if j < 5 then ((53 + 1 * j : Nat) : Int) else -1) := k_arr (by decide) rfl (by decide)
theorem k_a53 : z_arr (k_W S) 53 0 = some (5, S 53) := k_arr (by decide) rfl (by decide)
theorem k_s53 : (k_W S).set 53 (.inr (0, 5, g)) = k_W (k_u S 53 g) := k_set rfl
theorem k_a54 : z_arr (k_W S) 54 0 = some (5, S 54) := k_arr (by decide) rfl (by decide)
theorem k_s54 : (k_W S).set 54 (.inr (0, 5, g)) = k_W (k_u S 54 g) := k_set rfl
theorem k_a55 : z_arr (k_W S) 55 0 = some (5, S 55) := k_arr (by decide) rfl (by decide)
theorem k_s55 : (k_W S).set 55 (.inr (0, 5, g)) = k_W (k_u S 55 g) := k_set rfl
theorem k_a56 : z_arr (k_W S) 56 0 = some (5, S 56) := k_arr (by decide) rfl (by decide)
theorem k_s56 : (k_W S).set 56 (.inr (0, 5, g)) = k_W (k_u S 56 g) := k_set rfl
theorem k_a57 : z_arr (k_W S) 57 0 = some (5, S 57) := k_arr (by decide) rfl (by decide)
theorem k_s57 : (k_W S).set 57 (.inr (0, 5, g)) = k_W (k_u S 57 g) := k_set rfl
theorem k_v58 (f : z_Mt) (L : List z_V) : z_vm 4 f (vR 58 :: L) (k_W S) = f (vR 58 :: L) (k_W S) := k_vm (by decide) rfl
theorem k_o58 : z_obj (k_W S) 58 4 = some [vR 59] := k_obj (by decide) rfl
theorem k_a59 : z_arr (k_W S) 59 0 = some (9, S 59) := k_arr (by decide) rfl (by decide)
theorem k_s59 : (k_W S).set 59 (.inr (0, 9, g)) = k_W (k_u S 59 g) := k_set rfl
theorem k_v60 (f : z_Mt) (L : List z_V) : z_vm 2 f (vR 60 :: L) (k_W S) = f (vR 60 :: L) (k_W S) := k_vm (by decide) rfl
theorem k_o60 : z_obj (k_W S) 60 2 = some [vR 61, vI (S 60 0)] := k_obj (by decide) rfl
theorem k_a61 : z_arr (k_W S) 61 4 = some (5, fun j => if j < 5 then ((62 + 1 * j : Nat) : Int) else -1) := k_arr (by decide) rfl (by decide)
theorem k_a62 : z_arr (k_W S) 62 0 = some (5, S 62) := k_arr (by decide) rfl (by decide)
theorem k_s62 : (k_W S).set 62 (.inr (0, 5, g)) = k_W (k_u S 62 g) := k_set rfl
theorem k_a63 : z_arr (k_W S) 63 0 = some (5, S 63) := k_arr (by decide) rfl (by decide)
theorem k_s63 : (k_W S).set 63 (.inr (0, 5, g)) = k_W (k_u S 63 g) := k_set rfl
theorem k_a64 : z_arr (k_W S) 64 0 = some (5, S 64) := k_arr (by decide) rfl (by decide)
theorem k_s64 : (k_W S).set 64 (.inr (0, 5, g)) = k_W (k_u S 64 g) := k_set rfl
theorem k_a65 : z_arr (k_W S) 65 0 = some (5, S 65) := k_arr (by decide) rfl (by decide)
theorem k_s65 : (k_W S).set 65 (.inr (0, 5, g)) = k_W (k_u S 65 g) := k_set rfl
theorem k_a66 : z_arr (k_W S) 66 0 = some (5, S 66) := k_arr (by decide) rfl (by decide)
theorem k_s66 : (k_W S).set 66 (.inr (0, 5, g)) = k_W (k_u S 66 g) := k_set rfl
theorem k_v67 (f : z_Mt) (L : List z_V) : z_vm 4 f (vR 67 :: L) (k_W S) = f (vR 67 :: L) (k_W S) := k_vm (by decide) rfl
theorem k_o67 : z_obj (k_W S) 67 4 = some [vR 68] := k_obj (by decide) rfl
theorem k_a68 : z_arr (k_W S) 68 0 = some (9, S 68) := k_arr (by decide) rfl (by decide)
theorem k_s68 : (k_W S).set 68 (.inr (0, 9, g)) = k_W (k_u S 68 g) := k_set rfl
theorem k_v69 (f : z_Mt) (L : List z_V) : z_vm 2 f (vR 69 :: L) (k_W S) = f (vR 69 :: L) (k_W S) := k_vm (by decide) rfl
theorem k_o69 : z_obj (k_W S) 69 2 = some [vR 70, vI (S 69 0)] := k_obj (by decide) rfl
theorem k_a70 : z_arr (k_W S) 70 4 = some (5, fun j => if j < 5 then ((71 + 1 * j : Nat) : Int) else -1) := k_arr (by decide) rfl (by decide)
theorem k_a71 : z_arr (k_W S) 71 0 = some (5, S 71) := k_arr (by decide) rfl (by decide)
theorem k_s71 : (k_W S).set 71 (.inr (0, 5, g)) = k_W (k_u S 71 g) := k_set rfl
theorem k_a72 : z_arr (k_W S) 72 0 = some (5, S 72) := k_arr (by decide) rfl (by decide)
theorem k_s72 : (k_W S).set 72 (.inr (0, 5, g)) = k_W (k_u S 72 g) := k_set rfl
theorem k_a73 : z_arr (k_W S) 73 0 = some (5, S 73) := k_arr (by decide) rfl (by decide)
theorem k_s73 : (k_W S).set 73 (.inr (0, 5, g)) = k_W (k_u S 73 g) := k_set rfl
theorem k_a74 : z_arr (k_W S) 74 0 = some (5, S 74) := k_arr (by decide) rfl (by decide)
theorem k_s74 : (k_W S).set 74 (.inr (0, 5, g)) = k_W (k_u S 74 g) := k_set rfl
theorem k_a75 : z_arr (k_W S) 75 0 = some (5, S 75) := k_arr (by decide) rfl (by decide)
theorem k_s75 : (k_W S).set 75 (.inr (0, 5, g)) = k_W (k_u S 75 g) := k_set rfl
theorem k_v76 (f : z_Mt) (L : List z_V) : z_vm 4 f (vR 76 :: L) (k_W S) = f (vR 76 :: L) (k_W S) := k_vm (by decide) rfl
theorem k_o76 : z_obj (k_W S) 76 4 = some [vR 77] := k_obj (by decide) rfl
theorem k_a77 : z_arr (k_W S) 77 0 = some (9, S 77) := k_arr (by decide) rfl (by decide)
theorem k_s77 : (k_W S).set 77 (.inr (0, 9, g)) = k_W (k_u S 77 g) := k_set rfl
theorem k_v78 (f : z_Mt) (L : List z_V) : z_vm 2 f (vR 78 :: L) (k_W S) = f (vR 78 :: L) (k_W S) := k_vm (by decide) rfl
theorem k_o78 : z_obj (k_W S) 78 2 = some [vR 79, vI (S 78 0)] := k_obj (by decide) rfl
theorem k_a79 : z_arr (k_W S) 79 4 = some (5, fun j => if j < 5 then ((80 + 1 * j : Nat) : Int) else -1) := k_arr (by decide) rfl (by decide)
theorem k_a80 : z_arr (k_W S) 80 0 = some (5, S 80) := k_arr (by decide) rfl (by decide)
theorem k_s80 : (k_W S).set 80 (.inr (0, 5, g)) = k_W (k_u S 80 g) := k_set rfl
theorem k_a81 : z_arr (k_W S) 81 0 = some (5, S 81) := k_arr (by decide) rfl (by decide)
theorem k_s81 : (k_W S).set 81 (.inr (0, 5, g)) = k_W (k_u S 81 g) := k_set rfl
theorem k_a82 : z_arr (k_W S) 82 0 = some (5, S 82) := k_arr (by decide) rfl (by decide)
theorem k_s82 : (k_W S).set 82 (.inr (0, 5, g)) = k_W (k_u S 82 g) := k_set rfl
theorem k_a83 : z_arr (k_W S) 83 0 = some (5, S 83) := k_arr (by decide) rfl (by decide)
theorem k_s83 : (k_W S).set 83 (.inr (0, 5, g)) = k_W (k_u S 83 g) := k_set rfl
theorem k_a84 : z_arr (k_W S) 84 0 = some (5, S 84) := k_arr (by decide) rfl (by decide)
theorem k_s84 : (k_W S).set 84 (.inr (0, 5, g)) = k_W (k_u S 84 g) := k_set rfl
theorem k_v85 (f : z_Mt) (L : List z_V) : z_vm 6 f (vR 85 :: L) (k_W S) = f (vR 85 :: L) (k_W S) := k_vm (by decide) rfl
def k_r : List z_V := [vR 86, vR 87, vI (S 85 0), vR 88, vR 89, vR 90, vR 91, vR 92, vR 93, vR 94, vR 95, vR 96, vR 97, vR 98, vR 99, vR 100, vR 101, vR 102, vI (S 85 1)]
theorem k_o85 : z_obj (k_W S) 85 6 = some (k_r S) := k_obj (by decide) rfl
theorem k_r0 : (k_r S)[0]? = some (vR 86) := rfl
theorem k_r1 : (k_r S)[1]? = some (vR 87) := rfl
theorem k_r2 : (k_r S)[2]? = some (vI (S 85 0)) := rfl
theorem k_r3 : (k_r S)[3]? = some (vR 88) := rfl
theorem k_r4 : (k_r S)[4]? = some (vR 89) := rfl
theorem k_r5 : (k_r S)[5]? = some (vR 90) := rfl
theorem k_r6 : (k_r S)[6]? = some (vR 91) := rfl
theorem k_r7 : (k_r S)[7]? = some (vR 92) := rfl
theorem k_r8 : (k_r S)[8]? = some (vR 93) := rfl
theorem k_r9 : (k_r S)[9]? = some (vR 94) := rfl
theorem k_r10 : (k_r S)[10]? = some (vR 95) := rfl
theorem k_r11 : (k_r S)[11]? = some (vR 96) := rfl
theorem k_r12 : (k_r S)[12]? = some (vR 97) := rfl
theorem k_r13 : (k_r S)[13]? = some (vR 98) := rfl
theorem k_r14 : (k_r S)[14]? = some (vR 99) := rfl
theorem k_r15 : (k_r S)[15]? = some (vR 100) := rfl
theorem k_r16 : (k_r S)[16]? = some (vR 101) := rfl
theorem k_r17 : (k_r S)[17]? = some (vR 102) := rfl
theorem k_r18 : (k_r S)[18]? = some (vI (S 85 1)) := rfl
theorem k_rl : (k_r S).length = 19 := rfl
theorem k_sc (v : Int) : (k_W S).set 85 (.inl (6, (k_r S).set 2 (vI v))) = k_W (k_u S 85 (z_up (S 85) 0 v)) := k_set rfl
theorem k_st (v : Int) : (k_W S).set 85 (.inl (6, (k_r S).set 18 (vI v))) = k_W (k_u S 85 (z_up (S 85) 1 v)) := k_set rfl
theorem k_a86 : z_arr (k_W S) 86 0 = some (36, S 86) := k_arr (by decide) rfl (by decide)
theorem k_s86 : (k_W S).set 86 (.inr (0, 36, g)) = k_W (k_u S 86 g) := k_set rfl
theorem k_a87 : z_arr (k_W S) 87 0 = some (9, S 87) := k_arr (by decide) rfl (by decide)
theorem k_s87 : (k_W S).set 87 (.inr (0, 9, g)) = k_W (k_u S 87 g) := k_set rfl
theorem k_a88 : z_arr (k_W S) 88 0 = some (17, S 88) := k_arr (by decide) rfl (by decide)
theorem k_s88 : (k_W S).set 88 (.inr (0, 17, g)) = k_W (k_u S 88 g) := k_set rfl
theorem k_a89 : z_arr (k_W S) 89 0 = some (4, S 89) := k_arr (by decide) rfl (by decide)
theorem k_s89 : (k_W S).set 89 (.inr (0, 4, g)) = k_W (k_u S 89 g) := k_set rfl
theorem k_a90 : z_arr (k_W S) 90 0 = some (100, S 90) := k_arr (by decide) rfl (by decide)
theorem k_s90 : (k_W S).set 90 (.inr (0, 100, g)) = k_W (k_u S 90 g) := k_set rfl
theorem k_a91 : z_arr (k_W S) 91 0 = some (25, S 91) := k_arr (by decide) rfl (by decide)
theorem k_s91 : (k_W S).set 91 (.inr (0, 25, g)) = k_W (k_u S 91 g) := k_set rfl
theorem k_a92 : z_arr (k_W S) 92 0 = some (25, S 92) := k_arr (by decide) rfl (by decide)
theorem k_s92 : (k_W S).set 92 (.inr (0, 25, g)) = k_W (k_u S 92 g) := k_set rfl
theorem k_a93 : z_arr (k_W S) 93 0 = some (25, S 93) := k_arr (by decide) rfl (by decide)
theorem k_s93 : (k_W S).set 93 (.inr (0, 25, g)) = k_W (k_u S 93 g) := k_set rfl
theorem k_a94 : z_arr (k_W S) 94 0 = some (20, S 94) := k_arr (by decide) rfl (by decide)
theorem k_s94 : (k_W S).set 94 (.inr (0, 20, g)) = k_W (k_u S 94 g) := k_set rfl
theorem k_a95 : z_arr (k_W S) 95 0 = some (5, S 95) := k_arr (by decide) rfl (by decide)
theorem k_s95 : (k_W S).set 95 (.inr (0, 5, g)) = k_W (k_u S 95 g) := k_set rfl
theorem k_a96 : z_arr (k_W S) 96 0 = some (32, S 96) := k_arr (by decide) rfl (by decide)
theorem k_s96 : (k_W S).set 96 (.inr (0, 32, g)) = k_W (k_u S 96 g) := k_set rfl
theorem k_a97 : z_arr (k_W S) 97 0 = some (32, S 97) := k_arr (by decide) rfl (by decide)
theorem k_s97 : (k_W S).set 97 (.inr (0, 32, g)) = k_W (k_u S 97 g) := k_set rfl
theorem k_a98 : z_arr (k_W S) 98 0 = some (25, S 98) := k_arr (by decide) rfl (by decide)
theorem k_s98 : (k_W S).set 98 (.inr (0, 25, g)) = k_W (k_u S 98 g) := k_set rfl
theorem k_a99 : z_arr (k_W S) 99 0 = some (5, S 99) := k_arr (by decide) rfl (by decide)
theorem k_s99 : (k_W S).set 99 (.inr (0, 5, g)) = k_W (k_u S 99 g) := k_set rfl
theorem k_a100 : z_arr (k_W S) 100 0 = some (5, S 100) := k_arr (by decide) rfl (by decide)
theorem k_s100 : (k_W S).set 100 (.inr (0, 5, g)) = k_W (k_u S 100 g) := k_set rfl
theorem k_a101 : z_arr (k_W S) 101 0 = some (5, S 101) := k_arr (by decide) rfl (by decide)
theorem k_s101 : (k_W S).set 101 (.inr (0, 5, g)) = k_W (k_u S 101 g) := k_set rfl
theorem k_a102 : z_arr (k_W S) 102 1 = some (32, S 102) := k_arr (by decide) rfl (by decide)
theorem k_s102 : (k_W S).set 102 (.inr (1, 32, g)) = k_W (k_u S 102 g) := k_set rfl
theorem k_a103 : z_arr (k_W S) 103 1 = some (1, S 103) := k_arr (by decide) rfl (by decide)
theorem k_s103 : (k_W S).set 103 (.inr (1, 1, g)) = k_W (k_u S 103 g) := k_set rfl
theorem k_sm30 (n : Int) : (k_W S).set 30 (.inl (2, [vR 31, vI n])) = k_W (k_u S 30 (z_up (S 30) 0 n)) := k_set rfl
theorem k_sm37 (n : Int) : (k_W S).set 37 (.inl (2, [vR 38, vI n])) = k_W (k_u S 37 (z_up (S 37) 0 n)) := k_set rfl
theorem k_sf (x y : Int) : (k_W S).set 45 (.inl (1, [vI x, vI y])) = k_W (k_u S 45 (z_up (z_up (S 45) 0 x) 1 y)) := k_set rfl
end KW
/-- n rows from a cell on -/
def kF (S : Nat → Nat → Int) (a n : Nat) : Nat → Nat → Int := fun x => if x < n then S (a + x) else fun _ => 0
theorem kF_l {S : Nat → Nat → Int} {a n x : Nat} (h : x < n) : kF S a n x = S (a + x) := by
  unfold kF
  rw [if_pos h]
theorem kF_u {S : Nat → Nat → Int} {a n b : Nat} {f : Nat → Int} (h : b < a ∨ a + n ≤ b) : kF (k_u S b f) a n = kF S a n := by
  funext x
  unfold kF
  split
  · rw [k_u_n (by omega)]
  · rfl
section KF
variable {S : Nat → Nat → Int} {i : Nat}
theorem k_pC (hi : i < 4) (f : Nat → Int) : k_C (49 + 9 * i) f = .inl (4, [vR (50 + 9 * i)]) := by
  rcases i with _ | _ | _ | _ | i <;> first | rfl | omega
theorem k_cC (hi : i < 4) (f : Nat → Int) : k_C (50 + 9 * i) f = .inr (0, 9, f) := by
  rcases i with _ | _ | _ | _ | i <;> first | rfl | omega
theorem k_mC (hi : i < 4) (f : Nat → Int) : k_C (51 + 9 * i) f = .inl (2, [vR (52 + 9 * i), vI (f 0)]) := by
  rcases i with _ | _ | _ | _ | i <;> first | rfl | omega
theorem k_eC (hi : i < 4) (f : Nat → Int) : k_C (52 + 9 * i) f = .inr (4, 5, fun j => if j < 5 then ((53 + 9 * i + 1 * j : Nat) : Int) else -1) := by
  rcases i with _ | _ | _ | _ | i <;> first | rfl | omega
theorem k_rC (hi : i < 4) {j : Nat} (hj : j < 5) (f : Nat → Int) : k_C (53 + 9 * i + j) f = .inr (0, 5, f) := by
  rcases i with _ | _ | _ | _ | i <;> (try omega) <;> (rcases j with _ | _ | _ | _ | _ | j <;> first | rfl | omega)
theorem k_vC (hi : i < 4) (f : Nat → Int) : k_C (4 + i) f = .inr (0, 5, f) := by
  rcases i with _ | _ | _ | _ | i <;> first | rfl | omega
theorem k_po (hi : i < 4) : (k_W S)[49 + 9 * i]? = some (.inl (4, [vR (50 + 9 * i)])) := (k_get (by omega)).trans (congrArg some (k_pC hi _))
theorem k_pc (hi : i < 4) : (k_W S)[50 + 9 * i]? = some (.inr (0, 9, S (50 + 9 * i))) := (k_get (by omega)).trans (congrArg some (k_cC hi _))
theorem k_vc (hi : i < 4) : (k_W S)[4 + i]? = some (.inr (0, 5, S (4 + i))) := (k_get (by omega)).trans (congrArg some (k_vC hi _))
theorem k_mat (hi : i < 4) {n : Nat} (hn : S (51 + 9 * i) 0 = (n : Int)) : mAt (k_W S) (51 + 9 * i) (52 + 9 * i) (53 + 9 * i) n (kF S (53 + 9 * i) 5) := by
  refine ⟨?_, ⟨_, (k_get (by omega)).trans (congrArg some (k_eC hi _)), fun x hx => by simp [hx]⟩, fun x hx => ?_⟩
  · rw [k_get (by omega), k_mC hi, hn]
  · rw [k_get (by omega), k_rC hi hx, kF_l hx]
theorem k_mat30 {n : Nat} (hn : S 30 0 = (n : Int)) : mAt (k_W S) 30 31 32 n (kF S 32 5) := by
  refine ⟨?_, ⟨_, k_get (by omega), fun x hx => by simp [hx]⟩, fun x hx => ?_⟩
  · rw [k_get (by omega), ← hn]; rfl
  · rw [kF_l hx]
    rcases x with _ | _ | _ | _ | _ | x <;> first | exact k_get (by omega) | omega
theorem k_mat37 {n : Nat} (hn : S 37 0 = (n : Int)) : mAt (k_W S) 37 38 39 n (kF S 39 5) := by
  refine ⟨?_, ⟨_, k_get (by omega), fun x hx => by simp [hx]⟩, fun x hx => ?_⟩
  · rw [k_get (by omega), ← hn]; rfl
  · rw [kF_l hx]
    rcases x with _ | _ | _ | _ | _ | x <;> first | exact k_get (by omega) | omega
theorem k_net : nAt (k_W S) (kF S 10 5) (S 15) (S 16) (kF S 18 5) (kF S 24 4) := by
  refine ⟨k_get (by omega), ⟨⟨_, k_get (by omega), fun x hx => by simp [hx]⟩, fun x hx => ?_⟩, k_get (by omega), k_get (by omega), ⟨⟨_, k_get (by omega), fun x hx => by simp [hx]⟩, fun x hx => ?_⟩, ⟨⟨_, k_get (by omega), fun x hx => by simp [hx]⟩, fun x hx => ?_⟩⟩
  · rw [kF_l hx]
    rcases x with _ | _ | _ | _ | _ | x <;> first | exact k_get (by omega) | omega
  · rw [kF_l hx]
    rcases x with _ | _ | _ | _ | _ | x <;> first | exact k_get (by omega) | omega
  · rw [kF_l hx]
    rcases x with _ | _ | _ | _ | x <;> first | exact k_get (by omega) | omega
end KF
/-- the first k by f, the others by g -/
def z_to (k : Nat) (f g : Nat → Int) : Nat → Int := fun i => if i < k then f i else g i
theorem z_to_0 (f g : Nat → Int) : z_to 0 f g = g := by funext i; simp [z_to]
theorem z_to_s (k : Nat) (f g : Nat → Int) : z_up (z_to k f g) k (f k) = z_to (k + 1) f g := by
  funext i
  unfold z_up z_to
  by_cases h : i = k
  · subst h; simp
  · by_cases h2 : i < k
    · simp [h, h2, show i < k + 1 by omega]
    · simp [h, h2, show ¬ i < k + 1 by omega]
theorem z_to_lt {k i : Nat} {f g : Nat → Int} (h : i < k) : z_to k f g i = f i := by simp [z_to, h]
theorem z_to_ge {k i : Nat} {f g : Nat → Int} (h : ¬ i < k) : z_to k f g i = g i := by simp [z_to, h]
