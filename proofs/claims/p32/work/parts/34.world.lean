/-! THE WHOLE WORLD: printed by wip/whole/gen/world.py: cell a is made of S a -/
def k_tab : List ((Nat → Int) → z_Cl) := [
  fun _ => .inl (5, [vR 1, vR 2, vR 3, vR 8, vR 28, vR 30, vR 37, vR 44, vR 45, vR 46]),
  fun _ => .inr (3, 4, fun j => if j < 4 then ((49 + 9 * j : Nat) : Int) else -1),
  fun _ => .inr (2, 4, fun j => if j < 4 then ((51 + 9 * j : Nat) : Int) else -1),
  fun _ => .inr (4, 4, fun j => if j < 4 then ((4 + 1 * j : Nat) : Int) else -1),
  fun f => .inr (0, 5, f),
  fun f => .inr (0, 5, f),
  fun f => .inr (0, 5, f),
  fun f => .inr (0, 5, f),
  fun _ => .inl (3, [vR 9, vR 15, vR 16, vR 17, vR 23]),
  fun _ => .inr (4, 5, fun j => if j < 5 then ((10 + 1 * j : Nat) : Int) else -1),
  fun f => .inr (0, 5, f),
  fun f => .inr (0, 5, f),
  fun f => .inr (0, 5, f),
  fun f => .inr (0, 5, f),
  fun f => .inr (0, 5, f),
  fun f => .inr (0, 5, f),
  fun f => .inr (0, 5, f),
  fun _ => .inr (4, 5, fun j => if j < 5 then ((18 + 1 * j : Nat) : Int) else -1),
  fun f => .inr (0, 5, f),
  fun f => .inr (0, 5, f),
  fun f => .inr (0, 5, f),
  fun f => .inr (0, 5, f),
  fun f => .inr (0, 5, f),
  fun _ => .inr (4, 4, fun j => if j < 4 then ((24 + 1 * j : Nat) : Int) else -1),
  fun f => .inr (0, 4, f),
  fun f => .inr (0, 4, f),
  fun f => .inr (0, 4, f),
  fun f => .inr (0, 4, f),
  fun _ => .inl (4, [vR 29]),
  fun f => .inr (0, 9, f),
  fun f => .inl (2, [vR 31, vI (f 0)]),
  fun _ => .inr (4, 5, fun j => if j < 5 then ((32 + 1 * j : Nat) : Int) else -1),
  fun f => .inr (0, 5, f),
  fun f => .inr (0, 5, f),
  fun f => .inr (0, 5, f),
  fun f => .inr (0, 5, f),
  fun f => .inr (0, 5, f),
  fun f => .inl (2, [vR 38, vI (f 0)]),
  fun _ => .inr (4, 5, fun j => if j < 5 then ((39 + 1 * j : Nat) : Int) else -1),
  fun f => .inr (0, 5, f),
  fun f => .inr (0, 5, f),
  fun f => .inr (0, 5, f),
  fun f => .inr (0, 5, f),
  fun f => .inr (0, 5, f),
  fun f => .inr (0, 5, f),
  fun f => .inl (1, [vI (f 0), vI (f 1)]),
  fun _ => .inl (0, [vR 47, vR 48]),
  fun f => .inr (0, 32, f),
  fun f => .inr (0, 32, f),
  fun _ => .inl (4, [vR 50]),
  fun f => .inr (0, 9, f),
  fun f => .inl (2, [vR 52, vI (f 0)]),
  fun _ => .inr (4, 5, fun j => if j < 5 then ((53 + 1 * j : Nat) : Int) else -1),
  fun f => .inr (0, 5, f),
  fun f => .inr (0, 5, f),
  fun f => .inr (0, 5, f),
  fun f => .inr (0, 5, f),
  fun f => .inr (0, 5, f),
  fun _ => .inl (4, [vR 59]),
  fun f => .inr (0, 9, f),
  fun f => .inl (2, [vR 61, vI (f 0)]),
  fun _ => .inr (4, 5, fun j => if j < 5 then ((62 + 1 * j : Nat) : Int) else -1),
  fun f => .inr (0, 5, f),
  fun f => .inr (0, 5, f),
  fun f => .inr (0, 5, f),
  fun f => .inr (0, 5, f),
  fun f => .inr (0, 5, f),
  fun _ => .inl (4, [vR 68]),
  fun f => .inr (0, 9, f),
  fun f => .inl (2, [vR 70, vI (f 0)]),
  fun _ => .inr (4, 5, fun j => if j < 5 then ((71 + 1 * j : Nat) : Int) else -1),
  fun f => .inr (0, 5, f),
  fun f => .inr (0, 5, f),
  fun f => .inr (0, 5, f),
  fun f => .inr (0, 5, f),
  fun f => .inr (0, 5, f),
  fun _ => .inl (4, [vR 77]),
  fun f => .inr (0, 9, f),
  fun f => .inl (2, [vR 79, vI (f 0)]),
  fun _ => .inr (4, 5, fun j => if j < 5 then ((80 + 1 * j : Nat) : Int) else -1),
  fun f => .inr (0, 5, f),
  fun f => .inr (0, 5, f),
  fun f => .inr (0, 5, f),
  fun f => .inr (0, 5, f),
  fun f => .inr (0, 5, f)]
def k_C (a : Nat) (f : Nat → Int) : z_Cl := match k_tab[a]? with
  | some c => c f
  | none => .inl (0, [])
def k_W (X : z_Hp) (S : Nat → Nat → Int) : z_Hp := ((List.range 85).map fun a => k_C a (S a)) ++ X
def k_u (S : Nat → Nat → Int) (a : Nat) (f : Nat → Int) : Nat → Nat → Int := fun x => if x = a then f else S x
theorem k_u_s (S : Nat → Nat → Int) (a : Nat) (f : Nat → Int) : k_u S a f a = f := by simp [k_u]
theorem k_u_n {S : Nat → Nat → Int} {a : Nat} {f : Nat → Int} {b : Nat} (h : b ≠ a) : k_u S a f b = S b := by simp [k_u, h]
theorem k_u_u (S : Nat → Nat → Int) (a : Nat) (f g : Nat → Int) : k_u (k_u S a f) a g = k_u S a g := by
  funext x
  unfold k_u
  split <;> simp [*]
theorem k_u_id (S : Nat → Nat → Int) (a : Nat) : k_u S a (S a) = S := by
  funext x
  unfold k_u
  split
  · next h => rw [h]
  · rfl
theorem k_u_c {S : Nat → Nat → Int} {a b : Nat} {f g : Nat → Int} (h : a ≠ b) : k_u (k_u S a f) b g = k_u (k_u S b g) a f := by
  funext x
  unfold k_u
  by_cases h1 : x = b
  · subst h1
    simp [Ne.symm h]
  · simp [h1]
theorem k_get {X : z_Hp} {S : Nat → Nat → Int} {a : Nat} (ha : a < 85) : (k_W X S)[a]? = some (k_C a (S a)) := by
  unfold k_W
  rw [List.getElem?_append_left (by simpa using ha)]
  simp [List.getElem?_map, List.getElem?_range ha]
theorem k_hi {X : z_Hp} {S : Nat → Nat → Int} {a : Nat} (ha : 85 ≤ a) : (k_W X S)[a]? = X[a - 85]? := by
  unfold k_W
  rw [List.getElem?_append_right (by simpa using ha)]
  simp
theorem k_len (X : z_Hp) (S : Nat → Nat → Int) : (k_W X S).length = 85 + X.length := by simp [k_W]
theorem k_set {X : z_Hp} {S : Nat → Nat → Int} {a : Nat} {g : Nat → Int} {y : z_Cl} (h : y = k_C a g) (ha : a < 85 := by omega) : (k_W X S).set a y = k_W X (k_u S a g) := by
  subst h
  apply List.ext_getElem?
  intro j
  rw [List.getElem?_set]
  by_cases hj : a = j
  · subst hj
    rw [if_pos rfl, if_pos (by rw [k_len]; omega), k_get ha, k_u_s]
  · rw [if_neg hj]
    by_cases hk : j < 85
    · rw [k_get hk, k_get hk, k_u_n (fun e => hj e.symm)]
    · rw [k_hi (by omega), k_hi (by omega)]
/-- a world whose cells are so -/
theorem k_ext {X : z_Hp} {S T : Nat → Nat → Int} {h : z_Hp} (hc : ∀ a, a < 85 → h[a]? = some (k_C a (S a))) (hx : ∀ a, 85 ≤ a → h[a]? = (k_W X T)[a]?) : h = k_W X S := by
  apply List.ext_getElem?
  intro j
  by_cases hj : j < 85
  · rw [hc j hj, k_get hj]
  · rw [hx j (by omega), k_hi (by omega), k_hi (by omega)]
/-- what lies behind is there -/
theorem k_setX {X : z_Hp} {S : Nat → Nat → Int} {i : Nat} {y : z_Cl} : (k_W X S).set (85 + i) y = k_W (X.set i y) S := by
  unfold k_W
  rw [List.set_append_right _ _ (by simp)]
  simp
theorem k_arr {X : z_Hp} {S : Nat → Nat → Int} {a t n : Nat} {f : Nat → Int} (ha : a < 85) (h : k_C a (S a) = .inr (t, n, f)) (hn : n < 2147483648) : z_arr (k_W X S) a t = some (n, f) := q_arr ((k_get ha).trans (congrArg some h)) hn
theorem k_obj {X : z_Hp} {S : Nat → Nat → Int} {a ci : Nat} {fs : List z_V} (ha : a < 85) (h : k_C a (S a) = .inl (ci, fs)) : z_obj (k_W X S) a ci = some fs := q_obj ((k_get ha).trans (congrArg some h))
theorem k_vm {X : z_Hp} {S : Nat → Nat → Int} {ci : Nat} {f : z_Mt} {r : Nat} {L : List z_V} {fs : List z_V} (hr : r < 85) (h : k_C r (S r) = .inl (ci, fs)) : z_vm ci f (vR r :: L) (k_W X S) = f (vR r :: L) (k_W X S) := q_vm ((k_get hr).trans (congrArg some h))
section KW
variable {X : z_Hp} (S : Nat → Nat → Int) (g : Nat → Int)
theorem k_v0 (f : z_Mt) (L : List z_V) : z_vm 5 f (vR 0 :: L) (k_W X S) = f (vR 0 :: L) (k_W X S) := k_vm (by decide) rfl
theorem k_o0 : z_obj (k_W X S) 0 5 = some [vR 1, vR 2, vR 3, vR 8, vR 28, vR 30, vR 37, vR 44, vR 45, vR 46] := k_obj (by decide) rfl
theorem k_a1 : z_arr (k_W X S) 1 3 = some (4, fun j => if j < 4 then ((49 + 9 * j : Nat) : Int) else -1) := k_arr (by decide) rfl (by decide)
theorem k_a2 : z_arr (k_W X S) 2 2 = some (4, fun j => if j < 4 then ((51 + 9 * j : Nat) : Int) else -1) := k_arr (by decide) rfl (by decide)
theorem k_a3 : z_arr (k_W X S) 3 4 = some (4, fun j => if j < 4 then ((4 + 1 * j : Nat) : Int) else -1) := k_arr (by decide) rfl (by decide)
theorem k_a4 : z_arr (k_W X S) 4 0 = some (5, S 4) := k_arr (by decide) rfl (by decide)
theorem k_s4 : (k_W X S).set 4 (.inr (0, 5, g)) = k_W X (k_u S 4 g) := k_set rfl
theorem k_a5 : z_arr (k_W X S) 5 0 = some (5, S 5) := k_arr (by decide) rfl (by decide)
theorem k_s5 : (k_W X S).set 5 (.inr (0, 5, g)) = k_W X (k_u S 5 g) := k_set rfl
theorem k_a6 : z_arr (k_W X S) 6 0 = some (5, S 6) := k_arr (by decide) rfl (by decide)
theorem k_s6 : (k_W X S).set 6 (.inr (0, 5, g)) = k_W X (k_u S 6 g) := k_set rfl
theorem k_a7 : z_arr (k_W X S) 7 0 = some (5, S 7) := k_arr (by decide) rfl (by decide)
theorem k_s7 : (k_W X S).set 7 (.inr (0, 5, g)) = k_W X (k_u S 7 g) := k_set rfl
theorem k_v8 (f : z_Mt) (L : List z_V) : z_vm 3 f (vR 8 :: L) (k_W X S) = f (vR 8 :: L) (k_W X S) := k_vm (by decide) rfl
theorem k_o8 : z_obj (k_W X S) 8 3 = some [vR 9, vR 15, vR 16, vR 17, vR 23] := k_obj (by decide) rfl
theorem k_a9 : z_arr (k_W X S) 9 4 = some (5, fun j => if j < 5 then ((10 + 1 * j : Nat) : Int) else -1) := k_arr (by decide) rfl (by decide)
theorem k_a10 : z_arr (k_W X S) 10 0 = some (5, S 10) := k_arr (by decide) rfl (by decide)
theorem k_s10 : (k_W X S).set 10 (.inr (0, 5, g)) = k_W X (k_u S 10 g) := k_set rfl
theorem k_a11 : z_arr (k_W X S) 11 0 = some (5, S 11) := k_arr (by decide) rfl (by decide)
theorem k_s11 : (k_W X S).set 11 (.inr (0, 5, g)) = k_W X (k_u S 11 g) := k_set rfl
theorem k_a12 : z_arr (k_W X S) 12 0 = some (5, S 12) := k_arr (by decide) rfl (by decide)
theorem k_s12 : (k_W X S).set 12 (.inr (0, 5, g)) = k_W X (k_u S 12 g) := k_set rfl
theorem k_a13 : z_arr (k_W X S) 13 0 = some (5, S 13) := k_arr (by decide) rfl (by decide)
theorem k_s13 : (k_W X S).set 13 (.inr (0, 5, g)) = k_W X (k_u S 13 g) := k_set rfl
theorem k_a14 : z_arr (k_W X S) 14 0 = some (5, S 14) := k_arr (by decide) rfl (by decide)
theorem k_s14 : (k_W X S).set 14 (.inr (0, 5, g)) = k_W X (k_u S 14 g) := k_set rfl
theorem k_a15 : z_arr (k_W X S) 15 0 = some (5, S 15) := k_arr (by decide) rfl (by decide)
theorem k_s15 : (k_W X S).set 15 (.inr (0, 5, g)) = k_W X (k_u S 15 g) := k_set rfl
theorem k_a16 : z_arr (k_W X S) 16 0 = some (5, S 16) := k_arr (by decide) rfl (by decide)
theorem k_s16 : (k_W X S).set 16 (.inr (0, 5, g)) = k_W X (k_u S 16 g) := k_set rfl
theorem k_a17 : z_arr (k_W X S) 17 4 = some (5, fun j => if j < 5 then ((18 + 1 * j : Nat) : Int) else -1) := k_arr (by decide) rfl (by decide)
theorem k_a18 : z_arr (k_W X S) 18 0 = some (5, S 18) := k_arr (by decide) rfl (by decide)
theorem k_s18 : (k_W X S).set 18 (.inr (0, 5, g)) = k_W X (k_u S 18 g) := k_set rfl
theorem k_a19 : z_arr (k_W X S) 19 0 = some (5, S 19) := k_arr (by decide) rfl (by decide)
theorem k_s19 : (k_W X S).set 19 (.inr (0, 5, g)) = k_W X (k_u S 19 g) := k_set rfl
theorem k_a20 : z_arr (k_W X S) 20 0 = some (5, S 20) := k_arr (by decide) rfl (by decide)
theorem k_s20 : (k_W X S).set 20 (.inr (0, 5, g)) = k_W X (k_u S 20 g) := k_set rfl
theorem k_a21 : z_arr (k_W X S) 21 0 = some (5, S 21) := k_arr (by decide) rfl (by decide)
theorem k_s21 : (k_W X S).set 21 (.inr (0, 5, g)) = k_W X (k_u S 21 g) := k_set rfl
theorem k_a22 : z_arr (k_W X S) 22 0 = some (5, S 22) := k_arr (by decide) rfl (by decide)
theorem k_s22 : (k_W X S).set 22 (.inr (0, 5, g)) = k_W X (k_u S 22 g) := k_set rfl
theorem k_a23 : z_arr (k_W X S) 23 4 = some (4, fun j => if j < 4 then ((24 + 1 * j : Nat) : Int) else -1) := k_arr (by decide) rfl (by decide)
theorem k_a24 : z_arr (k_W X S) 24 0 = some (4, S 24) := k_arr (by decide) rfl (by decide)
theorem k_s24 : (k_W X S).set 24 (.inr (0, 4, g)) = k_W X (k_u S 24 g) := k_set rfl
theorem k_a25 : z_arr (k_W X S) 25 0 = some (4, S 25) := k_arr (by decide) rfl (by decide)
theorem k_s25 : (k_W X S).set 25 (.inr (0, 4, g)) = k_W X (k_u S 25 g) := k_set rfl
theorem k_a26 : z_arr (k_W X S) 26 0 = some (4, S 26) := k_arr (by decide) rfl (by decide)
theorem k_s26 : (k_W X S).set 26 (.inr (0, 4, g)) = k_W X (k_u S 26 g) := k_set rfl
theorem k_a27 : z_arr (k_W X S) 27 0 = some (4, S 27) := k_arr (by decide) rfl (by decide)
theorem k_s27 : (k_W X S).set 27 (.inr (0, 4, g)) = k_W X (k_u S 27 g) := k_set rfl
theorem k_v28 (f : z_Mt) (L : List z_V) : z_vm 4 f (vR 28 :: L) (k_W X S) = f (vR 28 :: L) (k_W X S) := k_vm (by decide) rfl
theorem k_o28 : z_obj (k_W X S) 28 4 = some [vR 29] := k_obj (by decide) rfl
theorem k_a29 : z_arr (k_W X S) 29 0 = some (9, S 29) := k_arr (by decide) rfl (by decide)
theorem k_s29 : (k_W X S).set 29 (.inr (0, 9, g)) = k_W X (k_u S 29 g) := k_set rfl
theorem k_v30 (f : z_Mt) (L : List z_V) : z_vm 2 f (vR 30 :: L) (k_W X S) = f (vR 30 :: L) (k_W X S) := k_vm (by decide) rfl
theorem k_o30 : z_obj (k_W X S) 30 2 = some [vR 31, vI (S 30 0)] := k_obj (by decide) rfl
theorem k_a31 : z_arr (k_W X S) 31 4 = some (5, fun j => if j < 5 then ((32 + 1 * j : Nat) : Int) else -1) := k_arr (by decide) rfl (by decide)
theorem k_a32 : z_arr (k_W X S) 32 0 = some (5, S 32) := k_arr (by decide) rfl (by decide)
theorem k_s32 : (k_W X S).set 32 (.inr (0, 5, g)) = k_W X (k_u S 32 g) := k_set rfl
theorem k_a33 : z_arr (k_W X S) 33 0 = some (5, S 33) := k_arr (by decide) rfl (by decide)
theorem k_s33 : (k_W X S).set 33 (.inr (0, 5, g)) = k_W X (k_u S 33 g) := k_set rfl
theorem k_a34 : z_arr (k_W X S) 34 0 = some (5, S 34) := k_arr (by decide) rfl (by decide)
theorem k_s34 : (k_W X S).set 34 (.inr (0, 5, g)) = k_W X (k_u S 34 g) := k_set rfl
theorem k_a35 : z_arr (k_W X S) 35 0 = some (5, S 35) := k_arr (by decide) rfl (by decide)
theorem k_s35 : (k_W X S).set 35 (.inr (0, 5, g)) = k_W X (k_u S 35 g) := k_set rfl
theorem k_a36 : z_arr (k_W X S) 36 0 = some (5, S 36) := k_arr (by decide) rfl (by decide)
theorem k_s36 : (k_W X S).set 36 (.inr (0, 5, g)) = k_W X (k_u S 36 g) := k_set rfl
theorem k_v37 (f : z_Mt) (L : List z_V) : z_vm 2 f (vR 37 :: L) (k_W X S) = f (vR 37 :: L) (k_W X S) := k_vm (by decide) rfl
theorem k_o37 : z_obj (k_W X S) 37 2 = some [vR 38, vI (S 37 0)] := k_obj (by decide) rfl
theorem k_a38 : z_arr (k_W X S) 38 4 = some (5, fun j => if j < 5 then ((39 + 1 * j : Nat) : Int) else -1) := k_arr (by decide) rfl (by decide)
theorem k_a39 : z_arr (k_W X S) 39 0 = some (5, S 39) := k_arr (by decide) rfl (by decide)
theorem k_s39 : (k_W X S).set 39 (.inr (0, 5, g)) = k_W X (k_u S 39 g) := k_set rfl
theorem k_a40 : z_arr (k_W X S) 40 0 = some (5, S 40) := k_arr (by decide) rfl (by decide)
theorem k_s40 : (k_W X S).set 40 (.inr (0, 5, g)) = k_W X (k_u S 40 g) := k_set rfl
theorem k_a41 : z_arr (k_W X S) 41 0 = some (5, S 41) := k_arr (by decide) rfl (by decide)
theorem k_s41 : (k_W X S).set 41 (.inr (0, 5, g)) = k_W X (k_u S 41 g) := k_set rfl
theorem k_a42 : z_arr (k_W X S) 42 0 = some (5, S 42) := k_arr (by decide) rfl (by decide)
theorem k_s42 : (k_W X S).set 42 (.inr (0, 5, g)) = k_W X (k_u S 42 g) := k_set rfl
theorem k_a43 : z_arr (k_W X S) 43 0 = some (5, S 43) := k_arr (by decide) rfl (by decide)
theorem k_s43 : (k_W X S).set 43 (.inr (0, 5, g)) = k_W X (k_u S 43 g) := k_set rfl
theorem k_a44 : z_arr (k_W X S) 44 0 = some (5, S 44) := k_arr (by decide) rfl (by decide)
theorem k_s44 : (k_W X S).set 44 (.inr (0, 5, g)) = k_W X (k_u S 44 g) := k_set rfl
theorem k_v45 (f : z_Mt) (L : List z_V) : z_vm 1 f (vR 45 :: L) (k_W X S) = f (vR 45 :: L) (k_W X S) := k_vm (by decide) rfl
theorem k_o45 : z_obj (k_W X S) 45 1 = some [vI (S 45 0), vI (S 45 1)] := k_obj (by decide) rfl
theorem k_v46 (f : z_Mt) (L : List z_V) : z_vm 0 f (vR 46 :: L) (k_W X S) = f (vR 46 :: L) (k_W X S) := k_vm (by decide) rfl
theorem k_o46 : z_obj (k_W X S) 46 0 = some [vR 47, vR 48] := k_obj (by decide) rfl
theorem k_a47 : z_arr (k_W X S) 47 0 = some (32, S 47) := k_arr (by decide) rfl (by decide)
theorem k_s47 : (k_W X S).set 47 (.inr (0, 32, g)) = k_W X (k_u S 47 g) := k_set rfl
theorem k_a48 : z_arr (k_W X S) 48 0 = some (32, S 48) := k_arr (by decide) rfl (by decide)
theorem k_s48 : (k_W X S).set 48 (.inr (0, 32, g)) = k_W X (k_u S 48 g) := k_set rfl
theorem k_v49 (f : z_Mt) (L : List z_V) : z_vm 4 f (vR 49 :: L) (k_W X S) = f (vR 49 :: L) (k_W X S) := k_vm (by decide) rfl
theorem k_o49 : z_obj (k_W X S) 49 4 = some [vR 50] := k_obj (by decide) rfl
theorem k_a50 : z_arr (k_W X S) 50 0 = some (9, S 50) := k_arr (by decide) rfl (by decide)
theorem k_s50 : (k_W X S).set 50 (.inr (0, 9, g)) = k_W X (k_u S 50 g) := k_set rfl
theorem k_v51 (f : z_Mt) (L : List z_V) : z_vm 2 f (vR 51 :: L) (k_W X S) = f (vR 51 :: L) (k_W X S) := k_vm (by decide) rfl
theorem k_o51 : z_obj (k_W X S) 51 2 = some [vR 52, vI (S 51 0)] := k_obj (by decide) rfl
theorem k_a52 : z_arr (k_W X S) 52 4 = some (5, fun j => if j < 5 then ((53 + 1 * j : Nat) : Int) else -1) := k_arr (by decide) rfl (by decide)
theorem k_a53 : z_arr (k_W X S) 53 0 = some (5, S 53) := k_arr (by decide) rfl (by decide)
theorem k_s53 : (k_W X S).set 53 (.inr (0, 5, g)) = k_W X (k_u S 53 g) := k_set rfl
theorem k_a54 : z_arr (k_W X S) 54 0 = some (5, S 54) := k_arr (by decide) rfl (by decide)
theorem k_s54 : (k_W X S).set 54 (.inr (0, 5, g)) = k_W X (k_u S 54 g) := k_set rfl
theorem k_a55 : z_arr (k_W X S) 55 0 = some (5, S 55) := k_arr (by decide) rfl (by decide)
theorem k_s55 : (k_W X S).set 55 (.inr (0, 5, g)) = k_W X (k_u S 55 g) := k_set rfl
theorem k_a56 : z_arr (k_W X S) 56 0 = some (5, S 56) := k_arr (by decide) rfl (by decide)
theorem k_s56 : (k_W X S).set 56 (.inr (0, 5, g)) = k_W X (k_u S 56 g) := k_set rfl
theorem k_a57 : z_arr (k_W X S) 57 0 = some (5, S 57) := k_arr (by decide) rfl (by decide)
theorem k_s57 : (k_W X S).set 57 (.inr (0, 5, g)) = k_W X (k_u S 57 g) := k_set rfl
theorem k_v58 (f : z_Mt) (L : List z_V) : z_vm 4 f (vR 58 :: L) (k_W X S) = f (vR 58 :: L) (k_W X S) := k_vm (by decide) rfl
theorem k_o58 : z_obj (k_W X S) 58 4 = some [vR 59] := k_obj (by decide) rfl
theorem k_a59 : z_arr (k_W X S) 59 0 = some (9, S 59) := k_arr (by decide) rfl (by decide)
theorem k_s59 : (k_W X S).set 59 (.inr (0, 9, g)) = k_W X (k_u S 59 g) := k_set rfl
theorem k_v60 (f : z_Mt) (L : List z_V) : z_vm 2 f (vR 60 :: L) (k_W X S) = f (vR 60 :: L) (k_W X S) := k_vm (by decide) rfl
theorem k_o60 : z_obj (k_W X S) 60 2 = some [vR 61, vI (S 60 0)] := k_obj (by decide) rfl
theorem k_a61 : z_arr (k_W X S) 61 4 = some (5, fun j => if j < 5 then ((62 + 1 * j : Nat) : Int) else -1) := k_arr (by decide) rfl (by decide)
theorem k_a62 : z_arr (k_W X S) 62 0 = some (5, S 62) := k_arr (by decide) rfl (by decide)
theorem k_s62 : (k_W X S).set 62 (.inr (0, 5, g)) = k_W X (k_u S 62 g) := k_set rfl
theorem k_a63 : z_arr (k_W X S) 63 0 = some (5, S 63) := k_arr (by decide) rfl (by decide)
theorem k_s63 : (k_W X S).set 63 (.inr (0, 5, g)) = k_W X (k_u S 63 g) := k_set rfl
theorem k_a64 : z_arr (k_W X S) 64 0 = some (5, S 64) := k_arr (by decide) rfl (by decide)
theorem k_s64 : (k_W X S).set 64 (.inr (0, 5, g)) = k_W X (k_u S 64 g) := k_set rfl
theorem k_a65 : z_arr (k_W X S) 65 0 = some (5, S 65) := k_arr (by decide) rfl (by decide)
theorem k_s65 : (k_W X S).set 65 (.inr (0, 5, g)) = k_W X (k_u S 65 g) := k_set rfl
theorem k_a66 : z_arr (k_W X S) 66 0 = some (5, S 66) := k_arr (by decide) rfl (by decide)
theorem k_s66 : (k_W X S).set 66 (.inr (0, 5, g)) = k_W X (k_u S 66 g) := k_set rfl
theorem k_v67 (f : z_Mt) (L : List z_V) : z_vm 4 f (vR 67 :: L) (k_W X S) = f (vR 67 :: L) (k_W X S) := k_vm (by decide) rfl
theorem k_o67 : z_obj (k_W X S) 67 4 = some [vR 68] := k_obj (by decide) rfl
theorem k_a68 : z_arr (k_W X S) 68 0 = some (9, S 68) := k_arr (by decide) rfl (by decide)
theorem k_s68 : (k_W X S).set 68 (.inr (0, 9, g)) = k_W X (k_u S 68 g) := k_set rfl
theorem k_v69 (f : z_Mt) (L : List z_V) : z_vm 2 f (vR 69 :: L) (k_W X S) = f (vR 69 :: L) (k_W X S) := k_vm (by decide) rfl
theorem k_o69 : z_obj (k_W X S) 69 2 = some [vR 70, vI (S 69 0)] := k_obj (by decide) rfl
theorem k_a70 : z_arr (k_W X S) 70 4 = some (5, fun j => if j < 5 then ((71 + 1 * j : Nat) : Int) else -1) := k_arr (by decide) rfl (by decide)
theorem k_a71 : z_arr (k_W X S) 71 0 = some (5, S 71) := k_arr (by decide) rfl (by decide)
theorem k_s71 : (k_W X S).set 71 (.inr (0, 5, g)) = k_W X (k_u S 71 g) := k_set rfl
theorem k_a72 : z_arr (k_W X S) 72 0 = some (5, S 72) := k_arr (by decide) rfl (by decide)
theorem k_s72 : (k_W X S).set 72 (.inr (0, 5, g)) = k_W X (k_u S 72 g) := k_set rfl
theorem k_a73 : z_arr (k_W X S) 73 0 = some (5, S 73) := k_arr (by decide) rfl (by decide)
theorem k_s73 : (k_W X S).set 73 (.inr (0, 5, g)) = k_W X (k_u S 73 g) := k_set rfl
theorem k_a74 : z_arr (k_W X S) 74 0 = some (5, S 74) := k_arr (by decide) rfl (by decide)
theorem k_s74 : (k_W X S).set 74 (.inr (0, 5, g)) = k_W X (k_u S 74 g) := k_set rfl
theorem k_a75 : z_arr (k_W X S) 75 0 = some (5, S 75) := k_arr (by decide) rfl (by decide)
theorem k_s75 : (k_W X S).set 75 (.inr (0, 5, g)) = k_W X (k_u S 75 g) := k_set rfl
theorem k_v76 (f : z_Mt) (L : List z_V) : z_vm 4 f (vR 76 :: L) (k_W X S) = f (vR 76 :: L) (k_W X S) := k_vm (by decide) rfl
theorem k_o76 : z_obj (k_W X S) 76 4 = some [vR 77] := k_obj (by decide) rfl
theorem k_a77 : z_arr (k_W X S) 77 0 = some (9, S 77) := k_arr (by decide) rfl (by decide)
theorem k_s77 : (k_W X S).set 77 (.inr (0, 9, g)) = k_W X (k_u S 77 g) := k_set rfl
theorem k_v78 (f : z_Mt) (L : List z_V) : z_vm 2 f (vR 78 :: L) (k_W X S) = f (vR 78 :: L) (k_W X S) := k_vm (by decide) rfl
theorem k_o78 : z_obj (k_W X S) 78 2 = some [vR 79, vI (S 78 0)] := k_obj (by decide) rfl
theorem k_a79 : z_arr (k_W X S) 79 4 = some (5, fun j => if j < 5 then ((80 + 1 * j : Nat) : Int) else -1) := k_arr (by decide) rfl (by decide)
theorem k_a80 : z_arr (k_W X S) 80 0 = some (5, S 80) := k_arr (by decide) rfl (by decide)
theorem k_s80 : (k_W X S).set 80 (.inr (0, 5, g)) = k_W X (k_u S 80 g) := k_set rfl
theorem k_a81 : z_arr (k_W X S) 81 0 = some (5, S 81) := k_arr (by decide) rfl (by decide)
theorem k_s81 : (k_W X S).set 81 (.inr (0, 5, g)) = k_W X (k_u S 81 g) := k_set rfl
theorem k_a82 : z_arr (k_W X S) 82 0 = some (5, S 82) := k_arr (by decide) rfl (by decide)
theorem k_s82 : (k_W X S).set 82 (.inr (0, 5, g)) = k_W X (k_u S 82 g) := k_set rfl
theorem k_a83 : z_arr (k_W X S) 83 0 = some (5, S 83) := k_arr (by decide) rfl (by decide)
theorem k_s83 : (k_W X S).set 83 (.inr (0, 5, g)) = k_W X (k_u S 83 g) := k_set rfl
theorem k_a84 : z_arr (k_W X S) 84 0 = some (5, S 84) := k_arr (by decide) rfl (by decide)
theorem k_s84 : (k_W X S).set 84 (.inr (0, 5, g)) = k_W X (k_u S 84 g) := k_set rfl
theorem k_sm30 (n : Int) : (k_W X S).set 30 (.inl (2, [vR 31, vI n])) = k_W X (k_u S 30 (z_up (S 30) 0 n)) := k_set rfl
theorem k_sm37 (n : Int) : (k_W X S).set 37 (.inl (2, [vR 38, vI n])) = k_W X (k_u S 37 (z_up (S 37) 0 n)) := k_set rfl
theorem k_sf (x y : Int) : (k_W X S).set 45 (.inl (1, [vI x, vI y])) = k_W X (k_u S 45 (z_up (z_up (S 45) 0 x) 1 y)) := k_set rfl
end KW
/-- n rows from a cell on -/
def kF (S : Nat → Nat → Int) (a n : Nat) : Nat → Nat → Int := fun x => if x < n then S (a + x) else fun _ => 0
theorem kF_l {S : Nat → Nat → Int} {a n x : Nat} (h : x < n) : kF S a n x = S (a + x) := by
  unfold kF
  rw [if_pos h]
theorem kF_u {S : Nat → Nat → Int} {a n b : Nat} {f : Nat → Int} (h : b < a ∨ a + n ≤ b) : kF (k_u S b f) a n = kF S a n := by
  funext x
  unfold kF
  split
  · rw [k_u_n (by omega)]
  · rfl
section KF
variable {X : z_Hp} {S : Nat → Nat → Int} {i : Nat}
theorem k_pC (hi : i < 4) (f : Nat → Int) : k_C (49 + 9 * i) f = .inl (4, [vR (50 + 9 * i)]) := by
  rcases i with _ | _ | _ | _ | i <;> first | rfl | omega
theorem k_cC (hi : i < 4) (f : Nat → Int) : k_C (50 + 9 * i) f = .inr (0, 9, f) := by
  rcases i with _ | _ | _ | _ | i <;> first | rfl | omega
theorem k_mC (hi : i < 4) (f : Nat → Int) : k_C (51 + 9 * i) f = .inl (2, [vR (52 + 9 * i), vI (f 0)]) := by
  rcases i with _ | _ | _ | _ | i <;> first | rfl | omega
theorem k_eC (hi : i < 4) (f : Nat → Int) : k_C (52 + 9 * i) f = .inr (4, 5, fun j => if j < 5 then ((53 + 9 * i + 1 * j : Nat) : Int) else -1) := by
  rcases i with _ | _ | _ | _ | i <;> first | rfl | omega
theorem k_rC (hi : i < 4) {j : Nat} (hj : j < 5) (f : Nat → Int) : k_C (53 + 9 * i + j) f = .inr (0, 5, f) := by
  rcases i with _ | _ | _ | _ | i <;> (try omega) <;> (rcases j with _ | _ | _ | _ | _ | j <;> first | rfl | omega)
theorem k_vC (hi : i < 4) (f : Nat → Int) : k_C (4 + i) f = .inr (0, 5, f) := by
  rcases i with _ | _ | _ | _ | i <;> first | rfl | omega
theorem k_po (hi : i < 4) : (k_W X S)[49 + 9 * i]? = some (.inl (4, [vR (50 + 9 * i)])) := (k_get (by omega)).trans (congrArg some (k_pC hi _))
theorem k_pc (hi : i < 4) : (k_W X S)[50 + 9 * i]? = some (.inr (0, 9, S (50 + 9 * i))) := (k_get (by omega)).trans (congrArg some (k_cC hi _))
theorem k_vc (hi : i < 4) : (k_W X S)[4 + i]? = some (.inr (0, 5, S (4 + i))) := (k_get (by omega)).trans (congrArg some (k_vC hi _))
theorem k_mat (hi : i < 4) {n : Nat} (hn : S (51 + 9 * i) 0 = (n : Int)) : mAt (k_W X S) (51 + 9 * i) (52 + 9 * i) (53 + 9 * i) n (kF S (53 + 9 * i) 5) := by
  refine ⟨?_, ⟨_, (k_get (by omega)).trans (congrArg some (k_eC hi _)), fun x hx => by simp [hx]⟩, fun x hx => ?_⟩
  · rw [k_get (by omega), k_mC hi, hn]
  · rw [k_get (by omega), k_rC hi hx, kF_l hx]
theorem k_mat30 {n : Nat} (hn : S 30 0 = (n : Int)) : mAt (k_W X S) 30 31 32 n (kF S 32 5) := by
  refine ⟨?_, ⟨_, k_get (by omega), fun x hx => by simp [hx]⟩, fun x hx => ?_⟩
  · rw [k_get (by omega), ← hn]; rfl
  · rw [kF_l hx]
    rcases x with _ | _ | _ | _ | _ | x <;> first | exact k_get (by omega) | omega
theorem k_mat37 {n : Nat} (hn : S 37 0 = (n : Int)) : mAt (k_W X S) 37 38 39 n (kF S 39 5) := by
  refine ⟨?_, ⟨_, k_get (by omega), fun x hx => by simp [hx]⟩, fun x hx => ?_⟩
  · rw [k_get (by omega), ← hn]; rfl
  · rw [kF_l hx]
    rcases x with _ | _ | _ | _ | _ | x <;> first | exact k_get (by omega) | omega
theorem k_net : nAt (k_W X S) (kF S 10 5) (S 15) (S 16) (kF S 18 5) (kF S 24 4) := by
  refine ⟨k_get (by omega), ⟨⟨_, k_get (by omega), fun x hx => by simp [hx]⟩, fun x hx => ?_⟩, k_get (by omega), k_get (by omega), ⟨⟨_, k_get (by omega), fun x hx => by simp [hx]⟩, fun x hx => ?_⟩, ⟨⟨_, k_get (by omega), fun x hx => by simp [hx]⟩, fun x hx => ?_⟩⟩
  · rw [kF_l hx]
    rcases x with _ | _ | _ | _ | _ | x <;> first | exact k_get (by omega) | omega
  · rw [kF_l hx]
    rcases x with _ | _ | _ | _ | _ | x <;> first | exact k_get (by omega) | omega
  · rw [kF_l hx]
    rcases x with _ | _ | _ | _ | x <;> first | exact k_get (by omega) | omega
end KF
/-- the first k by f, the others by g -/
def z_to (k : Nat) (f g : Nat → Int) : Nat → Int := fun i => if i < k then f i else g i
theorem z_to_0 (f g : Nat → Int) : z_to 0 f g = g := by funext i; simp [z_to]
theorem z_to_s (k : Nat) (f g : Nat → Int) : z_up (z_to k f g) k (f k) = z_to (k + 1) f g := by
  funext i
  unfold z_up z_to
  by_cases h : i = k
  · subst h; simp
  · by_cases h2 : i < k
    · simp [h, h2, show i < k + 1 by omega]
    · simp [h, h2, show ¬ i < k + 1 by omega]
theorem z_to_lt {k i : Nat} {f g : Nat → Int} (h : i < k) : z_to k f g i = f i := by simp [z_to, h]
theorem z_to_ge {k i : Nat} {f g : Nat → Int} (h : ¬ i < k) : z_to k f g i = g i := by simp [z_to, h]
