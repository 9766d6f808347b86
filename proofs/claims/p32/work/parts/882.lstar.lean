/-! STARS: what a star is; when there is none -/
section LSt
variable {A : Nat → Nat → Int} {n : Nat}
theorem sP_s (A : Nat → Nat → Int) (n m : Nat) : sP A n (m + 1) = mMul (sP A n m) A n := rfl
theorem sP_mB {c : Int} (hA : mB c A n) : ∀ m : Nat, mB (((m : Int) + 1) * c) (sP A n m) n
  | 0 => fun i j hi hj => by
    have e : (((0 : Nat) : Int) + 1) * c = c := by simp
    rw [e]
    exact hA i j hi hj
  | m + 1 => fun i j hi hj => by
    have h := (sP_mB hA m).mul hA i j hi hj
    have e : (((m + 1 : Nat) : Int) + 1) * c = ((m : Int) + 1) * c + c := by
      rw [Int.natCast_add, Int.add_mul _ (1 : Int) c, Int.one_mul]
      rfl
    rw [e]
    exact h
theorem sPg_at (A : Nat → Nat → Int) : ∀ (m i j : Nat), sP A n m i j = INF ∨ ∃ l : List Nat, l.length = m ∧ wV A n i l j ∧ sP A n m i j = wW A i l j
  | 0, i, j => by
    by_cases c : A i j = INF
    · exact Or.inl c
    · exact Or.inr ⟨[], rfl, c, rfl⟩
  | m + 1, i, j => by
    rcases mm_at (sP A n m) A n i j with e | ⟨k, hk, x, y, e⟩
    · exact Or.inl e
    · rcases sPg_at A m i k with e2 | ⟨l, l1, l2, l3⟩
      · exact absurd e2 x
      · refine Or.inr ⟨l ++ [k], by simp [l1], (wV_app l i k [] j).mpr ⟨l2, hk, y⟩, ?_⟩
        rw [wW_app l i k [] j, ← l3]
        exact e
theorem wWg_b {c : Int} (hA : mB c A n) : ∀ (l : List Nat) (i j : Nat), i < n → j < n → wV A n i l j → wW A i l j ≤ ((l.length : Int) + 1) * c
  | [], i, j, hi, hj, v => by
    have w := hA i j hi hj
    have v' : A i j ≠ INF := v
    unfold eB at w
    show A i j ≤ ((0 : Int) + 1) * c
    omega
  | x :: l, i, j, hi, hj, v => by
    obtain ⟨v1, v2, v3⟩ := v
    have ih := wWg_b hA l x j v1 hj v3
    have w := hA i x hi v1
    unfold eB at w
    have e : (((l.length + 1 : Nat) : Int) + 1) * c = ((l.length : Int) + 1) * c + c := by
      rw [Int.natCast_add, Int.add_mul _ (1 : Int) c, Int.one_mul]
      rfl
    show A i x + wW A x l j ≤ (((l.length + 1 : Nat) : Int) + 1) * c
    rw [e]
    omega
theorem sPg_lo (hA : mB 1000 A n) : ∀ (m : Nat) (l : List Nat) (i j : Nat), m ≤ 7 → l.length = m → i < n → j < n → wV A n i l j → sP A n m i j ≤ wW A i l j
  | 0, l, i, j, _, hl, hi, hj, v => by
    obtain rfl := List.length_eq_zero_iff.mp hl
    exact Int.le_refl _
  | m + 1, l, i, j, hm, hl, hi, hj, v => by
    have b6 : INF = 1000000 := rfl
    rcases List.eq_nil_or_concat l with q | ⟨l', x, q⟩
    · subst q
      cases hl
    · rw [List.concat_eq_append] at q
      subst q
      have hl' : l'.length = m := by simp at hl; exact hl
      obtain ⟨v1, v2, v3⟩ := (wV_app l' i x [] j).mp v
      have ih := sPg_lo hA m l' i x (by omega) hl' hi v2 v1
      have wb := wWg_b hA l' i x hi v2 v1
      have nf : sP A n m i x ≠ INF := by
        have : ((l'.length : Int) + 1) * 1000 ≤ 8000 := by omega
        omega
      have s := mm_lb (A := sP A n m) (B := A) (n := n) (i := i) (j := j) v2 nf v3
      rw [wW_app l' i x [] j]
      have e : wW A x [] j = A x j := rfl
      rw [e, sP_s]
      omega
/-- the least sums of ways -/
def tS (S : Nat → Nat → Int) (n : Nat) : Prop := (∀ i, i < n → S i i = 0) ∧ (∀ i k j, i < n → k < n → j < n → S i k ≠ INF → S k j ≠ INF → S i j ≤ S i k + S k j) ∧ mB 90000 S n
theorem wN_q (hA : wA A n) (hn : n ≤ 5) (q : ∀ i, i < n → 0 ≤ sP A n n i i) : wN A n := fun x l hx hd _ v => Int.le_trans (q x hx) (sP_n hA hn hx hx hd v)
theorem star_tS (hA : wA A n) (hn : n ≤ 5) (q : ∀ i, i < n → 0 ≤ sP A n n i i) (hb : mB 90000 (sP A n n) n) : tS (sP A n n) n := by
  have hN := wN_q hA hn q
  refine ⟨fun i hi => ?_, fun i k j hi hk hj f1 f2 => ?_, hb⟩
  · have w := sP_ms hA hi hi 0 n
    rw [Nat.zero_add] at w
    have w2 := hA.2 i hi
    have e : sP A n 0 i i = A i i := rfl
    have := q i hi
    omega
  · rcases sP_at hA n i k hi hk with e | ⟨l1, a1, a2, a3⟩
    · exact absurd e f1
    · rcases sP_at hA n k j hk hj with e | ⟨l2, c1, c2, c3⟩
      · exact absurd e f2
      · obtain ⟨l', d1, d2, d3, -⟩ := wR hN (l1 ++ k :: l2).length (l1 ++ k :: l2) i j (Nat.le_refl _) ((wV_app l1 i k l2 j).mpr ⟨a2, hk, c2⟩)
        have := sP_n hA hn hi hj d1 d2
        rw [wW_app l1 i k l2 j] at d3
        omega
/-- a star is at most the matrix -/
theorem star_le {M : Nat → Nat → Int} (hA : wA (wD M) n) (q : ∀ i, i < n → 0 ≤ sP (wD M) n n i i) {i j : Nat} (hi : i < n) (hj : j < n) : sP (wD M) n n i j ≤ M i j := by
  have w := sP_ms hA hi hj 0 n
  rw [Nat.zero_add] at w
  have e : sP (wD M) n 0 i j = wD M i j := rfl
  rw [e] at w
  by_cases c : i = j
  · subst c
    have qi := q i hi
    have e2 : wD M i i = if M i i < 0 then M i i else 0 := by
      unfold wD
      rw [if_pos rfl]
    rw [e2] at w
    generalize sP (wD M) n n i i = z at *
    split at w <;> omega
  · have e3 : wD M i j = M i j := by
      unfold wD
      rw [if_neg c]
    rw [e3] at w
    exact w
section TS
variable {S : Nat → Nat → Int}
theorem tS.cg {T : Nat → Nat → Int} (h : tS S n) (e : ∀ i j, i < n → j < n → T i j = S i j) : tS T n :=
  ⟨fun i hi => by rw [e i i hi hi]; exact h.1 i hi, fun i k j hi hk hj f1 f2 => by
    rw [e i k hi hk] at f1 ⊢
    rw [e k j hk hj] at f2 ⊢
    rw [e i j hi hj]
    exact h.2.1 i k j hi hk hj f1 f2, h.2.2.cg e⟩
theorem tS.sq (h : tS S n) {i j : Nat} (hi : i < n) (hj : j < n) : mMul S S n i j = S i j := by
  have b6 : INF = 1000000 := rfl
  have h1 : mMul S S n i j ≤ S i j := by
    by_cases c : S i j = INF
    · rw [c]
      exact mm_le _ _ _ _ _
    · have e := h.1 i hi
      have w := mm_lb (A := S) (B := S) (n := n) (i := i) (j := j) hi (by omega) c
      omega
  have h2 : S i j ≤ mMul S S n i j := by
    rcases mm_at S S n i j with e | ⟨k, hk, x, y, e⟩
    · have := h.2.2 i j hi hj
      unfold eB at this
      omega
    · rw [e]
      exact h.2.1 i k j hi hk hj x y
  omega
theorem tS.dg (h : tS S n) : ∀ i j, i < n → j < n → wD S i j = S i j := fun i j hi hj => by
  unfold wD
  by_cases c : i = j
  · subst c
    have := h.1 i hi
    rw [if_pos rfl]
    split <;> omega
  · rw [if_neg c]
theorem tS.pw (h : tS S n) : ∀ m i j, i < n → j < n → sP S n m i j = S i j
  | 0, _, _, _, _ => rfl
  | m + 1, i, j, hi, hj => by
    rw [sP_s, mm_cg (A' := S) (B' := S) (fun x y hx hy => tS.pw h m x y hx hy) (fun _ _ _ _ => rfl) hi hj]
    exact h.sq hi hj
theorem sP_cg {A' : Nat → Nat → Int} (e : ∀ i j, i < n → j < n → A i j = A' i j) : ∀ m i j, i < n → j < n → sP A n m i j = sP A' n m i j
  | 0, i, j, hi, hj => e i j hi hj
  | m + 1, i, j, hi, hj => by
    rw [sP_s, sP_s]
    exact mm_cg (fun x y hx hy => sP_cg e m x y hx hy) e hi hj
/-- the star of a star -/
theorem tS.st (h : tS S n) {m i j : Nat} (hi : i < n) (hj : j < n) : sP (wD S) n m i j = S i j := by
  rw [sP_cg h.dg m i j hi hj]
  exact h.pw m i j hi hj
/-- its mean -/
theorem tS.mn (h : tS S n) (hn : 1 ≤ n) : fRd (fSt S n n) = (0, 1) := by
  have b6 : INF = 1000000 := rfl
  have z : ∀ k, z_mn (fun r => sP S n k r r) n = 0 := fun k => by
    refine (z_mn0 hn (fun i hi => ?_)).mpr (fun i hi => ?_)
    · rw [h.pw k i i hi hi, h.1 i hi]
      exact Int.le_refl 0
    · rw [h.pw k i i hi hi, h.1 i hi]
      exact Int.le_refl 0
  have key : ∀ k, fSt S n (k + 1) = (0, 1) := by
    intro k
    induction k with
    | zero =>
      show fUp (z_mn (fun r => sP S n 0 r r) n) (((0 : Nat) : Int) + 1) (INF, 1) = _
      rw [z]
      rfl
    | succ k ih =>
      show fUp (z_mn (fun r => sP S n (k + 1) r r) n) (((k + 1 : Nat) : Int) + 1) (fSt S n (k + 1)) = _
      rw [z, ih]
      unfold fUp
      rw [if_neg]
      simp only
      omega
  obtain ⟨k, rfl⟩ : ∃ k, n = k + 1 := ⟨n - 1, by omega⟩
  rw [key]
  decide
/-- its determinant -/
theorem tS.dt {T : Nat → Nat → Int} (h : tS S n) (hn : n ≤ 5) (e : ∀ i j, i < n → j < n → T i j = S i j) (hT : ∀ i j, i < 5 → j < 5 → T i j = INF ∨ (-99999 ≤ T i j ∧ T i j ≤ 99999)) : dT T n = 0 := by
  have b6 : INF = 1000000 := rfl
  have hT' := h.cg e
  have p := p2_32 hn
  have pp := Nat.pow_pos (n := n) (show 0 < 2 by decide)
  have nf := b_nbf ⟨n, by omega⟩
  simp only at nf
  have o := ch_id hn n (Nat.le_refl n)
  have u := dS_ub hn hT n o (fun r hr => by show T r r ≠ INF; rw [hT'.1 r hr]; decide)
  rw [ch_full hn o] at u
  have z0 : ∀ k, k ≤ n → sm (fun r => T r r) k = 0 := by
    intro k
    induction k with
    | zero => exact fun _ => rfl
    | succ k ih =>
      intro hk
      show sm _ k + T k k = 0
      rw [ih (by omega), hT'.1 k (by omega)]
      rfl
  have z1 := z0 n (Nat.le_refl n)
  simp only [z1] at u
  have lo : 0 ≤ dT T n := by
    rcases dS_at hn hT n (2 ^ n - 1) nf (by omega) with q | ⟨σ, a1, a2, a3, a4⟩
    · unfold dT
      omega
    · have at' : ∀ c, c < n → z_mn (fun i => T i c) n ≤ 0 ∧ ∃ i, i < n ∧ z_mn (fun i => T i c) n = T i c := fun c hc => by
        have lb := z_mn_lb (fun i => T i c) n c hc
        have d := hT'.1 c hc
        simp only [d] at lb
        refine ⟨lb, ?_⟩
        rcases z_mn_at (fun i => T i c) n with q | q
        · omega
        · exact q
      have stp : ∀ r, r < n → z_mn (fun i => T i (σ r)) n - z_mn (fun i => T i r) n ≤ T r (σ r) := fun r hr => by
        have s1 := (a1 r hr).1
        obtain ⟨l0, i, hi, ei⟩ := at' r hr
        have f2 := a3 r hr
        have t := hT'.2.1 i r (σ r) hi hr s1 (by omega) f2
        have lb := z_mn_lb (fun i => T i (σ r)) n i hi
        omega
      have l := sm_le (f := fun r => z_mn (fun i => T i (σ r)) n - z_mn (fun i => T i r) n) (g := fun r => T r (σ r)) n stp
      have pm := sm_perm hn a1 (fun c => z_mn (fun i => T i c) n)
      have sb : ∀ (f g : Nat → Int) k, sm (fun r => f r - g r) k = sm f k - sm g k := by
        intro f g k
        induction k with
        | zero => rfl
        | succ k ih =>
          show sm _ k + (f k - g k) = sm f k + f k - (sm g k + g k)
          omega
      rw [sb (fun r => z_mn (fun i => T i (σ r)) n) (fun r => z_mn (fun i => T i r) n)] at l
      unfold dT
      omega
  unfold dT at *
  omega
end TS
end LSt
