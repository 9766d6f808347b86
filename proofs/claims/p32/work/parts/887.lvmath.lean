/-! THE LAW: solutions and projections -/
section VMa
theorem mGr_lb {M : Nat → Nat → Int} {V : Nat → Int} {j : Nat} (hM : ∀ i, M i j = INF ∨ (-100 ≤ M i j ∧ M i j ≤ 100)) (hV : ∀ i, -1000 ≤ V i ∧ V i ≤ 1000) : ∀ n, (mGr M V j n = INF ∨ (-1100 ≤ mGr M V j n ∧ mGr M V j n ≤ 1100)) ∧ ∀ i, i < n → M i j ≠ INF → mGr M V j n ≠ INF ∧ V i - M i j ≤ mGr M V j n
  | 0 => ⟨Or.inl rfl, fun i h => absurd h (Nat.not_lt_zero i)⟩
  | n + 1 => by
    have b6 : INF = 1000000 := rfl
    have ih := mGr_lb hM hV n
    have a := hM n
    have b := hV n
    unfold mGr
    by_cases c : M n j = INF
    · rw [if_pos c]
      refine ⟨ih.1, fun i hi h => ?_⟩
      rcases Nat.lt_succ_iff_lt_or_eq.mp hi with l | l
      · exact ih.2 i l h
      · subst l; exact absurd c h
    · rw [if_neg c]
      by_cases d : mGr M V j n = INF
      · rw [if_pos d]
        refine ⟨by omega, fun i hi h => ?_⟩
        rcases Nat.lt_succ_iff_lt_or_eq.mp hi with l | l
        · exact absurd d (ih.2 i l h).1
        · subst l; omega
      · rw [if_neg d]
        refine ⟨by split <;> omega, fun i hi h => ?_⟩
        rcases Nat.lt_succ_iff_lt_or_eq.mp hi with l | l
        · have := ih.2 i l h
          split <;> omega
        · subst l
          split <;> omega
/-- the least is at least the part -/
theorem mLd_ge {M : Nat → Nat → Int} {V F : Nat → Int} {n : Nat} (hM : ∀ i j, M i j = INF ∨ (-100 ≤ M i j ∧ M i j ≤ 100)) (hV : ∀ i, -1000 ≤ V i ∧ V i ≤ 1000) (hF : ∀ k, k < n → F k = mGr M V k n) {i : Nat} (hi : i < n) : V i ≤ mLd M F n i := by
  have b6 : INF = 1000000 := rfl
  have v := hV i
  unfold mLd
  rcases z_mn_at (fun j => z_plus (M i j) (F j)) n with e | ⟨j, hj, e⟩
  · omega
  · rw [e]
    unfold z_plus
    split
    · omega
    · next c =>
      have g := (mGr_lb (fun x => hM x j) hV n).2 i hi (fun w => c (Or.inl w))
      rw [← hF j hj] at g
      omega
theorem mSh_lb {M : Nat → Nat → Int} {V : Nat → Int} {r : Nat} : ∀ m i, i ≤ m → V i - M r i ≤ mSh M V r m
  | 0, i, h => by
    obtain rfl : i = 0 := by omega
    exact Int.le_refl _
  | m + 1, i, h => by
    unfold mSh
    rcases Nat.lt_or_ge i (m + 1) with l | l
    · have := mSh_lb (M := M) (V := V) (r := r) m i (by omega)
      split <;> omega
    · obtain rfl : i = m + 1 := by omega
      split <;> omega
theorem mSh_ub {M : Nat → Nat → Int} {V : Nat → Int} {r : Nat} {c : Int} : ∀ m, (∀ i, i ≤ m → V i - M r i ≤ c) → mSh M V r m ≤ c
  | 0, h => h 0 (Nat.le_refl 0)
  | m + 1, h => by
    have ih := mSh_ub m (fun i hi => h i (by omega))
    have a := h (m + 1) (Nat.le_refl _)
    unfold mSh
    split <;> omega
theorem mPr_lb {M : Nat → Nat → Int} {V : Nat → Int} {n i : Nat} : ∀ x, 1 ≤ x → (∀ r, r < x → mPr M V n i x ≤ mSh M V r (n - 1) + M r i) ∧ ∃ r, r < x ∧ mPr M V n i x = mSh M V r (n - 1) + M r i
  | 0, h => absurd h (by omega)
  | x + 1, _ => by
    unfold mPr
    by_cases c : x = 0
    · subst c
      rw [if_pos rfl]
      exact ⟨fun r hr => by obtain rfl : r = 0 := by omega
                            exact Int.le_refl _, 0, by omega, rfl⟩
    · rw [if_neg c]
      obtain ⟨a, r0, h0, e0⟩ := mPr_lb (M := M) (V := V) (n := n) (i := i) x (by omega)
      refine ⟨fun r hr => ?_, ?_⟩
      · rcases Nat.lt_succ_iff_lt_or_eq.mp hr with l | l
        · have := a r l
          split <;> omega
        · subst l
          split <;> omega
      · split
        · exact ⟨x, by omega, rfl⟩
        · exact ⟨r0, by omega, e0⟩
theorem mPr_ge {M : Nat → Nat → Int} {V : Nat → Int} {n i : Nat} (hi : i < n) : V i ≤ mPr M V n i n := by
  obtain ⟨-, r, hr, e⟩ := mPr_lb (M := M) (V := V) (n := n) (i := i) n (by omega)
  have := mSh_lb (M := M) (V := V) (r := r) (n - 1) i (by omega)
  omega
/-- a projection is projected to itself -/
theorem mPr_id {M : Nat → Nat → Int} {V P : Nat → Int} {n i : Nat} (hP : ∀ k, k < n → P k = mPr M V n k n) (hi : i < n) : mPr M P n i n = P i := by
  have h1 := mPr_ge (M := M) (V := P) hi
  obtain ⟨a, -⟩ := mPr_lb (M := M) (V := P) (n := n) (i := i) n (by omega)
  obtain ⟨-, r, hr, e⟩ := mPr_lb (M := M) (V := V) (n := n) (i := i) n (by omega)
  have u : mSh M P r (n - 1) ≤ mSh M V r (n - 1) := mSh_ub (n - 1) (fun k hk => by
    have := (mPr_lb (M := M) (V := V) (n := n) (i := k) n (by omega)).1 r hr
    rw [hP k (by omega)]
    omega)
  have := a r hr
  have := hP i hi
  omega
theorem mPr_b3 {M : Nat → Nat → Int} {V : Nat → Int} {n i : Nat} (hM : ∀ i j, i < n → j < n → -100 ≤ M i j ∧ M i j ≤ 100) (hV : ∀ i, i < n → -1300 ≤ V i ∧ V i ≤ 1300) (hi : i < n) : -1300 ≤ mPr M V n i n ∧ mPr M V n i n ≤ 1500 := by
  obtain ⟨a, r, hr, e⟩ := mPr_lb (M := M) (V := V) (n := n) (i := i) n (by omega)
  have g := mPr_ge (M := M) (V := V) hi
  have v := hV i hi
  have u : mSh M V r (n - 1) ≤ 1400 := mSh_ub (n - 1) (fun k hk => by
    have := hV k (by omega)
    have := hM r k hr (by omega)
    omega)
  have := hM r i hr hi
  omega
end VMa
