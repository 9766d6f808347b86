/-! DETERMINANTS: the least over all choices -/
section DM
variable {M : Nat → Nat → Int} {n : Nat} {P : (Nat → Int) × (Nat → Int)}
theorem cOff_ne {e : Int} {s l k : Nat} {P : (Nat → Int) × (Nat → Int)} (h : k ≠ s) : (cOff e s l P).1 k = P.1 k ∧ (cOff e s l P).2 k = P.2 k := by
  unfold cOff z_up
  split
  · exact ⟨rfl, rfl⟩
  · split
    · simp [h]
    · split
      · simp [h]
      · exact ⟨rfl, rfl⟩
theorem cCols_ne {s k : Nat} (h : k ≠ s) : ∀ j, (cCols M s P j).1 k = P.1 k ∧ (cCols M s P j).2 k = P.2 k
  | 0 => by simp [cCols, z_up, h]
  | j + 1 => by
    have ih := cCols_ne h j
    unfold cCols cCol
    split
    · exact ⟨(cOff_ne h).1.trans ih.1, (cOff_ne h).2.trans ih.2⟩
    · exact ih
/-- the least sum of a set of columns; how many choices have it -/
def dS (M : Nat → Nat → Int) (n : Nat) (s : Nat) : Int := (cSets M n ((fun _ => 0), (fun _ => 0)) s).1 s
def dW (M : Nat → Nat → Int) (n : Nat) (s : Nat) : Int := (cSets M n ((fun _ => 0), (fun _ => 0)) s).2 s
theorem cSets_p (hn : n ≤ 5) {k : Nat} : ∀ m, k ≤ m → m < 32 → (cSets M n P m).1 k = dS M n k ∧ (cSets M n P m).2 k = dW M n k
  | 0, h, _ => by
    obtain rfl : k = 0 := by omega
    exact ⟨rfl, rfl⟩
  | m + 1, h, hm => by
    by_cases c : k = m + 1
    · subst c
      exact cSets_e hn (m + 1) hm (m + 1) (by omega)
    · have ih := cSets_p hn (k := k) m (by omega) (by omega)
      have q := cCols_ne (M := M) (s := m + 1) (P := cSets M n P m) c n
      exact ⟨q.1.trans ih.1, q.2.trans ih.2⟩
/-- what holds of a set -/
def dG (M : Nat → Nat → Int) (n s : Nat) : Prop := (dS M n s = INF ∨ (-(100000 * (nb s : Int)) ≤ dS M n s ∧ dS M n s ≤ 100000 * (nb s : Int))) ∧ 0 ≤ dW M n s ∧ (dW M n s = 0 ↔ dS M n s = INF) ∧ (1 ≤ s → (∀ c, c < n → s.testBit c = true → dS M n s ≤ z_plus (dS M n (s - 2 ^ c)) (M (nb s - 1) c)) ∧ (dS M n s = INF ∨ ∃ c, c < n ∧ s.testBit c = true ∧ dS M n (s - 2 ^ c) ≠ INF ∧ M (nb s - 1) c ≠ INF ∧ dS M n s = dS M n (s - 2 ^ c) + M (nb s - 1) c))
theorem dm_b {d m v : Int} {a b : Nat} (h1 : d = INF ∨ (-(100000 * (a : Int)) ≤ d ∧ d ≤ 100000 * (a : Int))) (h2 : m = INF ∨ (-99999 ≤ m ∧ m ≤ 99999)) (n1 : d ≠ INF) (n2 : m ≠ INF) (ev : v = d + m) (hab : a + 1 = b) (hb : b ≤ 5) : -(100000 * (b : Int)) ≤ v ∧ v ≤ 100000 * (b : Int) ∧ v < INF := by
  have b6 : INF = 1000000 := rfl
  omega
theorem dG_all (hn : n ≤ 5) (hM : ∀ i j, i < 5 → j < 5 → M i j = INF ∨ (-99999 ≤ M i j ∧ M i j ≤ 99999)) : ∀ m s, s < m → s < 32 → dG M n s
  | 0, s, h, _ => absurd h (Nat.not_lt_zero s)
  | m + 1, s, h, h32 => by
    have b6 : INF = 1000000 := rfl
    rcases Nat.lt_succ_iff_lt_or_eq.mp h with l | l
    · exact dG_all hn hM m s l h32
    · subst l
      cases s with
      | zero =>
        have e : nb 0 = 0 := by decide
        have e1 : dS M n 0 = 0 := rfl
        have e2 : dW M n 0 = 1 := rfl
        unfold dG
        rw [e, e1, e2]
        refine ⟨Or.inr (by decide), by decide, ⟨fun q => by omega, fun q => by omega⟩, fun q => by omega⟩
      | succ s =>
        obtain ⟨Q, hQ⟩ : ∃ Q, Q = cSets M n ((fun _ => 0), (fun _ => 0)) s := ⟨_, rfl⟩
        have pers : ∀ k, k < s + 1 → Q.1 k = dS M n k ∧ Q.2 k = dW M n k := fun k hk => by rw [hQ]; exact cSets_p hn s (by omega) (by omega)
        have key : ∀ j, j ≤ n → ((cCols M (s + 1) Q j).1 (s + 1) = INF ∨ (-(100000 * (nb (s + 1) : Int)) ≤ (cCols M (s + 1) Q j).1 (s + 1) ∧ (cCols M (s + 1) Q j).1 (s + 1) ≤ 100000 * (nb (s + 1) : Int))) ∧ 0 ≤ (cCols M (s + 1) Q j).2 (s + 1) ∧ ((cCols M (s + 1) Q j).2 (s + 1) = 0 ↔ (cCols M (s + 1) Q j).1 (s + 1) = INF) ∧ (∀ c, c < j → (s + 1).testBit c = true → (cCols M (s + 1) Q j).1 (s + 1) ≤ z_plus (dS M n (s + 1 - 2 ^ c)) (M (nb (s + 1) - 1) c)) ∧ ((cCols M (s + 1) Q j).1 (s + 1) = INF ∨ ∃ c, c < j ∧ (s + 1).testBit c = true ∧ dS M n (s + 1 - 2 ^ c) ≠ INF ∧ M (nb (s + 1) - 1) c ≠ INF ∧ (cCols M (s + 1) Q j).1 (s + 1) = dS M n (s + 1 - 2 ^ c) + M (nb (s + 1) - 1) c) := by
          intro j
          induction j with
          | zero =>
            intro _
            have e1 : (cCols M (s + 1) Q 0).1 (s + 1) = INF := by simp [cCols, z_up]
            have e2 : (cCols M (s + 1) Q 0).2 (s + 1) = 0 := by simp [cCols, z_up]
            rw [e1, e2]
            exact ⟨Or.inl rfl, by decide, ⟨fun _ => rfl, fun _ => rfl⟩, fun c hc => absurd hc (Nat.not_lt_zero c), Or.inl rfl⟩
          | succ j ih =>
            intro hj
            have i := ih (by omega)
            have un : cCols M (s + 1) Q (j + 1) = cCol M (s + 1) j (cCols M (s + 1) Q j) := rfl
            rw [un]
            unfold cCol
            by_cases tb : (s + 1).testBit j = true
            · rw [if_pos tb]
              have ns := nb_sub ⟨s + 1, by omega⟩ ⟨j, by omega⟩ tb
              simp only at ns
              have lt : s + 1 - 2 ^ j < s + 1 := by have := Nat.pow_pos (n := j) (show 0 < 2 by decide); omega
              have g := dG_all hn hM (s + 1) (s + 1 - 2 ^ j) lt (by omega)
              have ne : s + 1 - 2 ^ j ≠ s + 1 := by omega
              have pc := cCols_ne (M := M) (s := s + 1) (P := Q) ne j
              have pq := pers _ lt
              have p1 : (cCols M (s + 1) Q j).1 (s + 1 - 2 ^ j) = dS M n (s + 1 - 2 ^ j) := pc.1.trans pq.1
              have p2 : (cCols M (s + 1) Q j).2 (s + 1 - 2 ^ j) = dW M n (s + 1 - 2 ^ j) := pc.2.trans pq.2
              have nbs := nb_le ⟨s + 1, by omega⟩
              simp only at nbs
              have me := hM (nb (s + 1) - 1) j (by omega) (by omega)
              obtain ⟨g1, g2, g3, -⟩ := g
              have zp : z_plus (dS M n (s + 1 - 2 ^ j)) (M (nb (s + 1) - 1) j) = INF ∨ (dS M n (s + 1 - 2 ^ j) ≠ INF ∧ M (nb (s + 1) - 1) j ≠ INF ∧ z_plus (dS M n (s + 1 - 2 ^ j)) (M (nb (s + 1) - 1) j) = dS M n (s + 1 - 2 ^ j) + M (nb (s + 1) - 1) j) := by
                unfold z_plus
                split
                · exact Or.inl rfl
                · next q => exact Or.inr ⟨fun w => q (Or.inl w), fun w => q (Or.inr w), rfl⟩
              unfold cOff
              rw [p1, p2]
              obtain ⟨v, hv⟩ : ∃ v, v = z_plus (dS M n (s + 1 - 2 ^ j)) (M (nb (s + 1) - 1) j) := ⟨_, rfl⟩
              rw [← hv] at zp ⊢
              obtain ⟨i1, i2, i3, i4, i5⟩ := i
              by_cases c1 : v = INF
              · rw [if_pos c1]
                refine ⟨i1, i2, i3, fun c hc ht => ?_, ?_⟩
                · rcases Nat.lt_succ_iff_lt_or_eq.mp hc with l | l
                  · exact i4 c l ht
                  · subst l
                    rw [← hv, c1]
                    omega
                · rcases i5 with q | ⟨c, hc, q⟩
                  · exact Or.inl q
                  · exact Or.inr ⟨c, by omega, q⟩
              · rw [if_neg c1]
                rcases zp with q | ⟨n1, n2, ev⟩
                · exact absurd q c1
                have w1 : 1 ≤ dW M n (s + 1 - 2 ^ j) := by
                  have : dW M n (s + 1 - 2 ^ j) ≠ 0 := fun w => n1 (g3.mp w)
                  omega
                have vb : -(100000 * (nb (s + 1) : Int)) ≤ v ∧ v ≤ 100000 * (nb (s + 1) : Int) ∧ v < INF := dm_b g1 me n1 n2 ev ns.1 nbs
                by_cases c2 : v < (cCols M (s + 1) Q j).1 (s + 1)
                · rw [if_pos c2]
                  simp only [z_up, if_true]
                  refine ⟨Or.inr ⟨vb.1, vb.2.1⟩, by omega, ⟨fun w => by omega, fun w => by omega⟩, fun c hc ht => ?_, Or.inr ⟨j, by omega, tb, n1, n2, ev⟩⟩
                  rcases Nat.lt_succ_iff_lt_or_eq.mp hc with l | l
                  · have := i4 c l ht
                    omega
                  · subst l
                    rw [← hv]
                    omega
                · rw [if_neg c2]
                  have rest : (∀ c, c < j + 1 → (s + 1).testBit c = true → (cCols M (s + 1) Q j).1 (s + 1) ≤ z_plus (dS M n (s + 1 - 2 ^ c)) (M (nb (s + 1) - 1) c)) ∧ ((cCols M (s + 1) Q j).1 (s + 1) = INF ∨ ∃ c, c < j + 1 ∧ (s + 1).testBit c = true ∧ dS M n (s + 1 - 2 ^ c) ≠ INF ∧ M (nb (s + 1) - 1) c ≠ INF ∧ (cCols M (s + 1) Q j).1 (s + 1) = dS M n (s + 1 - 2 ^ c) + M (nb (s + 1) - 1) c) := by
                    refine ⟨fun c hc ht => ?_, ?_⟩
                    · rcases Nat.lt_succ_iff_lt_or_eq.mp hc with l | l
                      · exact i4 c l ht
                      · subst l
                        rw [← hv]
                        omega
                    · rcases i5 with q | ⟨c, hc, q⟩
                      · exact Or.inl q
                      · exact Or.inr ⟨c, by omega, q⟩
                  by_cases c3 : v = (cCols M (s + 1) Q j).1 (s + 1)
                  · rw [if_pos c3]
                    simp only [z_up, if_true]
                    exact ⟨i1, by omega, ⟨fun w => by omega, fun w => by omega⟩, rest.1, rest.2⟩
                  · rw [if_neg c3]
                    exact ⟨i1, i2, i3, rest.1, rest.2⟩
            · rw [if_neg tb]
              obtain ⟨i1, i2, i3, i4, i5⟩ := i
              refine ⟨i1, i2, i3, fun c hc ht => ?_, ?_⟩
              · rcases Nat.lt_succ_iff_lt_or_eq.mp hc with l | l
                · exact i4 c l ht
                · subst l
                  exact absurd ht tb
              · rcases i5 with q | ⟨c, hc, q⟩
                · exact Or.inl q
                · exact Or.inr ⟨c, by omega, q⟩
        have k := key n (Nat.le_refl n)
        have e1 : dS M n (s + 1) = (cCols M (s + 1) Q n).1 (s + 1) := by rw [hQ]; rfl
        have e2 : dW M n (s + 1) = (cCols M (s + 1) Q n).2 (s + 1) := by rw [hQ]; rfl
        unfold dG
        rw [e1, e2]
        exact ⟨k.1, k.2.1, k.2.2.1, fun _ => ⟨k.2.2.2.1, k.2.2.2.2⟩⟩
end DM
