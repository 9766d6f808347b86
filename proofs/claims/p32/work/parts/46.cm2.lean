/-! CHIPS, the mathematics: what does not burn may fire; where all burns, it is reduced -/
theorem m5_le : ∀ (s : Fin 32) (v : Fin 5), m5 s.val v.val → 2 ^ v.val ≤ s.val ∧ 0 < 2 ^ v.val := by decide
theorem nb_rm : ∀ (s : Fin 32) (v : Fin 5), m5 s.val v.val → nb (s.val - 2 ^ v.val) + 1 = nb s.val := by decide
section CB
variable {B : Nat → Nat → Int} {V : Nat → Int}
theorem nCe_mono (h : gOk B) {v : Nat} (hv : v < 5) {s t : Int} (hst : ∀ u, u < 5 → iB s u → iB t u) : nCe B v s 5 ≤ nCe B v t 5 := by
  rw [nCe_5, nCe_5]
  refine s5_le (fun u hu => ?_)
  have b := (h v u hv hu).1
  by_cases hm : iB s u
  · rw [if_pos hm, if_pos (hst u hu hm)]
    omega
  · rw [if_neg hm]
    split <;> omega
/-- a set that may fire -/
def cLg (B : Nat → Nat → Int) (V : Nat → Int) (s : Nat) : Prop := ∀ v, v < 5 → m5 s v → nCe B v (-(s : Int) - 1) 5 ≤ V v
theorem nBn_keep (h : gOk B) {s : Nat} (hs : s < 32) (hl : cLg B V s) {X : Nat} (hX : X < 32) (hsub : ∀ u, u < 5 → m5 s u → m5 X u) : ∀ v, v ≤ 5 → ∀ u, u < 5 → m5 s u → m5 (nBn B V X v) u
  | 0, _ => hsub
  | v + 1, hv => by
    intro u hu mu
    have ih := nBn_keep h hs hl hX hsub v (by omega)
    have b := nBn_b (B := B) (V := V) hX v
    unfold nBn
    split
    · next q =>
      have e := m5_sub ⟨_, b⟩ ⟨v, hv⟩ ⟨u, hu⟩ q.1
      simp only at e
      rw [e]
      refine ⟨ih u hu mu, fun e => ?_⟩
      subst e
      have l1 := hl u hu mu
      have l2 := nCe_mono h hu (s := -(nBn B V X u : Int) - 1) (t := -(s : Int) - 1) (fun w hw mw => by
        have e1 := m5_not ⟨_, b⟩ ⟨w, hw⟩
        have e2 := m5_not ⟨s, hs⟩ ⟨w, hw⟩
        simp only at e1 e2
        rw [e2]
        exact fun mm => e1.mp mw (ih w hw mm))
      omega
    · exact ih u hu mu
theorem nRd_keep (h : gOk B) {s : Nat} (hs : s < 32) (hl : cLg B V s) {X : Nat} (hX : X < 32) (hsub : ∀ u, u < 5 → m5 s u → m5 X u) : ∀ k u, u < 5 → m5 s u → m5 (nRd B V X k) u
  | 0 => hsub
  | k + 1 => nBn_keep h hs hl (nRd_b hX k) (nRd_keep h hs hl hX hsub k) 5 (by omega)
theorem nBn_nb {X : Nat} (hX : X < 32) : ∀ v, v ≤ 5 → nBn B V X v ≤ X ∧ (∀ u, u < 5 → m5 (nBn B V X v) u → m5 X u) ∧ (nBn B V X v = X ∨ nb (nBn B V X v) < nb X) ∧ nb (nBn B V X v) ≤ nb X
  | 0, _ => ⟨Nat.le_refl _, fun _ _ q => q, Or.inl rfl, Nat.le_refl _⟩
  | v + 1, hv => by
    obtain ⟨i1, i2, i3, i4⟩ := nBn_nb hX v (by omega)
    have b := nBn_b (B := B) (V := V) hX v
    unfold nBn
    split
    · next q =>
      have r := nb_rm ⟨_, b⟩ ⟨v, hv⟩ q.1
      simp only at r
      refine ⟨Nat.le_trans (Nat.sub_le _ _) i1, fun u hu mu => ?_, Or.inr (by omega), by omega⟩
      have e := m5_sub ⟨_, b⟩ ⟨v, hv⟩ ⟨u, hu⟩ q.1
      simp only at e
      exact i2 u hu (e.mp mu).1
    · exact ⟨i1, i2, i3, i4⟩
theorem nBn_le {X : Nat} (hX : X < 32) : ∀ v w, v ≤ w → w ≤ 5 → nBn B V X w ≤ nBn B V X v
  | v, w, hvw, hw => by
    rcases Nat.lt_or_ge v w with h | h
    · obtain ⟨x, rfl⟩ : ∃ x, w = x + 1 := ⟨w - 1, by omega⟩
      have ih := nBn_le hX v x (by omega) (by omega)
      rw [nBn]
      split
      · exact Nat.le_trans (Nat.sub_le _ _) ih
      · exact ih
    · have : v = w := by omega
      rw [this]
      exact Nat.le_refl _
theorem nBn_fix {X : Nat} (hX : X < 32) (hf : nBn B V X 5 = X) : ∀ v, v < 5 → m5 X v → nCe B v (-(X : Int) - 1) 5 ≤ V v := by
  intro v hv mv
  have e : ∀ w, w ≤ 5 → nBn B V X w = X := fun w hw => by
    have a := nBn_le (B := B) (V := V) hX w 5 hw (Nat.le_refl _)
    have b := (nBn_nb (B := B) (V := V) hX w hw).1
    omega
  have e1 := e (v + 1) (by omega)
  rw [nBn, e v (by omega)] at e1
  split at e1
  · next q =>
    have := m5_le ⟨X, hX⟩ ⟨v, hv⟩ mv
    simp only at this
    omega
  · next q =>
    rcases Int.lt_or_le (V v) (nCe B v (-(X : Int) - 1) 5) with l | l
    · exact absurd ⟨mv, l⟩ q
    · exact l
/-- the class's set: it may fire, it is in X, and where it is empty no set in X may -/
theorem nRd_sub {X : Nat} (hX : X < 32) : ∀ k u, u < 5 → m5 (nRd B V X k) u → m5 X u
  | 0, _, _, q => q
  | k + 1, u, hu, q => nRd_sub hX k u hu ((nBn_nb (B := B) (V := V) (nRd_b hX k) 5 (by omega)).2.1 u hu q)
theorem nRd_lg {X : Nat} (hX : X < 32) (h4 : nb X ≤ 4) : cLg B V (nRd B V X 4) := by
  have key : nBn B V (nRd B V X 4) 5 = nRd B V X 4 := by
    by_cases hk : ∃ k, k < 4 ∧ nRd B V X (k + 1) = nRd B V X k
    · obtain ⟨k, hk, e⟩ := hk
      have f1 := nRd_fix e (4 - k)
      have f2 := nRd_fix e (5 - k)
      rw [show k + (4 - k) = 4 by omega] at f1
      rw [show k + (5 - k) = 4 + 1 by omega] at f2
      show nRd B V X (4 + 1) = _
      rw [f1, f2]
    · have st : ∀ k, k ≤ 4 → nb (nRd B V X k) + k ≤ 4 := by
        intro k
        induction k with
        | zero => intro _; exact h4
        | succ k ih =>
          intro hk2
          have a := ih (by omega)
          have b := (nBn_nb (B := B) (V := V) (nRd_b (B := B) (V := V) hX k) 5 (by omega)).2.2.1
          rcases b with b | b
          · exact absurd ⟨k, by omega, b⟩ hk
          · show nb (nBn B V (nRd B V X k) 5) + (k + 1) ≤ 4
            omega
      have z := nb_0 ⟨_, nRd_b (B := B) (V := V) hX 4⟩ (by have := st 4 (by omega); simp only; omega)
      simp only at z
      have y := (nBn_nb (B := B) (V := V) (nRd_b (B := B) (V := V) hX 4) 5 (by omega)).1
      omega
  exact nBn_fix (nRd_b hX 4) key
theorem nRd_rd (h : gOk B) {q X : Nat} (hX : X < 32) (mX : ∀ u, u < 5 → (m5 X u ↔ nHv B u ∧ u ≠ q)) (hV : ∀ v, v < 5 → v ≠ q → nHv B v → 0 ≤ V v) (h0 : nRd B V X 4 = 0) : cRd B q V := by
  refine ⟨hV, fun s hs h1 h2 => ?_⟩
  have k := nRd_keep h hs h2 hX (fun u hu mu => (mX u hu).mpr (h1 u hu mu)) 4
  refine m5_ext ⟨s, hs⟩ (fun u mu => ?_)
  have := k u.val u.isLt mu
  rw [h0] at this
  exact m5_0 u this
theorem m5_eq : ∀ s t : Fin 32, (∀ u : Fin 5, m5 s.val u.val ↔ m5 t.val u.val) → s.val = t.val := by decide +kernel
theorem nb_1 : ∀ q : Fin 5, nb (2 ^ q.val) = 1 := by decide
end CB
