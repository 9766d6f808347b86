/-! CHIPS: what the class's and the reference's reducing come to -/
theorem qS_wh {b : z_Ev Bool} {s u : z_St} {Q : z_Oc → z_Hp → Prop} (I : Nat → List z_V → z_Hp → Prop) (hs : ∀ m ρ h, I m ρ h → qT (b ρ h) (fun v h => (v = true → ∃ m', m = m' + 1 ∧ qS s ρ h (z_bk (fun ρ h => qS u ρ h (z_nx (fun ρ h => I m' ρ h) Q)) Q)) ∧ (v = false → Q (oN ρ) h)) (fun E h => Q (oX E) h)) : ∀ (m N : Nat) (ρ : List z_V) (h : z_Hp), m < N → I m ρ h → qS (sLoop b s u N) ρ h Q := by
  intro m
  induction m using Nat.strongRecOn with
  | _ m ih =>
    intro N ρ h hN hI
    obtain ⟨M, rfl⟩ : ∃ M, N = M + 1 := ⟨N - 1, by omega⟩
    rw [qS_loop_step]
    have := hs m ρ h hI
    rcases hb : b ρ h with _ | ⟨v | E, h1⟩
    · rw [hb] at this; exact this
    · rw [hb] at this
      obtain ⟨t, f⟩ := this
      refine ⟨fun q => ?_, f⟩
      obtain ⟨m', rfl, q⟩ := t q
      unfold qS at q ⊢
      rcases hsr : s ρ h1 with _ | ⟨o, h2⟩
      · rw [hsr] at q; exact q
      · rw [hsr] at q
        rcases o with ρ1 | (ρ1 | o)
        · simp only [qO, z_bk] at q ⊢
          rcases hu : u ρ1 h2 with _ | ⟨o2, h3⟩
          · rw [hu] at q; exact q
          · rw [hu] at q
            rcases o2 with ρ2 | o2
            · exact ih m' (by omega) M ρ2 h3 (by omega) q
            · exact q
        · exact q
        · exact q
    · rw [hb] at this; exact this
theorem nAt.redW {h : z_Hp} {B P D : Nat → Nat → Int} {C N : Nat → Int} (a : nAt h B C N P D) {q : Nat} (c : cOk B q) {i : Nat} (hi : i < 5) (hN : ∀ k, k < 5 → N k = (nNr B q k : Int)) (hV : nVb (P i) 126) : ∃ W m, m_X3_reduce [vR 8, vR (18 + i)] h = some (.inl none, h.set (18 + i) (.inr (0, 5, W))) ∧ hIn B q (P i) W m ∧ m ≤ 1000000 ∧ cRd B q W := by
  obtain ⟨r1, r2, m, r3, r4, r5⟩ := nRed c hV
  exact ⟨_, m, s_reduce a c.1.bd hi (fun k hk => ⟨nNr_b c.2.1 k, hN k hk⟩) r1 r2, r3, r4, r5⟩
def ck1 (k : Nat) : Nat → Int := fun x => if x = k then 1 else 0
theorem cL_k {B : Nat → Nat → Int} (h : gOk B) {k u : Nat} (hk : k < 5) (hu : u < 5) : cL B (ck1 k) u = (if u = k then nAll B k else 0) - B k u := by
  have d := (h u u hu hu).2.2.2 rfl
  have sy := (h k u hk hu).2.2.1
  rw [nAll_5]
  simp only [cL, ck1, s5]
  rcases (show k = 0 ∨ k = 1 ∨ k = 2 ∨ k = 3 ∨ k = 4 by omega) with rfl | rfl | rfl | rfl | rfl <;> rcases (show u = 0 ∨ u = 1 ∨ u = 2 ∨ u = 3 ∨ u = 4 by omega) with rfl | rfl | rfl | rfl | rfl <;> simp <;> omega
section RR
variable {S : Nat → Nat → Int}
theorem ck1_b (k x : Nat) : 0 ≤ ck1 k x := by
  unfold ck1
  split <;> omega
end RR
