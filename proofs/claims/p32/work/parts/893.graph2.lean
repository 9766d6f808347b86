/-! THE FACE: graph -/
variable {X : z_Hp}
section GF
variable {S : Nat → Nat → Int} {B : Nat → Nat → Int}
theorem tT_cg {L L' : Nat → Nat → Int} (h : ∀ x y, x < 4 → y < 4 → L x y = L' x y) : tT L = tT L' := by
  have h1 : ∀ x y, x < 4 → y < 4 → tE L 0 1 x y = tE L' 0 1 x y := fun x y hx hy => tE_cg (by decide) h hx hy
  have h2 : ∀ x y, x < 4 → y < 4 → tE (tE L 0 1) 1 (L 0 0) x y = tE (tE L' 0 1) 1 (L' 0 0) x y := fun x y hx hy => by
    rw [h 0 0 (by decide) (by decide)]
    exact tE_cg (by decide) h1 hx hy
  have h3 : tE (tE (tE L 0 1) 1 (L 0 0)) 2 (tE L 0 1 1 1) 3 3 = tE (tE (tE L' 0 1) 1 (L' 0 0)) 2 (tE L' 0 1 1 1) 3 3 := by
    rw [h1 1 1 (by decide) (by decide)]
    exact tE_cg (by decide) h2 (by decide) (by decide)
  unfold tT
  rw [h3, h1 1 1 (by decide) (by decide), h2 2 2 (by decide) (by decide), h 0 0 (by decide) (by decide)]
theorem tD4_cg {L L' : Nat → Nat → Int} (h : ∀ x y, x < 4 → y < 4 → L x y = L' x y) : tD4 L = tD4 L' := by
  unfold tD4 tV3 tV2
  rw [h 0 0 (by decide) (by decide), h 0 1 (by decide) (by decide), h 0 2 (by decide) (by decide), h 0 3 (by decide) (by decide), h 1 0 (by decide) (by decide), h 1 1 (by decide) (by decide), h 1 2 (by decide) (by decide), h 1 3 (by decide) (by decide), h 2 0 (by decide) (by decide), h 2 1 (by decide) (by decide), h 2 2 (by decide) (by decide), h 2 3 (by decide) (by decide), h 3 0 (by decide) (by decide), h 3 1 (by decide) (by decide), h 3 2 (by decide) (by decide), h 3 3 (by decide) (by decide)]
/-- an edge to the vertex 0, or one for a vertex that is not of the graph -/
def tw (B : Nat → Nat → Int) (i : Nat) : Int := if nAll B i = 0 then 1 else B 0 i
def tM (B : Nat → Nat → Int) : Nat → Nat → Int := tLm (tw B 1) (tw B 2) (tw B 3) (tw B 4) (B 1 2) (B 1 3) (B 1 4) (B 2 3) (B 2 4) (B 3 4)
theorem nAll_e (B : Nat → Nat → Int) (v : Nat) : nAll B v = B v 0 + B v 1 + B v 2 + B v 3 + B v 4 := by
  rw [nAll_5]
  simp only [s5]
theorem tM_e (g : gOk B) : ∀ x y, x < 4 → y < 4 → tL B x y = tM B x y := by
  intro x y hx hy
  have cx : x = 0 ∨ x = 1 ∨ x = 2 ∨ x = 3 := by omega
  have cy : y = 0 ∨ y = 1 ∨ y = 2 ∨ y = 3 := by omega
  unfold tL tM
  rcases cx with rfl | rfl | rfl | rfl <;> rcases cy with rfl | rfl | rfl | rfl
  · rw [if_pos rfl, tl00]
    have n := nAll_e B 1
    have g0 := g 1 0 (by decide) (by decide)
    have g1 := g 1 1 (by decide) (by decide)
    have g2 := g 1 2 (by decide) (by decide)
    have g3 := g 1 3 (by decide) (by decide)
    have g4 := g 1 4 (by decide) (by decide)
    have h0 := (g 0 1 (by decide) (by decide)).2.2.1
    have d := g1.2.2.2 rfl
    unfold tw
    simp only [Nat.reduceAdd]
    generalize nAll B 1 = N at *
    (repeat' split) <;> omega
  · have h := (g 1 2 (by decide) (by decide)).2.2.1
    rw [if_neg (by decide), tl01]
    try simp only [Nat.reduceAdd]
    try omega
  · have h := (g 1 3 (by decide) (by decide)).2.2.1
    rw [if_neg (by decide), tl02]
    try simp only [Nat.reduceAdd]
    try omega
  · have h := (g 1 4 (by decide) (by decide)).2.2.1
    rw [if_neg (by decide), tl03]
    try simp only [Nat.reduceAdd]
    try omega
  · have h := (g 2 1 (by decide) (by decide)).2.2.1
    rw [if_neg (by decide), tl10]
    try simp only [Nat.reduceAdd]
    try omega
  · rw [if_pos rfl, tl11]
    have n := nAll_e B 2
    have g0 := g 2 0 (by decide) (by decide)
    have g1 := g 2 1 (by decide) (by decide)
    have g2 := g 2 2 (by decide) (by decide)
    have g3 := g 2 3 (by decide) (by decide)
    have g4 := g 2 4 (by decide) (by decide)
    have h0 := (g 0 2 (by decide) (by decide)).2.2.1
    have h1 := (g 1 2 (by decide) (by decide)).2.2.1
    have d := g2.2.2.2 rfl
    unfold tw
    simp only [Nat.reduceAdd]
    generalize nAll B 2 = N at *
    (repeat' split) <;> omega
  · have h := (g 2 3 (by decide) (by decide)).2.2.1
    rw [if_neg (by decide), tl12]
    try simp only [Nat.reduceAdd]
    try omega
  · have h := (g 2 4 (by decide) (by decide)).2.2.1
    rw [if_neg (by decide), tl13]
    try simp only [Nat.reduceAdd]
    try omega
  · have h := (g 3 1 (by decide) (by decide)).2.2.1
    rw [if_neg (by decide), tl20]
    try simp only [Nat.reduceAdd]
    try omega
  · have h := (g 3 2 (by decide) (by decide)).2.2.1
    rw [if_neg (by decide), tl21]
    try simp only [Nat.reduceAdd]
    try omega
  · rw [if_pos rfl, tl22]
    have n := nAll_e B 3
    have g0 := g 3 0 (by decide) (by decide)
    have g1 := g 3 1 (by decide) (by decide)
    have g2 := g 3 2 (by decide) (by decide)
    have g3 := g 3 3 (by decide) (by decide)
    have g4 := g 3 4 (by decide) (by decide)
    have h0 := (g 0 3 (by decide) (by decide)).2.2.1
    have h1 := (g 1 3 (by decide) (by decide)).2.2.1
    have h2 := (g 2 3 (by decide) (by decide)).2.2.1
    have d := g3.2.2.2 rfl
    unfold tw
    simp only [Nat.reduceAdd]
    generalize nAll B 3 = N at *
    (repeat' split) <;> omega
  · have h := (g 3 4 (by decide) (by decide)).2.2.1
    rw [if_neg (by decide), tl23]
    try simp only [Nat.reduceAdd]
    try omega
  · have h := (g 4 1 (by decide) (by decide)).2.2.1
    rw [if_neg (by decide), tl30]
    try simp only [Nat.reduceAdd]
    try omega
  · have h := (g 4 2 (by decide) (by decide)).2.2.1
    rw [if_neg (by decide), tl31]
    try simp only [Nat.reduceAdd]
    try omega
  · have h := (g 4 3 (by decide) (by decide)).2.2.1
    rw [if_neg (by decide), tl32]
    try simp only [Nat.reduceAdd]
    try omega
  · rw [if_pos rfl, tl33]
    have n := nAll_e B 4
    have g0 := g 4 0 (by decide) (by decide)
    have g1 := g 4 1 (by decide) (by decide)
    have g2 := g 4 2 (by decide) (by decide)
    have g3 := g 4 3 (by decide) (by decide)
    have g4 := g 4 4 (by decide) (by decide)
    have h0 := (g 0 4 (by decide) (by decide)).2.2.1
    have h1 := (g 1 4 (by decide) (by decide)).2.2.1
    have h2 := (g 2 4 (by decide) (by decide)).2.2.1
    have h3 := (g 3 4 (by decide) (by decide)).2.2.1
    have d := g4.2.2.2 rfl
    unfold tw
    simp only [Nat.reduceAdd]
    generalize nAll B 4 = N at *
    (repeat' split) <;> omega
theorem tw_b (g : gOk B) {i : Nat} (hi : i < 5) : 0 ≤ tw B i := by
  have := g 0 i (by decide) hi
  unfold tw
  split <;> omega
theorem tT_D4 (g : gOk B) : tT (tL B) = tD4 (tL B) := by
  rw [tT_cg (tM_e g), tD4_cg (tM_e g)]
  have d := (tL_b g).2
  have w := fun i (hi : i < 5) => tw_b g hi
  have e := tM_e g
  have b := fun i j (hi : i < 5) (hj : j < 5) => (g i j hi hj).1
  have d1 : 1 ≤ tM B 0 0 := by
    rw [← e 0 0 (by decide) (by decide)]
    exact d
  have dd : ∀ i, i < 4 → 1 ≤ tM B i i := fun i hi => by
    rw [← e i i hi hi]
    unfold tL
    rw [if_pos rfl]
    split <;> omega
  exact tT_4 (w 1 (by decide)) (w 2 (by decide)) (w 3 (by decide)) (b 1 2 (by decide) (by decide)) (b 1 3 (by decide) (by decide)) (b 1 4 (by decide) (by decide)) (b 2 3 (by decide) (by decide)) (b 2 4 (by decide) (by decide)) (b 3 4 (by decide) (by decide)) (dd 0 (by decide)) (dd 1 (by decide)) (dd 2 (by decide))
/-- not connected: no tree -/
theorem tD4_0 (g : gOk B) (h : ¬ ∀ v, v < 5 → nHv B v → iB ((nNr B 0 4 : Nat) : Int) v) : tD4 (tL B) = 0 := by
  rw [tD4_cg (tM_e g)]
  have z0 : m5 (nNr B 0 4) 0 := nNr_mono (B := B) (by decide : 0 < 5) (by decide : 0 < 5) 0 4 ((m5_p ⟨0, by decide⟩ ⟨0, by decide⟩).mpr rfl)
  have cl : ∀ u v, u < 5 → v < 5 → m5 (nNr B 0 4) u → 0 < B v u → m5 (nNr B 0 4) v := fun u v hu hv m e => nNr_cl g (by decide) hu hv m e
  have hv1 : ∀ i j, i < 5 → j < 5 → 0 < B i j → nHv B i := fun i j hi hj e => Or.inr ((nCe_pos g hi _).mpr ⟨j, hj, i_31 ⟨j, hj⟩, e⟩)
  obtain ⟨c, hc⟩ : ∃ c : Nat → Bool, c = fun v => z_dec (nHv B v ∧ ¬ m5 (nNr B 0 4) v) := ⟨_, rfl⟩
  have ct : ∀ v, c v = true → nHv B v ∧ ¬ m5 (nNr B 0 4) v := fun v q => by
    rw [hc] at q
    exact (z_dec_iff _).mp q
  have cf : ∀ v, c v = false → ¬ (nHv B v ∧ ¬ m5 (nNr B 0 4) v) := fun v q => by
    rw [hc] at q
    exact (z_dec_f _).mp q
  have pr : ∀ i j, i < 5 → j < 5 → c i ≠ c j → B i j = 0 := fun i j hi hj ne => by
    have gg := g i j hi hj
    refine Classical.byContradiction fun nz => ?_
    have pos : 0 < B i j := by omega
    have pos' : 0 < B j i := by omega
    have key : ∀ x y, x < 5 → y < 5 → 0 < B x y → 0 < B y x → c x = true → c y = false → False := fun x y hx hy p1 p2 q1 q2 => by
      have w1 := ct x q1
      have w2 := cf y q2
      have r : m5 (nNr B 0 4) y := Classical.byContradiction fun w => w2 ⟨hv1 y x hy hx p2, w⟩
      exact w1.2 (cl y x hy hx r p1)
    cases ci : c i with
    | true =>
      cases cj : c j with
      | true => exact ne (by rw [ci, cj])
      | false => exact key i j hi hj pos pos' ci cj
    | false =>
      cases cj : c j with
      | true => exact key j i hj hi pos' pos cj ci
      | false => exact ne (by rw [ci, cj])
  have wz : ∀ i, 0 < i → i < 5 → c i = true → tw B i = 0 := fun i h0 hi q => by
    have w := ct i q
    have p : 0 < nAll B i := w.1.resolve_left (by omega)
    have gg := g 0 i (by decide) hi
    unfold tw
    rw [if_neg (by omega)]
    refine Classical.byContradiction fun nz => w.2 (cl 0 i (by decide) hi z0 (by omega))
  have ne : (c 1 || c 2 || c 3 || c 4) = true := by
    refine Classical.byContradiction fun no => h (fun v hv hn => ?_)
    simp only [Bool.or_eq_true, not_or] at no
    refine Classical.byContradiction fun w => ?_
    have q : c v = true := by
      rw [hc]
      exact (z_dec_iff _).mpr ⟨hn, w⟩
    have vc : v = 0 ∨ v = 1 ∨ v = 2 ∨ v = 3 ∨ v = 4 := by omega
    rcases vc with rfl | rfl | rfl | rfl | rfl
    · exact w z0
    · exact no.1.1.1 q
    · exact no.1.1.2 q
    · exact no.1.2 q
    · exact no.2 q
  exact tLm_c (c 1) (c 2) (c 3) (c 4) ne (wz 1 (by decide) (by decide)) (wz 2 (by decide) (by decide)) (wz 3 (by decide) (by decide)) (wz 4 (by decide) (by decide)) (pr 1 2 (by decide) (by decide)) (pr 1 3 (by decide) (by decide)) (pr 1 4 (by decide) (by decide)) (pr 2 3 (by decide) (by decide)) (pr 2 4 (by decide) (by decide)) (pr 3 4 (by decide) (by decide))
theorem tL_sm {B' : Nat → Nat → Int} (e : kSm B B') : ∀ x y, x < 4 → y < 4 → tL B x y = tL B' x y := fun x y hx hy => by
  unfold tL
  rw [show nAll B (x + 1) = nAll B' (x + 1) from nCe_cg e (by omega) _ 5 (by omega), e (x + 1) (y + 1) (by omega) (by omega)]
theorem k_C24 : ∀ j, j < 4 → ∀ f, k_C (24 + j) f = .inr (0, 4, f) := fun j hj f => by
  obtain rfl | rfl | rfl | rfl : j = 0 ∨ j = 1 ∨ j = 2 ∨ j = 3 := by omega
  all_goals rfl
/-- a heap in which the minors alone have changed -/
theorem k_backD {P D : Nat → Nat → Int} {C N : Nat → Int} {h' : z_Hp} (a : nAt h' B C N P D) (f : z_fr tFr (k_W X S) h') : h' = k_W X (fun q => if 24 ≤ q ∧ q < 28 then D (q - 24) else S q) := by
  have hf : ∀ q, ¬ (24 ≤ q ∧ q < 28) → h'[q]? = (k_W X S)[q]? := fun q h1 => f q h1
  refine k_ext (T := S) (fun x hx => ?_) (fun x hx => hf x (by omega))
  · by_cases c : 24 ≤ x ∧ x < 28
    · obtain ⟨y, rfl⟩ : ∃ y, x = 24 + y := ⟨x - 24, by omega⟩
      rw [a.2.2.2.2.2.2 y (by omega), k_C24 y (by omega)]
      rw [if_pos c, Nat.add_sub_cancel_left]
    · rw [hf x c, k_get hx, if_neg c]
end GF
