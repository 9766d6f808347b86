/-! CHIPS, the mathematics: ranks -/
section CK
variable {B : Nat → Nat → Int}
theorem hEq.cg {X X' W : Nat → Int} (e : ∀ v, v < 5 → X' v = X v) (h : hEq B X W) : hEq B X' W := by
  obtain ⟨f, hf⟩ := h
  exact ⟨f, fun v hv => by rw [hf v hv, e v hv]⟩
theorem hEq.ad {X W : Nat → Int} (a : Nat → Int) (h : hEq B X W) : hEq B (fun v => X v - a v) (fun v => W v - a v) := by
  obtain ⟨f, hf⟩ := h
  exact ⟨f, fun v hv => by simp only; rw [hf v hv]; omega⟩
/-- what is left at 0, of chips that are reduced there -/
def cLf (B : Nat → Nat → Int) (X : Nat → Int) (x : Int) : Prop := ∃ W, hEq B X W ∧ cRd B 0 W ∧ W 0 = x
theorem cLf.eq {X X' : Nat → Int} {x : Int} (e : hEq B X X') (h : cLf B X' x) : cLf B X x := by
  obtain ⟨W, h1, h2, h3⟩ := h
  exact ⟨W, e.tr h1, h2, h3⟩
theorem cLf.cg {X X' : Nat → Int} {x : Int} (e : ∀ v, v < 5 → X' v = X v) (h : cLf B X x) : cLf B X' x := by
  obtain ⟨W, h1, h2, h3⟩ := h
  exact ⟨W, h1.cg e, h2, h3⟩
theorem cLf.un (c : cOk B 0) {X : Nat → Int} {x y : Int} (h1 : cLf B X x) (h2 : cLf B X y) : x = y := by
  obtain ⟨W, a1, a2, a3⟩ := h1
  obtain ⟨U, b1, b2, b3⟩ := h2
  rw [← a3, ← b3]
  exact cRd.un c.1 b2 a2 (b1.sy.tr a1) (by omega) c.2.2.1 0 (by omega)
theorem cRd.at0 {W : Nat → Int} (h : cRd B 0 W) (m : Int) : cRd B 0 (fun v => W v - (if v = 0 then m else 0)) := by
  have e : ∀ v, v ≠ 0 → W v - (if v = 0 then m else 0) = W v := fun v hv => by rw [if_neg hv]; omega
  refine ⟨fun v hv hne hn => by simp only; rw [e v hne]; exact h.1 v hv hne hn, fun s hs h1 h2 => h.2 s hs h1 (fun v hv mv => ?_)⟩
  have := h2 v hv mv
  simp only at this
  rwa [e v (h1 v hv mv).2] at this
theorem cLf.at0 {X : Nat → Int} {x : Int} (h : cLf B X x) (m : Int) : cLf B (fun v => X v - (if v = 0 then m else 0)) (x - m) := by
  obtain ⟨W, a1, a2, a3⟩ := h
  refine ⟨_, a1.ad (fun v => if v = 0 then m else 0), a2.at0 m, ?_⟩
  simp only [if_true]
  rw [a3]
theorem cRd.hi {q : Nat} (h : gOk B) {W : Nat → Int} (r : cRd B q W) {v : Nat} (hv : v < 5) (hne : v ≠ q) (hn : nHv B v) : W v ≤ 11 := by
  refine Classical.byContradiction (fun c => ?_)
  have p := m5_p ⟨v, hv⟩
  simp only at p
  have := r.2 (2 ^ v) (p2_b ⟨v, hv⟩) (fun u hu mu => by have e := (p ⟨u, hu⟩).mp mu; simp only at e; subst e; exact ⟨hn, hne⟩) (fun u hu mu => ?_)
  · have z : ∀ x : Fin 5, 2 ^ x.val ≠ 0 := by decide
    exact z ⟨v, hv⟩ this
  · have e := (p ⟨u, hu⟩).mp mu
    simp only at e
    subst e
    rw [nCe_5]
    have : s5 (fun w => if iB (-((2 ^ u : Nat) : Int) - 1) w then B u w else 0) ≤ s5 (fun w => if w = u then 0 else 3) := s5_le (fun w hw => by
      have b := h u w hu hw
      by_cases e : w = u
      · have := b.2.2.2 e.symm
        rw [if_pos e]
        split <;> omega
      · rw [if_neg e]
        split <;> omega)
    have t : s5 (fun w => if w = u then 0 else 3) = 12 := by
      simp only [s5]
      rcases (show u = 0 ∨ u = 1 ∨ u = 2 ∨ u = 3 ∨ u = 4 by omega) with rfl | rfl | rfl | rfl | rfl <;> simp
    omega
/-- the degree, and that firing keeps it -/
theorem nDg_s (V : Nat → Int) (k : Nat) : nDg B V (k + 1) = nDg B V k + (if z_dec (nHv B k) = true then V k else 0) := by
  rw [nDg]
  split <;> simp
theorem nDg_5 (V : Nat → Int) : nDg B V 5 = s5 (fun v => if z_dec (nHv B v) = true then V v else 0) := by
  rw [nDg_s, nDg_s, nDg_s, nDg_s, nDg_s, nDg]
  simp only [s5]
  omega
theorem nDg_eq (h : gOk B) {V W : Nat → Int} (e : hEq B V W) : nDg B W 5 = nDg B V 5 := by
  obtain ⟨f, hf⟩ := e
  have t : nDg B W 5 = nDg B V 5 - s5 (fun v => cL B f v) := by
    rw [nDg_5, nDg_5, ← s5_sub]
    refine s5_eq (fun v hv => ?_)
    split
    · exact hf v hv
    · next n => rw [cL_iso h hv (fun w => n ((z_dec_iff _).mpr w))]; rfl
  rw [t, cL_sm h]
  omega
theorem cRd.z {W : Nat → Int} (h : gOk B) (r : cRd B 0 W) : W 0 ≤ nDg B W 5 ∧ nDg B W 5 ≤ W 0 + 44 := by
  have z : z_dec (nHv B 0) = true := (z_dec_iff _).mpr (Or.inl rfl)
  have t : ∀ v, v < 5 → v ≠ 0 → 0 ≤ (if z_dec (nHv B v) = true then W v else 0) ∧ (if z_dec (nHv B v) = true then W v else 0) ≤ 11 := fun v hv hne => by
    split
    · next n => exact ⟨r.1 v hv hne ((z_dec_iff _).mp n), r.hi h hv hne ((z_dec_iff _).mp n)⟩
    · omega
  have t1 := t 1 (by omega) (by omega)
  have t2 := t 2 (by omega) (by omega)
  have t3 := t 3 (by omega) (by omega)
  have t4 := t 4 (by omega) (by omega)
  rw [nDg_5]
  simp only [s5]
  rw [if_pos z]
  omega
/-- edges that touch a set -/
def cTe (B : Nat → Nat → Int) (P : Nat → Bool) : Int :=
  (if P 0 || P 1 then B 0 1 else 0) + (if P 0 || P 2 then B 0 2 else 0) + (if P 0 || P 3 then B 0 3 else 0) + (if P 0 || P 4 then B 0 4 else 0) + (if P 1 || P 2 then B 1 2 else 0) + (if P 1 || P 3 then B 1 3 else 0) + (if P 1 || P 4 then B 1 4 else 0) + (if P 2 || P 3 then B 2 3 else 0) + (if P 2 || P 4 then B 2 4 else 0) + (if P 3 || P 4 then B 3 4 else 0)
def m5b (s u : Nat) : Bool := decide (m5 s u)
theorem cTe_rm (h : gOk B) {s v : Nat} (hs : s < 32) (hv : v < 5) (m : m5 s v) : cTe B (m5b s) = cTe B (m5b (s - 2 ^ v)) + nCe B v (-(s : Int) - 1) 5 := by
  have e : ∀ u, u < 5 → m5b (s - 2 ^ v) u = (m5b s u && !decide (u = v)) := fun u hu => by
    have := m5_sub ⟨s, hs⟩ ⟨v, hv⟩ ⟨u, hu⟩ m
    simp only at this
    unfold m5b
    rw [decide_eq_decide.mpr this, Bool.decide_and]
    simp
  have n : ∀ u, u < 5 → (if iB (-(s : Int) - 1) u then B v u else 0) = if m5b s u = true then 0 else B v u := fun u hu => by
    have := m5_not ⟨s, hs⟩ ⟨u, hu⟩
    simp only at this
    unfold m5b
    by_cases c : m5 s u
    · rw [if_neg (fun w => this.mp w c), if_pos (by simpa using c)]
    · rw [if_pos (this.mpr c), if_neg (by simpa using c)]
  have mv : m5b s v = true := by simpa [m5b] using m
  rw [nCe_5, s5_eq n]
  simp only [cTe, s5]
  rw [e 0 (by omega), e 1 (by omega), e 2 (by omega), e 3 (by omega), e 4 (by omega)]
  have b01 := (h 0 1 (by omega) (by omega)).2.2.1
  have b02 := (h 0 2 (by omega) (by omega)).2.2.1
  have b03 := (h 0 3 (by omega) (by omega)).2.2.1
  have b04 := (h 0 4 (by omega) (by omega)).2.2.1
  have b12 := (h 1 2 (by omega) (by omega)).2.2.1
  have b13 := (h 1 3 (by omega) (by omega)).2.2.1
  have b14 := (h 1 4 (by omega) (by omega)).2.2.1
  have b23 := (h 2 3 (by omega) (by omega)).2.2.1
  have b24 := (h 2 4 (by omega) (by omega)).2.2.1
  have b34 := (h 3 4 (by omega) (by omega)).2.2.1
  rcases (show v = 0 ∨ v = 1 ∨ v = 2 ∨ v = 3 ∨ v = 4 by omega) with rfl | rfl | rfl | rfl | rfl <;> simp only [mv] <;>
    (generalize m5b s 0 = p0 at *) <;> (generalize m5b s 1 = p1 at *) <;> (generalize m5b s 2 = p2 at *) <;> (generalize m5b s 3 = p3 at *) <;> (generalize m5b s 4 = p4 at *) <;>
    cases p0 <;> cases p1 <;> cases p2 <;> cases p3 <;> cases p4 <;> simp_all <;> omega
theorem cRd.sum (h : gOk B) {W : Nat → Int} (r : cRd B 0 W) : ∀ n s : Nat, nb s = n → s < 32 → (∀ v, v < 5 → m5 s v → nHv B v ∧ v ≠ 0) → s5 (fun v => if m5 s v then W v else 0) ≤ cTe B (m5b s) - (n : Int) := by
  intro n
  induction n with
  | zero =>
    intro s hn hs hm
    have z := nb_0 ⟨s, hs⟩ hn
    simp only at z
    subst z
    have e : s5 (fun v => if m5 0 v then W v else 0) = 0 := s5_0 (fun u hu => if_neg (m5_0 ⟨u, hu⟩))
    rw [e]
    have : cTe B (m5b 0) = 0 := by
      have z : ∀ u, u < 5 → m5b 0 u = false := fun u hu => by simpa [m5b] using m5_0 ⟨u, hu⟩
      unfold cTe
      rw [z 0 (by omega), z 1 (by omega), z 2 (by omega), z 3 (by omega), z 4 (by omega)]
      simp
    omega
  | succ n ih =>
    intro s hn hs hm
    have hne : s ≠ 0 := by
      rintro rfl
      have : nb 0 = 0 := by decide
      omega
    have ex : ∃ v, v < 5 ∧ m5 s v ∧ W v < nCe B v (-(s : Int) - 1) 5 := Classical.byContradiction (fun c => hne (r.2 s hs hm (fun v hv mv => by
      rcases Int.lt_or_le (W v) (nCe B v (-(s : Int) - 1) 5) with l | l
      · exact absurd ⟨v, hv, mv, l⟩ c
      · exact l)))
    obtain ⟨v, hv, mv, l⟩ := ex
    have r1 := nb_rm ⟨s, hs⟩ ⟨v, hv⟩ mv
    simp only at r1
    have sm := fun u hu => m5_sub ⟨s, hs⟩ ⟨v, hv⟩ ⟨u, hu⟩ mv
    simp only at sm
    have i := ih (s - 2 ^ v) (by omega) (Nat.lt_of_le_of_lt (Nat.sub_le _ _) hs) (fun u hu mu => hm u hu ((sm u hu).mp mu).1)
    have t := cTe_rm h hs hv mv
    have e : s5 (fun u => if m5 s u then W u else 0) = s5 (fun u => if m5 (s - 2 ^ v) u then W u else 0) + s5 (fun u => if u = v then W v else 0) := by
      rw [← s5_add]
      refine s5_eq (fun u hu => ?_)
      have q := sm u hu
      by_cases c : u = v
      · subst c
        rw [if_pos mv, if_neg (fun w => (q.mp w).2 rfl), if_pos rfl]
        omega
      · rw [if_neg c]
        by_cases d : m5 s u
        · rw [if_pos d, if_pos (q.mpr ⟨d, c⟩)]
          omega
        · rw [if_neg d, if_neg (fun w => d (q.mp w).1)]
          rfl
    have ev : s5 (fun u => if u = v then W v else 0) = W v := by
      simp only [s5]
      rcases (show v = 0 ∨ v = 1 ∨ v = 2 ∨ v = 3 ∨ v = 4 by omega) with rfl | rfl | rfl | rfl | rfl <;> simp
    omega
theorem nSm_2 (h : gOk B) : nSm B 5 = 2 * (B 0 1 + B 0 2 + B 0 3 + B 0 4 + B 1 2 + B 1 3 + B 1 4 + B 2 3 + B 2 4 + B 3 4) := by
  simp only [nSm, nAll_5, s5]
  have b01 := (h 0 1 (by omega) (by omega)).2.2.1
  have b02 := (h 0 2 (by omega) (by omega)).2.2.1
  have b03 := (h 0 3 (by omega) (by omega)).2.2.1
  have b04 := (h 0 4 (by omega) (by omega)).2.2.1
  have b12 := (h 1 2 (by omega) (by omega)).2.2.1
  have b13 := (h 1 3 (by omega) (by omega)).2.2.1
  have b14 := (h 1 4 (by omega) (by omega)).2.2.1
  have b23 := (h 2 3 (by omega) (by omega)).2.2.1
  have b24 := (h 2 4 (by omega) (by omega)).2.2.1
  have b34 := (h 3 4 (by omega) (by omega)).2.2.1
  have d0 := (h 0 0 (by omega) (by omega)).2.2.2 rfl
  have d1 := (h 1 1 (by omega) (by omega)).2.2.2 rfl
  have d2 := (h 2 2 (by omega) (by omega)).2.2.2 rfl
  have d3 := (h 3 3 (by omega) (by omega)).2.2.2 rfl
  have d4 := (h 4 4 (by omega) (by omega)).2.2.2 rfl
  omega
theorem nEd_e (h : gOk B) : nEd B = B 0 1 + B 0 2 + B 0 3 + B 0 4 + B 1 2 + B 1 3 + B 1 4 + B 2 3 + B 2 4 + B 3 4 := by
  unfold nEd
  rw [nSm_2 h, Int.mul_tdiv_cancel_left _ (by decide)]
/-- reduced chips are no more than the genus, beside 0 -/
theorem cRd.gn (h : gOk B) {W : Nat → Int} (r : cRd B 0 W) : nDg B W 5 - W 0 ≤ nGn B := by
  obtain ⟨s, hs, ms⟩ := m5_of (fun v => nHv B v ∧ v ≠ 0)
  have su := r.sum h (nb s) s rfl hs (fun v hv mv => (ms v hv).mp mv)
  have z : nHv B 0 := Or.inl rfl
  have e1 : nDg B W 5 = W 0 + s5 (fun v => if m5 s v then W v else 0) := by
    rw [nDg_5]
    have : s5 (fun v => if z_dec (nHv B v) = true then W v else 0) = s5 (fun v => (if v = 0 then W 0 else 0) + (if m5 s v then W v else 0)) := s5_eq (fun v hv => by
      have q := ms v hv
      by_cases e : v = 0
      · subst e
        rw [if_pos ((z_dec_iff _).mpr z), if_pos rfl, if_neg (fun w => (q.mp w).2 rfl)]
        omega
      · rw [if_neg e]
        by_cases n : nHv B v
        · rw [if_pos ((z_dec_iff _).mpr n), if_pos (q.mpr ⟨n, e⟩)]
          omega
        · rw [if_neg (fun w => n ((z_dec_iff _).mp w)), if_neg (fun w => n (q.mp w).1)]
          rfl)
    rw [this, s5_add]
    have z0 : s5 (fun v => if v = 0 then W 0 else 0) = W 0 := by simp [s5]
    rw [z0]
  have e2 : z_cnt (fun v => z_dec (nHv B v)) 5 = (nb s : Int) + 1 := by
    have c : ∀ v, v < 5 → (if z_dec (nHv B v) = true then (1 : Int) else 0) = if s.testBit v = true ∨ v = 0 then 1 else 0 := fun v hv => by
      have q := ms v hv
      have t := m5_nb ⟨s, hs⟩ ⟨v, hv⟩
      simp only at t
      by_cases e : v = 0
      · subst e
        rw [if_pos ((z_dec_iff _).mpr z), if_pos (Or.inr rfl)]
      · by_cases n : nHv B v
        · rw [if_pos ((z_dec_iff _).mpr n), if_pos (Or.inl (t.mp (q.mpr ⟨n, e⟩)))]
        · rw [if_neg (fun w => n ((z_dec_iff _).mp w)), if_neg (fun w => w.elim (fun w => n (q.mp (t.mpr w)).1) e)]
    have nz : s.testBit 0 = false := by
      have t := m5_nb ⟨s, hs⟩ ⟨0, by omega⟩
      simp only at t
      rw [Bool.eq_false_iff]
      exact fun w => ((ms 0 (by omega)).mp (t.mpr w)).2 rfl
    have k : ∀ s : Fin 32, s.val.testBit 0 = false → (0 : Int) + (if s.val.testBit 0 = true ∨ 0 = 0 then 1 else 0) + (if s.val.testBit 1 = true ∨ 1 = 0 then 1 else 0) + (if s.val.testBit 2 = true ∨ 2 = 0 then 1 else 0) + (if s.val.testBit 3 = true ∨ 3 = 0 then 1 else 0) + (if s.val.testBit 4 = true ∨ 4 = 0 then 1 else 0) = (nb s.val : Int) + 1 := by decide
    have := k ⟨s, hs⟩ nz
    simp only [z_cnt]
    rw [c 0 (by omega), c 1 (by omega), c 2 (by omega), c 3 (by omega), c 4 (by omega)]
    exact this
  have e3 : cTe B (m5b s) ≤ nEd B := by
    rw [nEd_e h]
    unfold cTe
    have g : ∀ i j, i < 5 → j < 5 → ∀ b : Bool, (if b = true then B i j else 0) ≤ B i j := fun i j hi hj b => by
      have := (h i j hi hj).1
      split <;> omega
    have g1 := g 0 1 (by omega) (by omega) (m5b s 0 || m5b s 1)
    have g2 := g 0 2 (by omega) (by omega) (m5b s 0 || m5b s 2)
    have g3 := g 0 3 (by omega) (by omega) (m5b s 0 || m5b s 3)
    have g4 := g 0 4 (by omega) (by omega) (m5b s 0 || m5b s 4)
    have g5 := g 1 2 (by omega) (by omega) (m5b s 1 || m5b s 2)
    have g6 := g 1 3 (by omega) (by omega) (m5b s 1 || m5b s 3)
    have g7 := g 1 4 (by omega) (by omega) (m5b s 1 || m5b s 4)
    have g8 := g 2 3 (by omega) (by omega) (m5b s 2 || m5b s 3)
    have g9 := g 2 4 (by omega) (by omega) (m5b s 2 || m5b s 4)
    have g0 := g 3 4 (by omega) (by omega) (m5b s 3 || m5b s 4)
    omega
  unfold nGn
  rw [e1, e2]
  omega
end CK
