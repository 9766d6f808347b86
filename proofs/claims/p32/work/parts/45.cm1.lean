/-! CHIPS, the mathematics: sums over five, sets as numbers, what a firing does, what is reduced is so in one way -/
def gOk (B : Nat → Nat → Int) : Prop := ∀ i j, i < 5 → j < 5 → 0 ≤ B i j ∧ B i j ≤ 3 ∧ B i j = B j i ∧ (i = j → B i j = 0)
theorem gOk.bd {B : Nat → Nat → Int} (h : gOk B) : nBd B := fun i j hi hj => ⟨(h i j hi hj).1, by have := (h i j hi hj).2.1; omega⟩
def s5 (F : Nat → Int) : Int := F 0 + F 1 + F 2 + F 3 + F 4
theorem s5_le {F G : Nat → Int} (h : ∀ u, u < 5 → F u ≤ G u) : s5 F ≤ s5 G := by
  have h0 := h 0 (by decide)
  have h1 := h 1 (by decide)
  have h2 := h 2 (by decide)
  have h3 := h 3 (by decide)
  have h4 := h 4 (by decide)
  simp only [s5]
  omega
theorem s5_eq {F G : Nat → Int} (h : ∀ u, u < 5 → F u = G u) : s5 F = s5 G := by
  simp only [s5]
  rw [h 0 (by decide), h 1 (by decide), h 2 (by decide), h 3 (by decide), h 4 (by decide)]
theorem s5_add (F G : Nat → Int) : s5 (fun u => F u + G u) = s5 F + s5 G := by
  simp only [s5]
  omega
theorem s5_sub (F G : Nat → Int) : s5 (fun u => F u - G u) = s5 F - s5 G := by
  simp only [s5]
  omega
theorem s5_neg (F : Nat → Int) : s5 (fun u => - F u) = - s5 F := by
  simp only [s5]
  omega
theorem s5_mul (c : Int) (F : Nat → Int) : s5 (fun u => c * F u) = c * s5 F := by
  simp only [s5]
  simp only [Int.mul_add]
theorem s5_comm (F : Nat → Nat → Int) : s5 (fun v => s5 (fun u => F v u)) = s5 (fun u => s5 (fun v => F v u)) := by
  simp only [s5]
  omega
theorem s5_0 {F : Nat → Int} (h : ∀ u, u < 5 → F u = 0) : s5 F = 0 := by
  rw [s5_eq h]
  rfl
theorem s5_one {F : Nat → Int} {k : Nat} (hk : k < 5) (h : ∀ u, u < 5 → 0 ≤ F u) : F k ≤ s5 F := by
  have h0 := h 0 (by decide)
  have h1 := h 1 (by decide)
  have h2 := h 2 (by decide)
  have h3 := h 3 (by decide)
  have h4 := h 4 (by decide)
  simp only [s5]
  rcases (show k = 0 ∨ k = 1 ∨ k = 2 ∨ k = 3 ∨ k = 4 by omega) with rfl | rfl | rfl | rfl | rfl <;> omega
/-- a set's member -/
abbrev m5 (s u : Nat) : Prop := iB (s : Int) u
theorem m5_not : ∀ (s : Fin 32) (u : Fin 5), iB (-(s.val : Int) - 1) u.val ↔ ¬ m5 s.val u.val := by decide
theorem m5_ext : ∀ (s : Fin 32), (∀ u : Fin 5, ¬ m5 s.val u.val) → s.val = 0 := by decide
theorem m5_0 : ∀ u : Fin 5, ¬ m5 0 u.val := by decide
theorem m5_p : ∀ x u : Fin 5, m5 (2 ^ x.val) u.val ↔ u.val = x.val := by decide
theorem m5_sub : ∀ (s : Fin 32) (v u : Fin 5), m5 s.val v.val → (m5 (s.val - 2 ^ v.val) u.val ↔ m5 s.val u.val ∧ u.val ≠ v.val) := by decide +kernel
theorem m5_or : ∀ (s : Fin 32) (v u : Fin 5), m5 (s.val ||| 2 ^ v.val) u.val ↔ m5 s.val u.val ∨ u.val = v.val := by decide +kernel
theorem m5_31 : ∀ (s : Fin 32) (u : Fin 5), m5 (31 - s.val) u.val ↔ ¬ m5 s.val u.val := by decide
theorem m5_dif : ∀ (s t : Fin 32) (u : Fin 5), m5 (s.val - (s.val &&& t.val)) u.val ↔ m5 s.val u.val ∧ ¬ m5 t.val u.val := by decide +kernel
theorem m5_nb : ∀ (s : Fin 32) (v : Fin 5), m5 s.val v.val ↔ s.val.testBit v.val = true := by decide
theorem nb_4 : ∀ (s : Fin 32) (v : Fin 5), ¬ m5 s.val v.val → nb s.val ≤ 4 := by decide
theorem nb_5 : ∀ (s : Fin 32), 5 ≤ nb s.val → ∀ v : Fin 5, m5 s.val v.val := by decide
theorem nb_or : ∀ (s : Fin 32) (v : Fin 5), s.val ||| 2 ^ v.val = s.val ∨ nb (s.val ||| 2 ^ v.val) = nb s.val + 1 := by decide
theorem nb_0 : ∀ (s : Fin 32), nb s.val = 0 → s.val = 0 := by decide
def mkS (b0 b1 b2 b3 b4 : Bool) : Nat := b0.toNat + 2 * b1.toNat + 4 * b2.toNat + 8 * b3.toNat + 16 * b4.toNat
theorem mkS_m : ∀ b0 b1 b2 b3 b4 : Bool, mkS b0 b1 b2 b3 b4 < 32 ∧ (m5 (mkS b0 b1 b2 b3 b4) 0 ↔ b0 = true) ∧ (m5 (mkS b0 b1 b2 b3 b4) 1 ↔ b1 = true) ∧ (m5 (mkS b0 b1 b2 b3 b4) 2 ↔ b2 = true) ∧ (m5 (mkS b0 b1 b2 b3 b4) 3 ↔ b3 = true) ∧ (m5 (mkS b0 b1 b2 b3 b4) 4 ↔ b4 = true) := by decide
theorem m5_of (P : Nat → Prop) : ∃ s, s < 32 ∧ ∀ v, v < 5 → (m5 s v ↔ P v) := by
  obtain ⟨h, h0, h1, h2, h3, h4⟩ := mkS_m (z_dec (P 0)) (z_dec (P 1)) (z_dec (P 2)) (z_dec (P 3)) (z_dec (P 4))
  refine ⟨_, h, fun v hv => ?_⟩
  rcases (show v = 0 ∨ v = 1 ∨ v = 2 ∨ v = 3 ∨ v = 4 by omega) with rfl | rfl | rfl | rfl | rfl
  · exact h0.trans (z_dec_iff _)
  · exact h1.trans (z_dec_iff _)
  · exact h2.trans (z_dec_iff _)
  · exact h3.trans (z_dec_iff _)
  · exact h4.trans (z_dec_iff _)
/-- what f takes -/
def cL (B : Nat → Nat → Int) (f : Nat → Int) (v : Nat) : Int := s5 (fun u => B v u * (f v - f u))
theorem nCe_s (B : Nat → Nat → Int) (v : Nat) (s : Int) (k : Nat) : nCe B v s (k + 1) = nCe B v s k + (if iB s k then B v k else 0) := by
  rw [nCe]
  split <;> simp
theorem nCe_5 (B : Nat → Nat → Int) (v : Nat) (s : Int) : nCe B v s 5 = s5 (fun u => if iB s u then B v u else 0) := by
  rw [nCe_s, nCe_s, nCe_s, nCe_s, nCe_s, nCe]
  simp only [s5]
  omega
theorem nAll_5 (B : Nat → Nat → Int) (v : Nat) : nAll B v = s5 (fun u => B v u) := by
  unfold nAll
  rw [nCe_5]
  exact s5_eq (fun u hu => if_pos (i_31 ⟨u, hu⟩))
def ci1 (s : Nat) (u : Nat) : Int := if m5 s u then 1 else 0
theorem ci1_b (s u : Nat) : 0 ≤ ci1 s u ∧ ci1 s u ≤ 1 := by
  unfold ci1
  split <;> omega
section CM
variable {B : Nat → Nat → Int}
theorem cL_in {s : Nat} (hs : s < 32) {v : Nat} (h : m5 s v) : cL B (ci1 s) v = nCe B v (-(s : Int) - 1) 5 := by
  rw [nCe_5]
  refine s5_eq (fun u hu => ?_)
  have e := m5_not ⟨s, hs⟩ ⟨u, hu⟩
  simp only at e
  unfold ci1
  rw [if_pos h]
  by_cases hm : m5 s u
  · rw [if_pos hm, if_neg (fun w => e.mp w hm)]
    omega
  · rw [if_neg hm, if_pos (e.mpr hm)]
    omega
theorem cL_out {s : Nat} {v : Nat} (h : ¬ m5 s v) : cL B (ci1 s) v = - nCe B v (s : Int) 5 := by
  rw [nCe_5, ← s5_neg]
  refine s5_eq (fun u hu => ?_)
  unfold ci1
  rw [if_neg h]
  by_cases hm : m5 s u
  · rw [if_pos hm, if_pos hm]
    omega
  · rw [if_neg hm, if_neg hm]
    omega
theorem nFi_L {V : Nat → Int} {s : Nat} (hs : s < 32) (t : Int) (v : Nat) : nFi B V s t v = V v - t * cL B (ci1 s) v := by
  unfold nFi
  by_cases h : m5 s v
  · rw [if_pos h, cL_in hs h]
  · rw [if_neg h, cL_out h, Int.mul_neg]
    omega
theorem cL_add (f g : Nat → Int) (v : Nat) : cL B (fun x => f x + g x) v = cL B f v + cL B g v := by
  unfold cL
  rw [← s5_add]
  refine s5_eq (fun u _ => ?_)
  rw [← Int.mul_add]
  congr 1
  dsimp only
  omega
theorem cL_mul (c : Int) (f : Nat → Int) (v : Nat) : cL B (fun x => c * f x) v = c * cL B f v := by
  unfold cL
  rw [← s5_mul]
  refine s5_eq (fun u _ => ?_)
  rw [← Int.mul_sub, Int.mul_left_comm]
theorem cL_c (c : Int) (v : Nat) : cL B (fun _ => c) v = 0 := s5_0 (fun u _ => by simp)
theorem cL_sym (h : gOk B) (f g : Nat → Int) : s5 (fun v => g v * cL B f v) = s5 (fun v => f v * cL B g v) := by
  have e1 : s5 (fun v => g v * cL B f v) - s5 (fun v => f v * cL B g v) = s5 (fun v => s5 (fun u => B v u * (f v * g u - g v * f u))) := by
    rw [← s5_sub]
    refine s5_eq (fun v _ => ?_)
    unfold cL
    rw [← s5_mul, ← s5_mul, ← s5_sub]
    refine s5_eq (fun u _ => ?_)
    simp only [Int.mul_sub]
    rw [Int.mul_left_comm (g v), Int.mul_left_comm (g v), Int.mul_left_comm (f v), Int.mul_left_comm (f v), Int.mul_comm (g v) (f v)]
    omega
  have e2 : s5 (fun v => s5 (fun u => B v u * (f v * g u - g v * f u))) = - s5 (fun v => s5 (fun u => B v u * (f v * g u - g v * f u))) := by
    refine (s5_comm _).trans ?_
    rw [← s5_neg]
    refine s5_eq (fun v hv => ?_)
    rw [← s5_neg]
    refine s5_eq (fun u hu => ?_)
    rw [(h u v hu hv).2.2.1, ← Int.mul_neg]
    congr 1
    rw [Int.mul_comm (f u) (g v), Int.mul_comm (g u) (f v)]
    omega
  omega
theorem hv_e (h : gOk B) {u v : Nat} (hu : u < 5) (hv : v < 5) (e : 0 < B v u) : nHv B u ∧ nHv B v := by
  have a : ∀ x y, x < 5 → y < 5 → 0 < B x y → 0 < nAll B x := fun x y hx hy e => by
    rw [nAll_5]
    have := s5_one (F := fun u => B x u) hy (fun u hu => (h x u hx hu).1)
    omega
  refine ⟨Or.inr (a u v hu hv ?_), Or.inr (a v u hv hu e)⟩
  rw [(h u v hu hv).2.2.1]
  exact e
/-- ALIKE -/
def hEq (B : Nat → Nat → Int) (V W : Nat → Int) : Prop := ∃ f : Nat → Int, ∀ v, v < 5 → W v = V v - cL B f v
theorem hEq.rf (V : Nat → Int) : hEq B V V := ⟨fun _ => 0, fun v _ => by rw [cL_c]; omega⟩
theorem hEq.tr {U V W : Nat → Int} (a : hEq B U V) (b : hEq B V W) : hEq B U W := by
  obtain ⟨f, hf⟩ := a
  obtain ⟨g, hg⟩ := b
  refine ⟨fun x => f x + g x, fun v hv => ?_⟩
  rw [cL_add, hg v hv, hf v hv]
  omega
theorem hEq.sy {U V : Nat → Int} (a : hEq B U V) : hEq B V U := by
  obtain ⟨f, hf⟩ := a
  refine ⟨fun x => -1 * f x, fun v hv => ?_⟩
  rw [cL_mul, hf v hv]
  omega
theorem hEq.fi {V W : Nat → Int} {s : Nat} (hs : s < 32) (t : Int) (h : ∀ v, v < 5 → W v = nFi B V s t v) : hEq B V W := ⟨fun x => t * ci1 s x, fun v hv => by rw [h v hv, nFi_L hs, cL_mul]⟩
/-- chips that are reduced at q -/
def cRd (B : Nat → Nat → Int) (q : Nat) (V : Nat → Int) : Prop := (∀ v, v < 5 → v ≠ q → nHv B v → 0 ≤ V v) ∧ ∀ s : Nat, s < 32 → (∀ v, v < 5 → m5 s v → nHv B v ∧ v ≠ q) → (∀ v, v < 5 → m5 s v → nCe B v (-(s : Int) - 1) 5 ≤ V v) → s = 0
theorem mx5 (P : Nat → Prop) (f : Nat → Int) : ∀ n, (∃ v, v < n ∧ P v) → ∃ v, v < n ∧ P v ∧ ∀ u, u < n → P u → f u ≤ f v := by
  intro n
  induction n with
  | zero => rintro ⟨v, hv, -⟩; omega
  | succ n ih =>
    rintro ⟨v, hv, pv⟩
    by_cases h : ∃ v, v < n ∧ P v
    · obtain ⟨w, hw, pw, mw⟩ := ih h
      by_cases hn : P n ∧ f w < f n
      · refine ⟨n, by omega, hn.1, fun u hu pu => ?_⟩
        rcases Nat.lt_succ_iff_lt_or_eq.mp hu with h1 | rfl
        · have := mw u h1 pu; omega
        · omega
      · refine ⟨w, by omega, pw, fun u hu pu => ?_⟩
        rcases Nat.lt_succ_iff_lt_or_eq.mp hu with h1 | rfl
        · exact mw u h1 pu
        · rcases Int.lt_or_le (f w) (f u) with h2 | h2
          · exact absurd ⟨pu, h2⟩ hn
          · exact h2
    · have : v = n := by
        rcases Nat.lt_succ_iff_lt_or_eq.mp hv with h1 | h1
        · exact absurd ⟨v, h1, pv⟩ h
        · exact h1
      subst this
      refine ⟨v, by omega, pv, fun u hu pu => ?_⟩
      rcases Nat.lt_succ_iff_lt_or_eq.mp hu with h1 | rfl
      · exact absurd ⟨u, h1, pu⟩ h
      · omega
theorem cRd.top (h : gOk B) {q : Nat} {V W f : Nat → Int} (hV : cRd B q V) (hf : ∀ v, v < 5 → W v = V v - cL B f v) (hW : ∀ v, v < 5 → v ≠ q → nHv B v → 0 ≤ W v) (hq : q < 5) (hq2 : nHv B q) : ∀ v, v < 5 → nHv B v → f v ≤ f q := by
  intro v hv hvv
  obtain ⟨w, hw, pw, mw⟩ := mx5 (nHv B) f 5 ⟨v, hv, hvv⟩
  have key : f w ≤ f q := by
    rcases Int.lt_or_le (f q) (f w) with hlt | hle
    · exfalso
      obtain ⟨s, hs, ms⟩ := m5_of (fun u => nHv B u ∧ f u = f w)
      have := hV.2 s hs (fun u hu mu => ⟨((ms u hu).mp mu).1, fun e => by subst e; have := ((ms u hu).mp mu).2; omega⟩) (fun x hx mx => ?_)
      · subst this
        exact m5_0 ⟨w, hw⟩ ((ms w hw).mpr ⟨pw, rfl⟩)
      · obtain ⟨nx, fx⟩ := (ms x hx).mp mx
        have hwx := hW x hx (fun e => by subst e; omega) nx
        rw [hf x hx] at hwx
        have : nCe B x (-(s : Int) - 1) 5 ≤ cL B f x := by
          rw [nCe_5]
          refine s5_le (fun u hu => ?_)
          have e := m5_not ⟨s, hs⟩ ⟨u, hu⟩
          simp only at e
          by_cases hm : m5 s u
          · rw [if_neg (fun w => e.mp w hm), fx, ((ms u hu).mp hm).2]
            simp
          · rw [if_pos (e.mpr hm)]
            rcases Int.lt_or_le 0 (B x u) with hb | hb
            · have nu := (hv_e h hu hx hb).1
              have l1 := mw u hu nu
              have l2 : f u ≠ f w := fun q => hm ((ms u hu).mpr ⟨nu, q⟩)
              have := Int.mul_le_mul_of_nonneg_left (show (1 : Int) ≤ f x - f u by omega) (Int.le_of_lt hb)
              omega
            · have : B x u = 0 := by have := (h x u hx hu).1; omega
              rw [this]
              simp
        omega
    · exact hle
  have := mw v hv hvv
  omega
theorem cRd.un (h : gOk B) {q : Nat} {V W : Nat → Int} (hV : cRd B q V) (hW : cRd B q W) (hE : hEq B V W) (hq : q < 5) (hq2 : nHv B q) : ∀ v, v < 5 → W v = V v := by
  obtain ⟨f, hf⟩ := hE
  have t1 := hV.top h hf hW.1 hq hq2
  have t2 := hW.top h (W := V) (f := fun x => -1 * f x) (fun v hv => by rw [cL_mul, hf v hv]; omega) hV.1 hq hq2
  intro v hv
  rw [hf v hv]
  have : cL B f v = 0 := s5_0 (fun u hu => by
    rcases Int.lt_or_le 0 (B v u) with hb | hb
    · obtain ⟨n1, n2⟩ := hv_e h hu hv hb
      have a1 := t1 u hu n1
      have a2 := t2 u hu n1
      have a3 := t1 v hv n2
      have a4 := t2 v hv n2
      have : f v - f u = 0 := by omega
      rw [this, Int.mul_zero]
    · have : B v u = 0 := by have := (h v u hv hu).1; omega
      rw [this, Int.zero_mul])
  omega
end CM
