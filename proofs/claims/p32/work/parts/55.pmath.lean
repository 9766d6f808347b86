/-! POLYNOMIALS: values, corners, roots -/
theorem z_least (P : Nat → Prop) : ∀ n, (∃ k, k < n ∧ P k) → ∃ k, k < n ∧ P k ∧ ∀ j, j < k → ¬ P j
  | 0, h => by obtain ⟨k, hk, -⟩ := h; omega
  | n + 1, h => by
    rcases Classical.em (∃ k, k < n ∧ P k) with q | q
    · obtain ⟨k, hk, pk, hm⟩ := z_least P n q
      exact ⟨k, by omega, pk, hm⟩
    · obtain ⟨k, hk, pk⟩ := h
      have : k = n := by
        rcases Nat.lt_succ_iff_lt_or_eq.mp hk with l | l
        · exact absurd ⟨k, l, pk⟩ q
        · exact l
      subst this
      exact ⟨k, hk, pk, fun j hj pj => q ⟨j, hj, pj⟩⟩
theorem z_grtst (P : Nat → Prop) : ∀ n, (∃ k, k < n ∧ P k) → ∃ k, k < n ∧ P k ∧ ∀ j, k < j → j < n → ¬ P j
  | 0, h => by obtain ⟨k, hk, -⟩ := h; omega
  | n + 1, h => by
    rcases Classical.em (P n) with q | q
    · exact ⟨n, by omega, q, fun j h1 h2 => by omega⟩
    · obtain ⟨k, hk, pk⟩ := h
      have hk2 : k < n := by
        rcases Nat.lt_succ_iff_lt_or_eq.mp hk with l | l
        · exact l
        · subst l; exact absurd pk q
      obtain ⟨m, hm, pm, hx⟩ := z_grtst P n ⟨k, hk2, pk⟩
      refine ⟨m, by omega, pm, fun j h1 h2 pj => ?_⟩
      rcases Nat.lt_succ_iff_lt_or_eq.mp h2 with l | l
      · exact hx j h1 l pj
      · subst l; exact q pj
/-- the first of those where F is least -/
theorem z_argmin (P : Nat → Prop) (F : Nat → Int) : ∀ n, (∃ k, k < n ∧ P k) → ∃ k, k < n ∧ P k ∧ (∀ j, j < n → P j → F k ≤ F j) ∧ ∀ j, j < k → P j → F k < F j
  | 0, h => by obtain ⟨k, hk, -⟩ := h; omega
  | n + 1, h => by
    rcases Classical.em (∃ k, k < n ∧ P k) with q | q
    · obtain ⟨k, hk, pk, h1, h2⟩ := z_argmin P F n q
      rcases Classical.em (P n ∧ F n < F k) with ⟨w, l⟩ | w
      · refine ⟨n, by omega, w, fun j hj pj => ?_, fun j hj pj => ?_⟩
        · rcases Nat.lt_succ_iff_lt_or_eq.mp hj with l2 | l2
          · have := h1 j l2 pj; omega
          · subst l2; exact Int.le_refl _
        · have := h1 j hj pj; omega
      · refine ⟨k, by omega, pk, fun j hj pj => ?_, h2⟩
        rcases Nat.lt_succ_iff_lt_or_eq.mp hj with l2 | l2
        · exact h1 j l2 pj
        · subst l2
          exact Int.not_lt.mp fun l => w ⟨pj, l⟩
    · obtain ⟨k, hk, pk⟩ := h
      have : k = n := by
        rcases Nat.lt_succ_iff_lt_or_eq.mp hk with l | l
        · exact absurd ⟨k, l, pk⟩ q
        · exact l
      subst this
      refine ⟨k, hk, pk, fun j hj pj => ?_, fun j hj pj => absurd ⟨j, hj, pj⟩ q⟩
      rcases Nat.lt_succ_iff_lt_or_eq.mp hj with l2 | l2
      · exact absurd ⟨j, l2, pj⟩ q
      · subst l2; exact Int.le_refl _
section PM
variable {f g : Nat → Int}
/-- the line's height: of the term k, at the fraction c by d -/
def pL (f : Nat → Int) (c d : Int) (k : Nat) : Int := f k * d + (k : Int) * c
theorem pL_id (f : Nat → Int) (c d : Int) (a k b : Nat) : pL f c d a * ((b : Int) - k) + pL f c d b * ((k : Int) - a) - pL f c d k * ((b : Int) - a) = d * (f a * ((b : Int) - k) + f b * ((k : Int) - a) - f k * ((b : Int) - a)) := by
  unfold pL
  grind
theorem m_nn {x y : Int} (hx : 0 ≤ x) (hy : 0 ≤ y) : 0 ≤ x * y := Int.mul_nonneg hx hy
theorem m_np {x y : Int} (hx : x ≤ 0) (hy : 0 ≤ y) : x * y ≤ 0 := by
  have := Int.mul_nonneg (show 0 ≤ -x by omega) hy
  rw [Int.neg_mul] at this
  omega
theorem m_p1 {x y : Int} (hx : 1 ≤ x) (hy : 1 ≤ y) : 1 ≤ x * y := by
  have := Int.mul_le_mul_of_nonneg_left hy (show 0 ≤ x by omega)
  omega
theorem m_pos {d x : Int} (hd : 0 < d) (h : d * x ≤ 0) : x ≤ 0 := by
  rcases Int.lt_or_le 0 x with q | q
  · have := m_p1 (show 1 ≤ d by omega) (show 1 ≤ x by omega)
    omega
  · exact q
/-- spare, by heights -/
theorem pSpare_of {p a b : Nat} (c : Int) {d : Int} (hd : 0 < d) (hp : f p ≠ INF) (ha : f a ≠ INF) (hb : f b ≠ INF) (h1 : a < p) (h2 : p < b) (h3 : b < 9) (la : pL f c d a ≤ pL f c d p) (lb : pL f c d b ≤ pL f c d p) : pSpare f p := by
  refine ⟨hp, a, b, h1, h2, h3, ha, hb, ?_⟩
  have e := pL_id f c d a p b
  have x1 := m_np (x := pL f c d a - pL f c d p) (y := (b : Int) - p) (by omega) (by omega)
  have x2 := m_np (x := pL f c d b - pL f c d p) (y := (p : Int) - a) (by omega) (by omega)
  have e2 : (pL f c d a - pL f c d p) * ((b : Int) - p) + (pL f c d b - pL f c d p) * ((p : Int) - a) = pL f c d a * ((b : Int) - p) + pL f c d b * ((p : Int) - a) - pL f c d p * ((b : Int) - a) := by grind
  have := m_pos hd (by rw [← e]; omega)
  omega
/-- the first term that is least at a fraction is a corner -/
theorem pCor_min (c : Int) {d : Int} (hd : 0 < d) {k : Nat} (hk : f k ≠ INF) (h1 : ∀ j, j < 9 → f j ≠ INF → pL f c d k ≤ pL f c d j) (h2 : ∀ j, j < k → f j ≠ INF → pL f c d k < pL f c d j) : pCor f k := by
  refine ⟨hk, fun ⟨_, a, b, l1, l2, l3, ha, hb, h⟩ => ?_⟩
  have e := pL_id f c d a k b
  have x1 := m_p1 (x := pL f c d a - pL f c d k) (y := (b : Int) - k) (by have := h2 a l1 ha; omega) (by omega)
  have x2 := m_nn (x := pL f c d b - pL f c d k) (y := (k : Int) - a) (by have := h1 b l3 hb; omega) (by omega)
  have e2 : (pL f c d a - pL f c d k) * ((b : Int) - k) + (pL f c d b - pL f c d k) * ((k : Int) - a) = pL f c d a * ((b : Int) - k) + pL f c d b * ((k : Int) - a) - pL f c d k * ((b : Int) - a) := by grind
  have x3 := m_np (x := f a * ((b : Int) - k) + f b * ((k : Int) - a) - f k * ((b : Int) - a)) (y := d) (by omega) (by omega)
  rw [Int.mul_comm] at x3
  omega
theorem pCor_ex (c : Int) {d : Int} (hd : 0 < d) (h : ∃ k, k < 9 ∧ f k ≠ INF) : ∃ k, k < 9 ∧ pCor f k ∧ ∀ j, j < 9 → f j ≠ INF → pL f c d k ≤ pL f c d j := by
  obtain ⟨k, hk, pk, h1, h2⟩ := z_argmin (fun k => f k ≠ INF) (pL f c d) 9 h
  exact ⟨k, hk, pCor_min c hd pk h1 h2, h1⟩
/-- two corners with none between: all terms lie on their line or above -/
theorem pCor_two {lo up : Nat} (h1 : lo < up) (h2 : up < 9) (cl : pCor f lo) (cu : pCor f up) (hn : ∀ j, lo < j → j < up → ¬ pCor f j) : pL f (f lo - f up) ((up : Int) - lo) lo = pL f (f lo - f up) ((up : Int) - lo) up ∧ ∀ j, j < 9 → f j ≠ INF → pL f (f lo - f up) ((up : Int) - lo) lo ≤ pL f (f lo - f up) ((up : Int) - lo) j := by
  have e : pL f (f lo - f up) ((up : Int) - lo) lo = pL f (f lo - f up) ((up : Int) - lo) up := by
    unfold pL
    grind
  refine ⟨e, fun j hj nj => ?_⟩
  obtain ⟨m, hm, cm, lm⟩ := pCor_ex (f := f) (f lo - f up) (d := (up : Int) - lo) (by omega) ⟨j, hj, nj⟩
  have := lm j hj nj
  rcases Int.lt_or_le (pL f (f lo - f up) ((up : Int) - lo) m) (pL f (f lo - f up) ((up : Int) - lo) lo) with q | q
  · exfalso
    rcases Nat.lt_trichotomy m lo with w | w | w
    · exact cl.2 (pSpare_of (f lo - f up) (d := (up : Int) - lo) (by omega) cl.1 cm.1 cu.1 w h1 h2 (by omega) (by omega))
    · subst w; omega
    · rcases Nat.lt_trichotomy m up with w2 | w2 | w2
      · exact hn m w w2 cm
      · subst w2; omega
      · exact cu.2 (pSpare_of (f lo - f up) (d := (up : Int) - lo) (by omega) cu.1 cl.1 cm.1 h1 w2 hm (by omega) (by omega))
  · omega
theorem pCor_lo {k : Nat} (hk : f k ≠ INF) (h : ∀ j, j < k → f j = INF) : pCor f k := ⟨hk, fun ⟨_, a, b, l1, _, _, ha, _⟩ => ha (h a l1)⟩
theorem pCor_hi {k : Nat} (hk : f k ≠ INF) (h : ∀ j, k < j → j < 9 → f j = INF) : pCor f k := ⟨hk, fun ⟨_, a, b, _, l2, l3, _, hb, _⟩ => hb (h b l2 l3)⟩
/-- a spare term lies on or above the line of two corners -/
theorem pSpare_cor {p : Nat} (h : pSpare f p) : ∃ lo up, lo < p ∧ p < up ∧ up < 9 ∧ pCor f lo ∧ pCor f up ∧ f lo * ((up : Int) - p) + f up * ((p : Int) - lo) ≤ f p * ((up : Int) - lo) := by
  have h0 := h
  obtain ⟨hp, a, b, l1, l2, l3, ha, hb, -⟩ := h
  obtain ⟨w, hw, pw, mw⟩ := z_least (fun k => f k ≠ INF) 9 ⟨a, by omega, ha⟩
  have wa : w ≤ a := Nat.not_lt.mp fun q => mw a q ha
  obtain ⟨lo, hlo, clo, mlo⟩ := z_grtst (pCor f) p ⟨w, by omega, pCor_lo pw (fun j hj => Classical.not_not.mp (mw j hj))⟩
  obtain ⟨v, hv, pv, mv⟩ := z_grtst (fun k => f k ≠ INF) 9 ⟨b, l3, hb⟩
  have vb : b ≤ v := Nat.not_lt.mp fun q => mv b q l3 hb
  obtain ⟨up, hup, ⟨gup, cup⟩, mup⟩ := z_least (fun k => p < k ∧ pCor f k) 9 ⟨v, hv, by omega, pCor_hi pv (fun j h1 h2 => Classical.not_not.mp (mv j h1 h2))⟩
  have hn : ∀ j, lo < j → j < up → ¬ pCor f j := fun j h1 h2 hc => by
    rcases Nat.lt_trichotomy j p with q | q | q
    · exact mlo j h1 q hc
    · subst q; exact hc.2 h0
    · exact mup j h2 ⟨q, hc⟩
  obtain ⟨e1, e2⟩ := pCor_two (by omega) hup clo cup hn
  have e3 := e2 p (by omega) hp
  refine ⟨lo, up, hlo, gup, hup, clo, cup, ?_⟩
  unfold pL at e3
  have e4 : f p * ((up : Int) - lo) + (p : Int) * (f lo - f up) - (f lo * ((up : Int) - lo) + (lo : Int) * (f lo - f up)) = f p * ((up : Int) - lo) - (f lo * ((up : Int) - p) + f up * ((p : Int) - lo)) := by grind
  omega
/-- without a spare term the corners are the same -/
theorem pSpare_rm {p : Nat} (h : pSpare f p) : pSame f (z_up f p INF) 9 := by
  have z : ∀ j, j ≠ p → z_up f p INF j = f j := fun j hj => by unfold z_up; rw [if_neg hj]
  have zp : z_up f p INF p = INF := by unfold z_up; rw [if_pos rfl]
  intro k hk
  by_cases q : k = p
  · subst q
    refine ⟨⟨fun c => absurd h c.2, fun c => absurd zp c.1⟩, fun c => absurd h c.2⟩
  · refine ⟨⟨fun c => ⟨by rw [z k q]; exact c.1, fun ⟨s1, a, b, s2, s3, s4, s5, s6, s7⟩ => c.2 ?_⟩, fun c => ⟨by rw [← z k q]; exact c.1, fun s => c.2 ?_⟩⟩, fun _ => (z k q).symm⟩
    · have na : a ≠ p := fun w => s5 (w ▸ zp)
      have nb : b ≠ p := fun w => s6 (w ▸ zp)
      rw [z a na, z b nb, z k q] at s7
      rw [z a na] at s5
      rw [z b nb] at s6
      exact ⟨c.1, a, b, s2, s3, s4, s5, s6, s7⟩
    · obtain ⟨lo, up, s2, s3, s4, c1, c2, s7⟩ := pSpare_cor s
      have na : lo ≠ p := fun w => c1.2 (w ▸ h)
      have nb : up ≠ p := fun w => c2.2 (w ▸ h)
      exact ⟨c.1, lo, up, s2, s3, s4, by rw [z lo na]; exact c1.1, by rw [z up nb]; exact c2.1, by rw [z lo na, z up nb, z k q]; exact s7⟩
theorem pSame.sy (h : pSame f g 9) : pSame g f 9 := fun k hk => ⟨(h k hk).1.symm, fun c => ((h k hk).2 ((h k hk).1.mpr c)).symm⟩
theorem pSame.rf (f : Nat → Int) : pSame f f 9 := fun _ _ => ⟨Iff.rfl, fun _ => rfl⟩
theorem pSame.cnt (h : pSame f g 9) : ∀ n, n ≤ 9 → pCors f n = pCors g n
  | 0, _ => rfl
  | n + 1, hn => by
    have e := pSame.cnt h n (by omega)
    unfold pCors at e ⊢
    rw [z_cnt, z_cnt, e]
    have : z_dec (pCor f n) = z_dec (pCor g n) := (z_dec_inj _ _).mpr (h n (by omega)).1
    rw [this]
-- values
theorem pV_in (hf : pOk f) {x : Int} (h1 : -999 ≤ x) (h2 : x ≤ 999) : ∀ n, n ≤ 9 → (z_val f x n = INF ∧ ∀ k, k < n → f k = INF) ∨ (z_val f x n < 100000 ∧ (∃ k, k < n ∧ f k ≠ INF ∧ z_val f x n = pL f x 1 k) ∧ ∀ j, j < n → f j ≠ INF → z_val f x n ≤ pL f x 1 j)
  | 0, _ => Or.inl ⟨rfl, fun k hk => absurd hk (Nat.not_lt_zero k)⟩
  | n + 1, hn => by
    have b6 : INF = 1000000 := rfl
    have ih := pV_in hf h1 h2 n (by omega)
    have mul := (z_val_b hf h1 h2 n (by omega)).2.2 n (by omega)
    have fn := hf n (by omega)
    have l1 : pL f x 1 n = f n + (n : Int) * x := by unfold pL; rw [Int.mul_one]
    rw [z_val]
    by_cases q : f n = INF
    · rw [if_pos q]
      rcases ih with ⟨i1, i2⟩ | ⟨i1, ⟨k, k1, k2, k3⟩, i3⟩
      · refine Or.inl ⟨i1, fun k hk => ?_⟩
        rcases Nat.lt_succ_iff_lt_or_eq.mp hk with l | l
        · exact i2 k l
        · subst l; exact q
      · refine Or.inr ⟨i1, ⟨k, by omega, k2, k3⟩, fun j hj nj => ?_⟩
        rcases Nat.lt_succ_iff_lt_or_eq.mp hj with l | l
        · exact i3 j l nj
        · subst l; exact absurd q nj
    · rw [if_neg q]
      right
      rcases ih with ⟨i1, i2⟩ | ⟨i1, ⟨k, k1, k2, k3⟩, i3⟩
      · rw [if_pos (by omega)]
        refine ⟨by omega, ⟨n, by omega, q, l1.symm⟩, fun j hj nj => ?_⟩
        rcases Nat.lt_succ_iff_lt_or_eq.mp hj with l | l
        · exact absurd (i2 j l) nj
        · subst l; omega
      · split
        · next w =>
          refine ⟨by omega, ⟨n, by omega, q, l1.symm⟩, fun j hj nj => ?_⟩
          rcases Nat.lt_succ_iff_lt_or_eq.mp hj with l | l
          · have := i3 j l nj; omega
          · subst l; omega
        · next w =>
          refine ⟨i1, ⟨k, by omega, k2, k3⟩, fun j hj nj => ?_⟩
          rcases Nat.lt_succ_iff_lt_or_eq.mp hj with l | l
          · exact i3 j l nj
          · subst l; omega
/-- a value is INF without terms, else what a corner has, the least of all terms -/
theorem pV (hf : pOk f) {x : Int} (h1 : -999 ≤ x) (h2 : x ≤ 999) : (z_val f x 9 = INF ∧ ∀ k, k < 9 → f k = INF) ∨ (z_val f x 9 ≠ INF ∧ (∃ k, k < 9 ∧ pCor f k ∧ z_val f x 9 = pL f x 1 k) ∧ ∀ j, j < 9 → f j ≠ INF → z_val f x 9 ≤ pL f x 1 j) := by
  have b6 : INF = 1000000 := rfl
  rcases pV_in hf h1 h2 9 (Nat.le_refl 9) with h | ⟨i1, ⟨k, k1, k2, k3⟩, i3⟩
  · exact Or.inl h
  · obtain ⟨m, m1, m2, m3⟩ := pCor_ex (f := f) x (d := 1) (by decide) ⟨k, k1, k2⟩
    have := m3 k k1 k2
    have := i3 m m1 m2.1
    exact Or.inr ⟨by omega, ⟨m, m1, m2, by omega⟩, i3⟩
theorem pV_same (hf : pOk f) (hg : pOk g) (h : pSame f g 9) {x : Int} (h1 : -999 ≤ x) (h2 : x ≤ 999) : z_val f x 9 = z_val g x 9 := by
  have half : ∀ {f g : Nat → Int}, pOk f → pOk g → pSame f g 9 → z_val g x 9 ≤ z_val f x 9 := fun {f g} hf hg h => by
    have b6 : INF = 1000000 := rfl
    have bg := (z_val_b hg h1 h2 9 (Nat.le_refl 9)).2.1
    rcases pV hf h1 h2 with ⟨e, -⟩ | ⟨-, ⟨k, k1, k2, k3⟩, -⟩
    · omega
    · have c := (h k k1).1.mp k2
      have e := (h k k1).2 k2
      rcases pV hg h1 h2 with ⟨-, q⟩ | ⟨-, -, q⟩
      · exact absurd (q k k1) c.1
      · have := q k k1 c.1
        unfold pL at this k3
        rw [← e] at this
        omega
  have := half hf hg h
  have := half hg hf h.sy
  omega
theorem pV_min (hf : pOk f) (hg : pOk g) {x : Int} (h1 : -999 ≤ x) (h2 : x ≤ 999) : ∀ n, n ≤ 9 → z_val (fun k => if f k < g k then f k else g k) x n = if z_val f x n < z_val g x n then z_val f x n else z_val g x n
  | 0, _ => by simp [z_val]
  | n + 1, hn => by
    have b6 : INF = 1000000 := rfl
    have ih := pV_min hf hg h1 h2 n (by omega)
    have mul := (z_val_b hf h1 h2 n (by omega)).2.2 n (by omega)
    have b1 := z_val_b hf h1 h2 n (by omega)
    have b2 := z_val_b hg h1 h2 n (by omega)
    have fn := hf n (by omega)
    have gn := hg n (by omega)
    rw [z_val, z_val, z_val, ih]
    generalize (n : Int) * x = t at *
    generalize z_val f x n = u at *
    generalize z_val g x n = v at *
    generalize f n = a at *
    generalize g n = b at *
    by_cases c1 : a = INF <;> by_cases c2 : b = INF <;> by_cases c3 : a < b <;> by_cases c4 : u < v <;> simp only [c1, c2, c3, c4, if_true, if_false] <;> (try omega) <;> (repeat' split) <;> omega
end PM
