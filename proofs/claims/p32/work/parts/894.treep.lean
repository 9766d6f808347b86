/-! Spanning trees: there is one, if the graph is connected -/
section TP
/-- 0 or more, and at most -/
def mLe (a b : Int) : Prop := 0 ≤ a ∧ a ≤ b
theorem mLe.add {a b c d : Int} (h : mLe a b) (k : mLe c d) : mLe (a + c) (b + d) := ⟨Int.add_nonneg h.1 k.1, Int.add_le_add h.2 k.2⟩
theorem mLe.mul {a b c d : Int} (h : mLe a b) (k : mLe c d) : mLe (a * c) (b * d) := ⟨Int.mul_nonneg h.1 k.1, Int.mul_le_mul h.2 k.2 k.1 (Int.le_trans h.1 h.2)⟩
def tY3 (e1 e2 e3 p q s : Int) : Int := e1 * e2 * e3 + e1 * e2 * (q + s) + e1 * e3 * (p + s) + e2 * e3 * (p + q) + (e1 + e2 + e3) * (p * q) + (e1 + e2 + e3) * (p * s) + (e1 + e2 + e3) * (q * s)
def tY2 (a b c : Int) : Int := a * b + a * c + b * c
def tY (e1 e2 e3 e4 p q r s t u : Int) : Int := (e4 + r + t + u) * tY3 e1 e2 e3 p q s + e4 * r * tY2 (e2 + p) (e3 + q) s + e4 * t * tY2 (e1 + p) (e3 + s) q + e4 * u * tY2 (e1 + q) (e2 + s) p + r * t * tY2 (e1 + e2) e3 (q + s) + r * u * tY2 (e1 + e3) e2 (p + s) + t * u * tY2 (e2 + e3) e1 (p + q) + e4 * r * t * (e3 + q + s) + e4 * r * u * (e2 + p + s) + e4 * t * u * (e1 + p + q) + r * t * u * (e1 + e2 + e3) + e4 * r * t * u
theorem tD4_Y (e1 e2 e3 e4 p q r s t u : Int) : tD4 (tLm e1 e2 e3 e4 p q r s t u) = tY e1 e2 e3 e4 p q r s t u := by
  simp only [tD4, tV3, tV2, tl00, tl01, tl02, tl03, tl10, tl11, tl12, tl13, tl20, tl21, tl22, tl23, tl30, tl31, tl32, tl33, tY, tY3, tY2]
  grind
theorem tY_mono {e1 e2 e3 e4 p q r s t u f1 f2 f3 f4 P Q R S T U : Int} (h1 : mLe e1 f1) (h2 : mLe e2 f2) (h3 : mLe e3 f3) (h4 : mLe e4 f4) (hp : mLe p P) (hq : mLe q Q) (hr : mLe r R) (hs : mLe s S) (ht : mLe t T) (hu : mLe u U) : mLe (tY e1 e2 e3 e4 p q r s t u) (tY f1 f2 f3 f4 P Q R S T U) := by
  unfold tY tY3 tY2
  repeat' first | assumption | with_reducible apply mLe.add | with_reducible apply mLe.mul
def tz (x : Int) : Bool := decide (0 < x)
def tb (x : Bool) : Int := if x = true then 1 else 0
theorem tb_le {x : Int} (h : 0 ≤ x) : mLe (tb (tz x)) x := by
  unfold tb tz mLe
  split
  · next q =>
    have := of_decide_eq_true q
    omega
  · omega
theorem tY_b : ∀ e1 e2 e3 e4 p q r s t u : Bool, (∀ c1 c2 c3 c4 : Bool, (c1 || c2 || c3 || c4) = true → ((c1 && e1) || (c2 && e2) || (c3 && e3) || (c4 && e4) || ((c1 != c2) && p) || ((c1 != c3) && q) || ((c1 != c4) && r) || ((c2 != c3) && s) || ((c2 != c4) && t) || ((c3 != c4) && u)) = true) → 1 ≤ tY (tb e1) (tb e2) (tb e3) (tb e4) (tb p) (tb q) (tb r) (tb s) (tb t) (tb u) := by decide +kernel
theorem tc1 {c : Bool} {x : Int} (h : (c && tz x) = false) (k : 0 < x) : c = false := by
  unfold tz at h
  rw [decide_eq_true k] at h
  cases c
  · rfl
  · exact h
theorem tc2 {c d : Bool} {x : Int} (h : ((c != d) && tz x) = false) (k : 0 < x) : c = d := by
  unfold tz at h
  rw [decide_eq_true k] at h
  cases c <;> cases d <;> first | rfl | exact absurd h (by decide)
def tcc (c1 c2 c3 c4 : Bool) (v : Nat) : Bool := if v = 1 then c1 else if v = 2 then c2 else if v = 3 then c3 else if v = 4 then c4 else false
variable {B : Nat → Nat → Int}
theorem tCut (g : gOk B) (h : ∀ v, v < 5 → nHv B v → iB ((nNr B 0 4 : Nat) : Int) v) : ∀ c1 c2 c3 c4 : Bool, (c1 || c2 || c3 || c4) = true → ((c1 && tz (tw B 1)) || (c2 && tz (tw B 2)) || (c3 && tz (tw B 3)) || (c4 && tz (tw B 4)) || ((c1 != c2) && tz (B 1 2)) || ((c1 != c3) && tz (B 1 3)) || ((c1 != c4) && tz (B 1 4)) || ((c2 != c3) && tz (B 2 3)) || ((c2 != c4) && tz (B 2 4)) || ((c3 != c4) && tz (B 3 4))) = true := by
  intro c1 c2 c3 c4 hne
  refine Classical.byContradiction fun hc => ?_
  have hc := Bool.eq_false_iff.mpr hc
  simp only [Bool.or_eq_false_iff] at hc
  obtain ⟨⟨⟨⟨⟨⟨⟨⟨⟨k1, k2⟩, k3⟩, k4⟩, kp⟩, kq⟩, kr⟩, ks⟩, kt⟩, ku⟩ := hc
  have al : ∀ v u, v < 5 → u < 5 → 0 < B v u → 0 < nAll B u := fun v u hv hu e => (nCe_pos g hu 31).mpr ⟨v, hv, i_31 ⟨v, hv⟩, by have := (g v u hv hu).2.2.1; omega⟩
  have tu : ∀ u, u < 5 → 0 < B 0 u → 0 < tw B u := fun u hu e => by
    have := al 0 u (by decide) hu e
    unfold tw
    rw [if_neg (by omega)]
    exact e
  have sy : ∀ v u, v < 5 → u < 5 → 0 < B v u → 0 < B u v := fun v u hv hu e => by have := (g v u hv hu).2.2.1; omega
  have p2 : ∀ v u, v < 5 → u < 5 → tcc c1 c2 c3 c4 v = false → 0 < B v u → tcc c1 c2 c3 c4 u = false := by
    intro v u hv hu pv e
    have e2 := sy v u hv hu e
    have e3 := fun q : v = 0 => tu u hu (by rw [q] at e; exact e)
    have dv : v = 0 ∨ v = 1 ∨ v = 2 ∨ v = 3 ∨ v = 4 := by omega
    have du : u = 0 ∨ u = 1 ∨ u = 2 ∨ u = 3 ∨ u = 4 := by omega
    rcases du with rfl | rfl | rfl | rfl | rfl
    · rfl
    · rcases dv with rfl | rfl | rfl | rfl | rfl
      · exact tc1 k1 (e3 rfl)
      · exact pv
      · exact (tc2 kp e2).trans pv
      · exact (tc2 kq e2).trans pv
      · exact (tc2 kr e2).trans pv
    · rcases dv with rfl | rfl | rfl | rfl | rfl
      · exact tc1 k2 (e3 rfl)
      · exact (tc2 kp e).symm.trans pv
      · exact pv
      · exact (tc2 ks e2).trans pv
      · exact (tc2 kt e2).trans pv
    · rcases dv with rfl | rfl | rfl | rfl | rfl
      · exact tc1 k3 (e3 rfl)
      · exact (tc2 kq e).symm.trans pv
      · exact (tc2 ks e).symm.trans pv
      · exact pv
      · exact (tc2 ku e2).trans pv
    · rcases dv with rfl | rfl | rfl | rfl | rfl
      · exact tc1 k4 (e3 rfl)
      · exact (tc2 kr e).symm.trans pv
      · exact (tc2 kt e).symm.trans pv
      · exact (tc2 ku e).symm.trans pv
      · exact pv
  have all : ∀ i, 0 < i → i < 5 → (0 < tw B i → tcc c1 c2 c3 c4 i = false) → tcc c1 c2 c3 c4 i = false := fun i h0 hi k => by
    have ai := al i
    have n0 : 0 ≤ nAll B i := by
      rw [nAll_5]
      exact s5_nn (fun u hu => (g i u hi hu).1)
    by_cases z : nAll B i = 0
    · refine k ?_
      unfold tw
      rw [if_pos z]
      decide
    · exact nNr_sub g (fun u => tcc c1 c2 c3 c4 u = false) rfl p2 4 i hi (h i hi (Or.inr (by omega)))
  have f1 : c1 = false := all 1 (by decide) (by decide) (tc1 k1)
  have f2 : c2 = false := all 2 (by decide) (by decide) (tc1 k2)
  have f3 : c3 = false := all 3 (by decide) (by decide) (tc1 k3)
  have f4 : c4 = false := all 4 (by decide) (by decide) (tc1 k4)
  rw [f1, f2, f3, f4] at hne
  exact absurd hne (by decide)
theorem tD4_pos (g : gOk B) (h : ∀ v, v < 5 → nHv B v → iB ((nNr B 0 4 : Nat) : Int) v) : 0 < tD4 (tL B) := by
  rw [tD4_cg (tM_e g)]
  unfold tM
  rw [tD4_Y]
  have b := tY_b _ _ _ _ _ _ _ _ _ _ (tCut g h)
  have n := fun i j (hi : i < 5) (hj : j < 5) => tb_le (g i j hi hj).1
  have w := fun i (hi : i < 5) => tb_le (tw_b g hi)
  have m := (tY_mono (w 1 (by decide)) (w 2 (by decide)) (w 3 (by decide)) (w 4 (by decide)) (n 1 2 (by decide) (by decide)) (n 1 3 (by decide) (by decide)) (n 1 4 (by decide) (by decide)) (n 2 3 (by decide) (by decide)) (n 2 4 (by decide) (by decide)) (n 3 4 (by decide) (by decide))).2
  omega
theorem tV2_b {L : Nat → Nat → Int} (h : tBd L 15) {a b : Nat} (ha : a < 4) (hb : b < 4) : -450 ≤ tV2 L a b ∧ tV2 L a b ≤ 450 := by
  have m1 := t_mb (h 1 b (by decide) hb) (h 0 a (by decide) ha)
  have m2 := t_mb (h 1 a (by decide) ha) (h 0 b (by decide) hb)
  unfold tV2
  omega
theorem tV3_b {L : Nat → Nat → Int} (h : tBd L 15) {a b c : Nat} (ha : a < 4) (hb : b < 4) (hc : c < 4) : -20250 ≤ tV3 L a b c ∧ tV3 L a b c ≤ 20250 := by
  have m1 := t_mb (h 2 c (by decide) hc) (tV2_b h ha hb)
  have m2 := t_mb (h 2 b (by decide) hb) (tV2_b h ha hc)
  have m3 := t_mb (h 2 a (by decide) ha) (tV2_b h hb hc)
  unfold tV3
  omega
theorem tL_tb {B : Nat → Nat → Int} (g : gOk B) : -2000000 ≤ tD4 (tL B) ∧ tD4 (tL B) ≤ 2000000 := by
  have h := (tL_b g).1
  have m1 := t_mb (h 3 3 (by decide) (by decide)) (tV3_b h (a := 0) (b := 1) (c := 2) (by decide) (by decide) (by decide))
  have m2 := t_mb (h 3 2 (by decide) (by decide)) (tV3_b h (a := 0) (b := 1) (c := 3) (by decide) (by decide) (by decide))
  have m3 := t_mb (h 3 1 (by decide) (by decide)) (tV3_b h (a := 0) (b := 2) (c := 3) (by decide) (by decide) (by decide))
  have m4 := t_mb (h 3 0 (by decide) (by decide)) (tV3_b h (a := 1) (b := 2) (c := 3) (by decide) (by decide) (by decide))
  unfold tD4
  omega
end TP
