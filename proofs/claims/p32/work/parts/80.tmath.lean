/-! Spanning trees: what is eliminated and what is expanded are the same; none, if a set has no edges out -/
section TM
/-- expanded by rows, as the reference does -/
def tV2 (L : Nat → Nat → Int) (a b : Nat) : Int := L 1 b * L 0 a - L 1 a * L 0 b
def tV3 (L : Nat → Nat → Int) (a b c : Nat) : Int := L 2 c * tV2 L a b - L 2 b * tV2 L a c + L 2 a * tV2 L b c
def tD4 (L : Nat → Nat → Int) : Int := L 3 3 * tV3 L 0 1 2 - L 3 2 * tV3 L 0 1 3 + L 3 1 * tV3 L 0 2 3 - L 3 0 * tV3 L 1 2 3
/-- a step of Bareiss -/
def tE (M : Nat → Nat → Int) (s : Nat) (b : Int) : Nat → Nat → Int := fun i j => if s < i ∧ s < j then (M s s * M i j - M i s * M s j).tdiv b else M i j
/-- a minor of three -/
def tC3 (L : Nat → Nat → Int) (i j : Nat) : Int := L 0 0 * (L 1 1 * L i j - L 1 j * L i 1) - L 0 1 * (L 1 0 * L i j - L 1 j * L i 0) + L 0 j * (L 1 0 * L i 1 - L 1 1 * L i 0)
theorem t_id2 (a b c d e f g h k : Int) : (a * e - d * b) * (a * k - g * c) - (a * h - g * b) * (a * f - d * c) = a * (a * (e * k - f * h) - b * (d * k - f * g) + c * (d * h - e * g)) := by grind
theorem tE_1 (L : Nat → Nat → Int) {i j : Nat} (hi : 0 < i) (hj : 0 < j) : tE L 0 1 i j = L 0 0 * L i j - L i 0 * L 0 j := by
  unfold tE
  rw [if_pos ⟨hi, hj⟩, Int.tdiv_one]
theorem tE_1' (L : Nat → Nat → Int) {i j : Nat} (h : i = 0 ∨ j = 0) : tE L 0 1 i j = L i j := by
  unfold tE
  rw [if_neg (by omega)]
theorem tE_n2 (L : Nat → Nat → Int) {i j : Nat} (hi : 1 < i) (hj : 1 < j) : tE L 0 1 1 1 * tE L 0 1 i j - tE L 0 1 i 1 * tE L 0 1 1 j = L 0 0 * tC3 L i j := by
  rw [tE_1 L (by omega) (by omega), tE_1 L (by omega) (by omega), tE_1 L (by omega) (by omega), tE_1 L (by omega) (by omega)]
  exact t_id2 (L 0 0) (L 0 1) (L 0 j) (L 1 0) (L 1 1) (L 1 j) (L i 0) (L i 1) (L i j)
theorem tE_2 (L : Nat → Nat → Int) (h0 : L 0 0 ≠ 0) {i j : Nat} (hi : 1 < i) (hj : 1 < j) : tE (tE L 0 1) 1 (L 0 0) i j = tC3 L i j := by
  show (if 1 < i ∧ 1 < j then (tE L 0 1 1 1 * tE L 0 1 i j - tE L 0 1 i 1 * tE L 0 1 1 j).tdiv (L 0 0) else tE L 0 1 i j) = tC3 L i j
  rw [if_pos ⟨hi, hj⟩, tE_n2 L hi hj, Int.mul_tdiv_cancel_left _ h0]
theorem t_id3 (a b c d e f g h k l m n o p q r : Int) :
    (a * (f * m - g * l) - b * (e * m - g * k) + c * (e * l - f * k)) * (a * (f * r - h * p) - b * (e * r - h * o) + d * (e * p - f * o)) - (a * (f * q - g * p) - b * (e * q - g * o) + c * (e * p - f * o)) * (a * (f * n - h * l) - b * (e * n - h * k) + d * (e * l - f * k))
    = (a * f - e * b) * (r * (m * (f * a - e * b) - l * (g * a - e * c) + k * (g * b - f * c)) - q * (n * (f * a - e * b) - l * (h * a - e * d) + k * (h * b - f * d)) + p * (n * (g * a - e * c) - m * (h * a - e * d) + k * (h * c - g * d)) - o * (n * (g * b - f * c) - m * (h * b - f * d) + l * (h * c - g * d))) := by grind
theorem tE_n3 (L : Nat → Nat → Int) (h0 : L 0 0 ≠ 0) : tE (tE L 0 1) 1 (L 0 0) 2 2 * tE (tE L 0 1) 1 (L 0 0) 3 3 - tE (tE L 0 1) 1 (L 0 0) 3 2 * tE (tE L 0 1) 1 (L 0 0) 2 3 = tE L 0 1 1 1 * tD4 L := by
  rw [tE_2 L h0 (by omega) (by omega), tE_2 L h0 (by omega) (by omega), tE_2 L h0 (by omega) (by omega), tE_2 L h0 (by omega) (by omega), tE_1 L (by omega) (by omega)]
  exact t_id3 (L 0 0) (L 0 1) (L 0 2) (L 0 3) (L 1 0) (L 1 1) (L 1 2) (L 1 3) (L 2 0) (L 2 1) (L 2 2) (L 2 3) (L 3 0) (L 3 1) (L 3 2) (L 3 3)
theorem tE_3 (L : Nat → Nat → Int) (h0 : L 0 0 ≠ 0) (h1 : tE L 0 1 1 1 ≠ 0) : tE (tE (tE L 0 1) 1 (L 0 0)) 2 (tE L 0 1 1 1) 3 3 = tD4 L := by
  show (if 2 < 3 ∧ 2 < 3 then (tE (tE L 0 1) 1 (L 0 0) 2 2 * tE (tE L 0 1) 1 (L 0 0) 3 3 - tE (tE L 0 1) 1 (L 0 0) 3 2 * tE (tE L 0 1) 1 (L 0 0) 2 3).tdiv (tE L 0 1 1 1) else tE (tE L 0 1) 1 (L 0 0) 3 3) = tD4 L
  rw [if_pos (by omega), tE_n3 L h0, Int.mul_tdiv_cancel_left _ h1]
/-- a graph's matrix without a vertex: e edges to that one, the others by two letters -/
def tLm (e1 e2 e3 e4 p q r s t u : Int) : Nat → Nat → Int := fun i j =>
  if i = 0 then (if j = 0 then e1 + p + q + r else if j = 1 then -p else if j = 2 then -q else -r)
  else if i = 1 then (if j = 0 then -p else if j = 1 then e2 + p + s + t else if j = 2 then -s else -t)
  else if i = 2 then (if j = 0 then -q else if j = 1 then -s else if j = 2 then e3 + q + s + u else -u)
  else (if j = 0 then -r else if j = 1 then -t else if j = 2 then -u else e4 + r + t + u)
theorem tl00 (e1 e2 e3 e4 p q r s t u : Int) : tLm e1 e2 e3 e4 p q r s t u 0 0 = e1 + p + q + r := rfl
theorem tl01 (e1 e2 e3 e4 p q r s t u : Int) : tLm e1 e2 e3 e4 p q r s t u 0 1 = -p := rfl
theorem tl02 (e1 e2 e3 e4 p q r s t u : Int) : tLm e1 e2 e3 e4 p q r s t u 0 2 = -q := rfl
theorem tl03 (e1 e2 e3 e4 p q r s t u : Int) : tLm e1 e2 e3 e4 p q r s t u 0 3 = -r := rfl
theorem tl10 (e1 e2 e3 e4 p q r s t u : Int) : tLm e1 e2 e3 e4 p q r s t u 1 0 = -p := rfl
theorem tl11 (e1 e2 e3 e4 p q r s t u : Int) : tLm e1 e2 e3 e4 p q r s t u 1 1 = e2 + p + s + t := rfl
theorem tl12 (e1 e2 e3 e4 p q r s t u : Int) : tLm e1 e2 e3 e4 p q r s t u 1 2 = -s := rfl
theorem tl13 (e1 e2 e3 e4 p q r s t u : Int) : tLm e1 e2 e3 e4 p q r s t u 1 3 = -t := rfl
theorem tl20 (e1 e2 e3 e4 p q r s t u : Int) : tLm e1 e2 e3 e4 p q r s t u 2 0 = -q := rfl
theorem tl21 (e1 e2 e3 e4 p q r s t u : Int) : tLm e1 e2 e3 e4 p q r s t u 2 1 = -s := rfl
theorem tl22 (e1 e2 e3 e4 p q r s t u : Int) : tLm e1 e2 e3 e4 p q r s t u 2 2 = e3 + q + s + u := rfl
theorem tl23 (e1 e2 e3 e4 p q r s t u : Int) : tLm e1 e2 e3 e4 p q r s t u 2 3 = -u := rfl
theorem tl30 (e1 e2 e3 e4 p q r s t u : Int) : tLm e1 e2 e3 e4 p q r s t u 3 0 = -r := rfl
theorem tl31 (e1 e2 e3 e4 p q r s t u : Int) : tLm e1 e2 e3 e4 p q r s t u 3 1 = -t := rfl
theorem tl32 (e1 e2 e3 e4 p q r s t u : Int) : tLm e1 e2 e3 e4 p q r s t u 3 2 = -u := rfl
theorem tl33 (e1 e2 e3 e4 p q r s t u : Int) : tLm e1 e2 e3 e4 p q r s t u 3 3 = e4 + r + t + u := rfl
theorem tLm_c (c1 c2 c3 c4 : Bool) {e1 e2 e3 e4 p q r s t u : Int} (hne : (c1 || c2 || c3 || c4) = true) (h1 : c1 = true → e1 = 0) (h2 : c2 = true → e2 = 0) (h3 : c3 = true → e3 = 0) (h4 : c4 = true → e4 = 0) (hp : c1 ≠ c2 → p = 0) (hq : c1 ≠ c3 → q = 0) (hr : c1 ≠ c4 → r = 0) (hs : c2 ≠ c3 → s = 0) (ht : c2 ≠ c4 → t = 0) (hu : c3 ≠ c4 → u = 0) : tD4 (tLm e1 e2 e3 e4 p q r s t u) = 0 := by
  simp only [tD4, tV3, tV2, tl00, tl01, tl02, tl03, tl10, tl11, tl12, tl13, tl20, tl21, tl22, tl23, tl30, tl31, tl32, tl33]
  cases c1 <;> cases c2 <;> cases c3 <;> cases c4 <;> simp_all <;> grind
theorem t_pos {a b : Int} (ha : 0 ≤ a) (hb : 0 ≤ b) : 0 ≤ a * b := Int.mul_nonneg ha hb
theorem t_mz {a b : Int} (h : a * b = 0) : a = 0 ∨ b = 0 := Int.mul_eq_zero.mp h
/-- a pivot of 0: there is no tree -/
theorem tLm_2 {e1 e2 e3 e4 p q r s t u : Int} (h1 : 0 ≤ e1) (h2 : 0 ≤ e2) (hp : 0 ≤ p) (hq : 0 ≤ q) (hr : 0 ≤ r) (hs : 0 ≤ s) (ht : 0 ≤ t) (d1 : 1 ≤ e1 + p + q + r) (d2 : 1 ≤ e2 + p + s + t) (h : (e1 + p + q + r) * (e2 + p + s + t) - p * p = 0) : tD4 (tLm e1 e2 e3 e4 p q r s t u) = 0 := by
  have k : (e1 + q + r) * (e2 + s + t) + p * (e1 + q + r) + p * (e2 + s + t) = 0 := by grind
  have k1 := t_pos (a := e1 + q + r) (b := e2 + s + t) (by omega) (by omega)
  have k2 := t_pos (a := p) (b := e1 + q + r) hp (by omega)
  have k3 := t_pos (a := p) (b := e2 + s + t) hp (by omega)
  have z1 := t_mz (show (e1 + q + r) * (e2 + s + t) = 0 by omega)
  have z2 := t_mz (show p * (e1 + q + r) = 0 by omega)
  have z3 := t_mz (show p * (e2 + s + t) = 0 by omega)
  refine tLm_c true true false false rfl (fun _ => ?_) (fun _ => ?_) (fun w => by cases w) (fun w => by cases w) (fun w => absurd rfl w) (fun _ => ?_) (fun _ => ?_) (fun _ => ?_) (fun _ => ?_) (fun w => absurd rfl w) <;> omega
theorem tLm_3 {e1 e2 e3 e4 p q r s t u : Int} (h1 : 0 ≤ e1) (h2 : 0 ≤ e2) (h3 : 0 ≤ e3) (hp : 0 ≤ p) (hq : 0 ≤ q) (hr : 0 ≤ r) (hs : 0 ≤ s) (ht : 0 ≤ t) (hu : 0 ≤ u) (d1 : 1 ≤ e1 + p + q + r) (d2 : 1 ≤ e2 + p + s + t) (d3 : 1 ≤ e3 + q + s + u)
    (h : tC3 (tLm e1 e2 e3 e4 p q r s t u) 2 2 = 0) : tD4 (tLm e1 e2 e3 e4 p q r s t u) = 0 := by
  obtain ⟨f, hf⟩ : ∃ f, f = e1 + r := ⟨_, rfl⟩
  obtain ⟨g, hg⟩ : ∃ g, g = e2 + t := ⟨_, rfl⟩
  obtain ⟨k, hk⟩ : ∃ k, k = e3 + u := ⟨_, rfl⟩
  have h' : f * g * k + f * g * (q + s) + f * k * (p + s) + g * k * (p + q) + (f + g + k) * (p * q) + (f + g + k) * (p * s) + (f + g + k) * (q * s) = 0 := by
    simp only [tC3, tl00, tl01, tl02, tl03, tl10, tl11, tl12, tl13, tl20, tl21, tl22, tl23, tl30, tl31, tl32, tl33] at h
    grind
  have f0 : 0 ≤ f := by omega
  have g0 : 0 ≤ g := by omega
  have k0 : 0 ≤ k := by omega
  have a1 := t_pos (t_pos f0 g0) k0
  have a2 := t_pos (t_pos f0 g0) (show 0 ≤ q + s by omega)
  have a3 := t_pos (t_pos f0 k0) (show 0 ≤ p + s by omega)
  have a4 := t_pos (t_pos g0 k0) (show 0 ≤ p + q by omega)
  have a5 := t_pos (show 0 ≤ f + g + k by omega) (t_pos hp hq)
  have a6 := t_pos (show 0 ≤ f + g + k by omega) (t_pos hp hs)
  have a7 := t_pos (show 0 ≤ f + g + k by omega) (t_pos hq hs)
  have z1 : (f = 0 ∨ g = 0) ∨ k = 0 := (t_mz (show f * g * k = 0 by omega)).imp t_mz id
  have z2 : (f = 0 ∨ g = 0) ∨ q + s = 0 := (t_mz (show f * g * (q + s) = 0 by omega)).imp t_mz id
  have z3 : (f = 0 ∨ k = 0) ∨ p + s = 0 := (t_mz (show f * k * (p + s) = 0 by omega)).imp t_mz id
  have z4 : (g = 0 ∨ k = 0) ∨ p + q = 0 := (t_mz (show g * k * (p + q) = 0 by omega)).imp t_mz id
  have z5 : f + g + k = 0 ∨ (p = 0 ∨ q = 0) := (t_mz (show (f + g + k) * (p * q) = 0 by omega)).imp id t_mz
  have z6 : f + g + k = 0 ∨ (p = 0 ∨ s = 0) := (t_mz (show (f + g + k) * (p * s) = 0 by omega)).imp id t_mz
  have z7 : f + g + k = 0 ∨ (q = 0 ∨ s = 0) := (t_mz (show (f + g + k) * (q * s) = 0 by omega)).imp id t_mz
  clear a1 a2 a3 a4 a5 a6 a7 h' h
  by_cases c : f + g + k = 0
  · refine tLm_c true true true false rfl (fun _ => ?_) (fun _ => ?_) (fun _ => ?_) (fun w => by cases w) (fun w => absurd rfl w) (fun w => absurd rfl w) (fun _ => ?_) (fun w => absurd rfl w) (fun _ => ?_) (fun _ => ?_) <;> omega
  · by_cases x1 : f = 0
    · by_cases x2 : g = 0
      · refine tLm_c true true false false rfl (fun _ => ?_) (fun _ => ?_) (fun w => by cases w) (fun w => by cases w) (fun w => absurd rfl w) (fun _ => ?_) (fun _ => ?_) (fun _ => ?_) (fun _ => ?_) (fun w => absurd rfl w) <;> omega
      · refine tLm_c true false true false rfl (fun _ => ?_) (fun w => by cases w) (fun _ => ?_) (fun w => by cases w) (fun _ => ?_) (fun w => absurd rfl w) (fun _ => ?_) (fun _ => ?_) (fun w => absurd rfl w) (fun _ => ?_) <;> omega
    · refine tLm_c false true true false rfl (fun w => by cases w) (fun _ => ?_) (fun _ => ?_) (fun w => by cases w) (fun _ => ?_) (fun _ => ?_) (fun w => absurd rfl w) (fun w => absurd rfl w) (fun _ => ?_) (fun _ => ?_) <;> omega
/-- what the class answers of a connected graph -/
def tT (L : Nat → Nat → Int) : Int := if L 0 0 = 0 then 0 else if tE L 0 1 1 1 = 0 then 0 else if tE (tE L 0 1) 1 (L 0 0) 2 2 = 0 then 0 else tE (tE (tE L 0 1) 1 (L 0 0)) 2 (tE L 0 1 1 1) 3 3
theorem tT_4 {e1 e2 e3 e4 p q r s t u : Int} (h1 : 0 ≤ e1) (h2 : 0 ≤ e2) (h3 : 0 ≤ e3) (hp : 0 ≤ p) (hq : 0 ≤ q) (hr : 0 ≤ r) (hs : 0 ≤ s) (ht : 0 ≤ t) (hu : 0 ≤ u) (d1 : 1 ≤ e1 + p + q + r) (d2 : 1 ≤ e2 + p + s + t) (d3 : 1 ≤ e3 + q + s + u) : tT (tLm e1 e2 e3 e4 p q r s t u) = tD4 (tLm e1 e2 e3 e4 p q r s t u) := by
  have l0 : tLm e1 e2 e3 e4 p q r s t u 0 0 = e1 + p + q + r := rfl
  have l1 : tE (tLm e1 e2 e3 e4 p q r s t u) 0 1 1 1 = (e1 + p + q + r) * (e2 + p + s + t) - p * p := by
    rw [tE_1 _ (by omega) (by omega)]
    show (e1 + p + q + r) * (e2 + p + s + t) - (-p) * (-p) = _
    rw [Int.neg_mul_neg]
  unfold tT
  rw [if_neg (by omega)]
  by_cases c1 : tE (tLm e1 e2 e3 e4 p q r s t u) 0 1 1 1 = 0
  · rw [if_pos c1]
    rw [l1] at c1
    exact (tLm_2 h1 h2 hp hq hr hs ht d1 d2 c1).symm
  · rw [if_neg c1]
    by_cases c2 : tE (tE (tLm e1 e2 e3 e4 p q r s t u) 0 1) 1 (tLm e1 e2 e3 e4 p q r s t u 0 0) 2 2 = 0
    · rw [if_pos c2]
      rw [tE_2 _ (by omega) (by omega) (by omega)] at c2
      exact (tLm_3 h1 h2 h3 hp hq hr hs ht hu d1 d2 d3 c2).symm
    · rw [if_neg c2, tE_3 _ (by omega) c1]
end TM
