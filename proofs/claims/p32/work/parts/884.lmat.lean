/-! THE LAW: matrices -/
section LM
variable {X : z_Hp} {S : Nat → Nat → Int}
/-- a matrix is so -/
def lM (S : Nat → Nat → Int) (i n : Nat) (A : Nat → Nat → Int) : Prop := S (51 + 9 * i) 0 = (n : Int) ∧ ∀ x y, x < n → y < n → cM S i x y = A x y
theorem lM.fr {i n : Nat} {A : Nat → Nat → Int} (h : lM S i n A) {D : Nat → Prop} {S' : Nat → Nat → Int} (f : cFr D S S') (hi : i < 4) (w : ∀ a, 51 + 9 * i ≤ a → a ≤ 57 + 9 * i → ¬ D a) : lM S' i n A := by
  have e := f.m hi w
  unfold lM
  rw [e.1, e.2]
  exact h
def cut (A : Nat → Nat → Int) (n : Nat) : Nat → Nat → Int := fun x y => if x < n ∧ y < n then A x y else INF
theorem lM.cN {i n : Nat} {A : Nat → Nat → Int} (h : lM S i n A) : cN S i n = cut A n := by
  funext x y
  show (if x < n ∧ y < n then cM S i x y else INF) = (if x < n ∧ y < n then A x y else INF)
  split
  · next c => exact h.2 x y c.1 c.2
  · rfl
theorem mB.lM {i n : Nat} {A : Nat → Nat → Int} {c : Int} (hA : mB c A n) (h : lM S i n A) : mB c (cM S i) n := hA.cg h.2
theorem g_mul (I : cInv S) {i j l n : Nat} (hi : i < 4) (hj : j < 4) (hl : l < 4) {A B : Nat → Nat → Int} (a : lM S i n A) (b : lM S j n B) (hA : mB 45000 A n) (hB : mB 45000 B n) : ∃ S', m_X5_multiply [vR 0, vI (i : Int), vI (j : Int), vI (l : Int)] (k_W X S) = some (.inl (some (vI (mC (mMul A B n) n n))), k_W X S') ∧ lM S' l n (mMul A B n) ∧ cFr (cMD l) S S' ∧ cInv S' := by
  have w := ((hA.lM a).mul (hB.lM b)).to (show (45000 : Int) + 45000 ≤ 99999 by decide)
  have cg : ∀ x y, x < n → y < n → mMul (cM S i) (cM S j) n x y = mMul A B n x y := fun x y hx hy => mm_cg a.2 b.2 hx hy
  obtain ⟨S', s1, s2, s3, s4, s5⟩ := f_multiply (X := X) I hi hj hl a.1 b.1 w.w
  rw [mC_cg cg n (Nat.le_refl n)] at s1
  exact ⟨S', s1, ⟨s2, fun x y hx hy => by rw [s3 x y hx hy, cg x y hx hy]⟩, s4, s5⟩
theorem g_det (I : cInv S) {i n : Nat} (hi : i < 4) (hn : 1 ≤ n ∧ n ≤ 5) {A : Nat → Nat → Int} (a : lM S i n A) : ∃ S', m_X5_determinant [vR 0, vI (i : Int)] (k_W X S) = some (.inl (some (vI (dT (cut A n) n))), k_W X S') ∧ cFr (fun _ => False) S S' ∧ kR (dT (cut A n) n) ∧ cInv S' := by
  obtain ⟨S', s1, s2, s3⟩ := f_det (X := X) I hi hn a.1
  rw [a.cN] at s1 s3
  exact ⟨S', s1, s2, s3, I.eq s2⟩
theorem g_ways (I : cInv S) {i n : Nat} (hi : i < 4) (hn : 1 ≤ n ∧ n ≤ 5) {A : Nat → Nat → Int} (a : lM S i n A) : ∃ S' w, m_X5_ways [vR 0, vI (i : Int)] (k_W X S) = some (.inl (some (vI w)), k_W X S') ∧ cFr (fun _ => False) S S' ∧ kR w ∧ (w = 0 ↔ dT (cut A n) n = INF) ∧ cInv S' := by
  obtain ⟨S', w, s1, s2, s3, s4⟩ := f_ways (X := X) I hi hn a.1
  rw [a.cN] at s4
  exact ⟨S', w, s1, s2, s3, s4, I.eq s2⟩
theorem fSt_cg {A B : Nat → Nat → Int} {n : Nat} (e : ∀ i j, i < n → j < n → A i j = B i j) : ∀ k, fSt A n k = fSt B n k
  | 0 => rfl
  | k + 1 => by
    rw [fSt, fSt, fSt_cg e k]
    have z : z_mn (fun r => sP A n k r r) n = z_mn (fun r => sP B n k r r) n := z_mn_eq (fun r hr => sP_cg e k r r hr hr)
    rw [z]
theorem wD_cg {A B : Nat → Nat → Int} {n : Nat} (e : ∀ i j, i < n → j < n → A i j = B i j) : ∀ i j, i < n → j < n → wD A i j = wD B i j := fun i j hi hj => by
  unfold wD
  rw [e i i hi hi, e i j hi hj]
theorem g_mean (I : cInv S) {i n : Nat} (hi : i < 4) (hn : 1 ≤ n ∧ n ≤ 5) {A : Nat → Nat → Int} (a : lM S i n A) : ∃ S', m_X5_mean [vR 0, vI (i : Int), vI 0] (k_W X S) = some (.inl (some (vI (fRd (fSt A n n)).1)), k_W X S') ∧ m_X5_mean [vR 0, vI (i : Int), vI 1] (k_W X S) = some (.inl (some (vI (fRd (fSt A n n)).2)), k_W X S') ∧ cFr (fun a => 30 ≤ a ∧ a ≤ 43) S S' ∧ cInv S' ∧ kR (fRd (fSt A n n)).1 ∧ kR (fRd (fSt A n n)).2 := by
  obtain ⟨S', s1, s2, s3, s4⟩ := f_mean (X := X) I hi a.1
  have e := fSt_cg a.2 n
  rw [e] at s1 s2
  obtain ⟨n', a1, a2, a3, a4⟩ := I.2.1 i hi
  have en : n' = n := by have := a.1; omega
  subst en
  have b := fRd_b _ (fSt_b hn.2 a4 n' (Nat.le_refl n'))
  rw [e] at b
  exact ⟨S', s1, s2, s3, s4, ⟨by omega, by omega⟩, ⟨by omega, by omega⟩⟩
theorem g_star (I : cInv S) {i l n : Nat} (hi : i < 4) (hl : l < 4) {A : Nat → Nat → Int} (a : lM S i n A) (hb : mWi (sP (wD A) n n) n) : ∃ S',
    (¬ (∀ x, x < n → 0 ≤ sP (wD A) n n x x) → m_X5_star [vR 0, vI (i : Int), vI (l : Int)] (k_W X S) = some (.inr kIS, k_W X S') ∧ cFr (fun a => 30 ≤ a ∧ a ≤ 43) S S' ∧ cInv S') ∧
    ((∀ x, x < n → 0 ≤ sP (wD A) n n x x) → m_X5_star [vR 0, vI (i : Int), vI (l : Int)] (k_W X S) = some (.inl (some (vI (mC (sP (wD A) n n) n n))), k_W X S') ∧ lM S' l n (sP (wD A) n n) ∧ cFr (cMD l) S S' ∧ cInv S') := by
  have e := fun x y hx hy => sP_cg (wD_cg a.2) n x y hx hy
  have q : (∀ x, x < n → 0 ≤ sP (wD (cM S i)) n n x x) ↔ (∀ x, x < n → 0 ≤ sP (wD A) n n x x) := ⟨fun h x hx => by rw [← e x x hx hx]; exact h x hx, fun h x hx => by rw [e x x hx hx]; exact h x hx⟩
  have hb' : mWi (sP (wD (cM S i)) n n) n := fun x y hx hy => by
    rw [e x y hx hy]
    exact hb x y hx hy
  obtain ⟨S', s1, s2⟩ := f_star (X := X) I hi hl a.1
  rw [q] at s1 s2
  refine ⟨S', s1, fun h => ?_⟩
  obtain ⟨t1, t2, t3, t4, t5⟩ := s2 h hb'
  rw [mC_cg e n (Nat.le_refl n)] at t1
  exact ⟨t1, ⟨t2, fun x y hx hy => by rw [t3 x y hx hy, e x y hx hy]⟩, t4, t5⟩
theorem g_like (I : cInv S) {a b n : Nat} (ha : a < 4) (hb : b < 4) (hn : 1 ≤ n ∧ n ≤ 5) {A B : Nat → Nat → Int} (h1 : lM S a n A) (h2 : lM S b n B) (h : ∀ x y, x < n → y < n → A x y = B x y) : m_L_isLike [vR 0, vI (a : Int), vI (b : Int), vI (n : Int)] (k_W X S) = some (.inl (some (vB true)), k_W X S) := f_isLike I ha hb hn h1.1 h2.1 (fun x y hx hy => by rw [h1.2 x y hx hy, h2.2 x y hx hy, h x y hx hy])
end LM
