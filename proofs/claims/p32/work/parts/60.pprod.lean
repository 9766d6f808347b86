/-! PRODUCTS -/
section PRD
/-- what lies at m when so many pairs are through -/
def rMk (f g : Nat → Int) : Nat → Nat → Int
  | 0 => fun _ => INF
  | n + 1 => fun m => if m = n / 9 + n % 9 then (if z_plus (f (n / 9)) (g (n % 9)) < rMk f g n m then z_plus (f (n / 9)) (g (n % 9)) else rMk f g n m) else rMk f g n m
theorem rMk_le (f g : Nat → Int) (n m : Nat) : rMk f g n m ≤ INF := by
  induction n with
  | zero => exact Int.le_refl _
  | succ n ih =>
    unfold rMk
    split
    · split <;> omega
    · exact ih
theorem rMk_lb (f g : Nat → Int) (n m : Nat) : ∀ a b, b < 9 → 9 * a + b < n → a + b = m → rMk f g n m ≤ z_plus (f a) (g b) := by
  induction n with
  | zero => intro a b _ h _; omega
  | succ n ih =>
    intro a b hb h hm
    unfold rMk
    by_cases c : 9 * a + b = n
    · have e1 : n / 9 = a := by omega
      have e2 : n % 9 = b := by omega
      rw [e1, e2, if_pos hm.symm]
      split <;> omega
    · have w := ih a b hb (by omega) hm
      split
      · split <;> omega
      · exact w
theorem rMk_at (f g : Nat → Int) (n m : Nat) : rMk f g n m = INF ∨ ∃ a b, b < 9 ∧ 9 * a + b < n ∧ a + b = m ∧ rMk f g n m = z_plus (f a) (g b) := by
  induction n with
  | zero => exact Or.inl rfl
  | succ n ih =>
    have old : rMk f g n m = INF ∨ ∃ a b, b < 9 ∧ 9 * a + b < n + 1 ∧ a + b = m ∧ rMk f g n m = z_plus (f a) (g b) := by
      rcases ih with h | ⟨a, b, h1, h2, h3, h4⟩
      · exact Or.inl h
      · exact Or.inr ⟨a, b, h1, by omega, h3, h4⟩
    unfold rMk
    split
    · next hm =>
      split
      · exact Or.inr ⟨n / 9, n % 9, by omega, by omega, hm.symm, rfl⟩
      · exact old
    · exact old
theorem z_mn_lb (g : Nat → Int) (n : Nat) : ∀ k, k < n → z_mn g n ≤ g k := by
  induction n with
  | zero => intro k h; omega
  | succ n ih =>
    intro k h
    unfold z_mn
    by_cases c : k = n
    · subst c
      split <;> omega
    · have w := ih k (by omega)
      split <;> omega
theorem z_mn_at (g : Nat → Int) (n : Nat) : z_mn g n = INF ∨ ∃ k, k < n ∧ z_mn g n = g k := by
  induction n with
  | zero => exact Or.inl rfl
  | succ n ih =>
    unfold z_mn
    split
    · exact Or.inr ⟨n, by omega, rfl⟩
    · rcases ih with h | ⟨k, h1, h2⟩
      · exact Or.inl h
      · exact Or.inr ⟨k, by omega, h2⟩
theorem rMk_mul (f g : Nat → Int) {m : Nat} (hm : m < 9) : rMk f g 81 m = pMul f g m := by
  have h1 : rMk f g 81 m ≤ pMul f g m := by
    rcases z_mn_at (fun i => z_plus (f i) (g (m - i))) (m + 1) with h | ⟨k, hk, h⟩
    · unfold pMul
      rw [h]
      exact rMk_le f g 81 m
    · unfold pMul
      rw [h]
      exact rMk_lb f g 81 m k (m - k) (by omega) (by omega) (by omega)
  have h2 : pMul f g m ≤ rMk f g 81 m := by
    rcases rMk_at f g 81 m with h | ⟨a, b, hb, hn, hab, h⟩
    · rw [h]
      exact z_mn_le _ _
    · rw [h]
      have w := z_mn_lb (fun i => z_plus (f i) (g (m - i))) (m + 1) a (by omega)
      have e : m - a = b := by omega
      unfold pMul
      rwa [e] at w
  omega
theorem z_plus_inf {x y : Int} (hx : x = INF ∨ (-9999 ≤ x ∧ x ≤ 9999)) (hy : y = INF ∨ (-9999 ≤ y ∧ y ≤ 9999)) : z_plus x y ≤ INF ∧ -20000 < z_plus x y ∧ (z_plus x y = INF ↔ ¬ (x ≠ INF ∧ y ≠ INF)) := by
  have b6 : INF = 1000000 := rfl
  unfold z_plus
  split <;> omega
theorem rMk_b {f g : Nat → Int} (hf : pOk f) (hg : pOk g) (n m : Nat) (hn : n ≤ 81) : -20000 < rMk f g n m := by
  have b6 : INF = 1000000 := rfl
  rcases rMk_at f g n m with h | ⟨a, b, h1, h2, h3, h4⟩
  · omega
  · rw [h4]
    exact (z_plus_inf (hf a (by omega)) (hg b h1)).2.1
/-- all beyond 8 are missing just when the class finds that both fit -/
theorem rMk_fits {f g : Nat → Int} (hf : pOk f) (hg : pOk g) : (∀ m, 9 ≤ m → m < 17 → rMk f g 81 m = INF) ↔ pFits f g 9 := by
  have b6 : INF = 1000000 := rfl
  constructor
  · intro h i j hi hi9 hj hij
    have w := h (i + j) hij (by omega)
    have l := rMk_lb f g 81 (i + j) i j hj (by omega) rfl
    have z := z_plus_inf (hf i hi) (hg j hj)
    exact z.2.2.mp (by omega)
  · intro h m h1 h2
    rcases rMk_at f g 81 m with w | ⟨a, b, hb, hn, hab, w⟩
    · exact w
    · rw [w]
      exact (z_plus_inf (hf a (by omega)) (hg b hb)).2.2.mpr (h a b (by omega) (by omega) hb (by omega))
def rMf (x : Int) (k : Nat) : Prop := if k < 9 then ¬ (x ≠ INF ∧ (x < -9999 ∨ 9999 < x)) else x = INF
theorem rMk_all {f g : Nat → Int} (hf : pOk f) (hg : pOk g) : (∀ k, k < 17 → rMf (rMk f g 81 k) k) ↔ pFits f g 9 ∧ pOk (pMul f g) := by
  rw [← rMk_fits hf hg]
  constructor
  · intro h
    refine ⟨fun m h1 h2 => ?_, fun k hk => ?_⟩
    · have w := h m h2
      unfold rMf at w
      rwa [if_neg (by omega)] at w
    · have w := h k (by omega)
      unfold rMf at w
      rw [if_pos hk, rMk_mul f g hk] at w
      omega
  · intro h k hk
    unfold rMf
    split
    · next hk9 =>
      have w := h.2 k hk9
      rw [rMk_mul f g hk9]
      omega
    · exact h.1 k (by omega) hk
theorem rMk_up {f g G : Nat → Int} {k : Nat} (hk : k < 81) : z_up (z_to 17 (rMk f g k) G) (k / 9 + k % 9) (if z_plus (f (k / 9)) (g (k % 9)) < rMk f g k (k / 9 + k % 9) then z_plus (f (k / 9)) (g (k % 9)) else rMk f g k (k / 9 + k % 9)) = z_to 17 (rMk f g (k + 1)) G := by
  funext x
  unfold z_up z_to
  by_cases c : x = k / 9 + k % 9
  · rw [if_pos c, if_pos (show x < 17 by omega)]
    conv => rhs; unfold rMk
    rw [if_pos c, c]
  · rw [if_neg c]
    by_cases d : x < 17
    · rw [if_pos d, if_pos d]
      conv => rhs; unfold rMk
      rw [if_neg c]
    · rw [if_neg d, if_neg d]
theorem pMul_pOk_v {f g : Nat → Int} (hf : pOk f) (hg : pOk g) (hm : pOk (pMul f g)) (hF : pFits f g 9) {x : Int} (h1 : -999 ≤ x) (h2 : x ≤ 999) : z_val (pMul f g) x 9 = z_plus (z_val f x 9) (z_val g x 9) := by
  have b6 : INF = 1000000 := rfl
  have at0 : ∀ m, m < 9 → pMul f g m ≠ INF → ∃ i j, i < 9 ∧ j < 9 ∧ i + j = m ∧ f i ≠ INF ∧ g j ≠ INF ∧ pMul f g m = f i + g j := by
    intro m hm9 hne
    rcases z_mn_at (fun i => z_plus (f i) (g (m - i))) (m + 1) with e | ⟨k, hk, e⟩
    · exact absurd e hne
    · have e' : pMul f g m = z_plus (f k) (g (m - k)) := e
      have z := z_plus_inf (hf k (by omega)) (hg (m - k) (by omega))
      have nn : f k ≠ INF ∧ g (m - k) ≠ INF := by
        rcases Classical.em (f k ≠ INF ∧ g (m - k) ≠ INF) with q | q
        · exact q
        · exact absurd (e'.trans (z.2.2.mpr q)) hne
      refine ⟨k, m - k, by omega, by omega, by omega, nn.1, nn.2, ?_⟩
      rw [e']
      unfold z_plus
      rw [if_neg (by omega)]
  have le0 : ∀ i j, i < 9 → j < 9 → f i ≠ INF → g j ≠ INF → i + j < 9 ∧ pMul f g (i + j) ≤ f i + g j := by
    intro i j hi hj fi gj
    have h9 : i + j < 9 := by
      rcases Nat.lt_or_ge (i + j) 9 with q | q
      · exact q
      · exact absurd ⟨fi, gj⟩ (hF i j hi hi hj q)
    refine ⟨h9, ?_⟩
    have w := z_mn_lb (fun x => z_plus (f x) (g (i + j - x))) (i + j + 1) i (by omega)
    have e : i + j - i = j := by omega
    have e2 : z_plus (f i) (g (i + j - i)) = f i + g j := by
      rw [e]
      unfold z_plus
      rw [if_neg (by omega)]
    simp only [e2] at w
    exact w
  rcases pV_in hf h1 h2 9 (Nat.le_refl 9) with ⟨vf, nf⟩ | ⟨bf, ⟨a, ha, fa, va⟩, lf⟩
  · have : ∀ m, m < 9 → pMul f g m = INF := fun m hm9 => by
      rcases Classical.em (pMul f g m = INF) with q | q
      · exact q
      · obtain ⟨i, j, hi, hj, -, fi, -⟩ := at0 m hm9 q
        exact absurd (nf i hi) fi
    rcases pV_in hm h1 h2 9 (Nat.le_refl 9) with ⟨vm, -⟩ | ⟨-, ⟨k, hk, pk, -⟩, -⟩
    · rw [vm, vf]
      unfold z_plus
      rw [if_pos (Or.inl rfl)]
    · exact absurd (this k hk) pk
  · rcases pV_in hg h1 h2 9 (Nat.le_refl 9) with ⟨vg, ng⟩ | ⟨bg, ⟨b, hb, gb, vb⟩, lg⟩
    · have : ∀ m, m < 9 → pMul f g m = INF := fun m hm9 => by
        rcases Classical.em (pMul f g m = INF) with q | q
        · exact q
        · obtain ⟨i, j, hi, hj, -, -, gj, -⟩ := at0 m hm9 q
          exact absurd (ng j hj) gj
      rcases pV_in hm h1 h2 9 (Nat.le_refl 9) with ⟨vm, -⟩ | ⟨-, ⟨k, hk, pk, -⟩, -⟩
      · rw [vm, vg]
        unfold z_plus
        rw [if_pos (Or.inr rfl)]
      · exact absurd (this k hk) pk
    · obtain ⟨h9, le⟩ := le0 a b ha hb fa gb
      have fab := hf a ha
      have gab := hg b hb
      have nab : pMul f g (a + b) ≠ INF := by omega
      rcases pV_in hm h1 h2 9 (Nat.le_refl 9) with ⟨-, nm⟩ | ⟨bm, ⟨k, hk, pk, vk⟩, lm⟩
      · exact absurd (nm (a + b) h9) nab
      · have u := lm (a + b) h9 nab
        obtain ⟨i, j, hi, hj, hij, fi, gj, e⟩ := at0 k hk pk
        have l1 := lf i hi fi
        have l2 := lg j hj gj
        have vfn : z_val f x 9 ≠ INF := by omega
        have vgn : z_val g x 9 ≠ INF := by omega
        unfold z_plus
        rw [if_neg (by omega)]
        unfold pL at *
        have d1 : ((a + b : Nat) : Int) * x = (a : Int) * x + (b : Int) * x := by rw [Int.natCast_add, Int.add_mul]
        have d2 : (k : Int) * x = (i : Int) * x + (j : Int) * x := by rw [← hij, Int.natCast_add, Int.add_mul]
        omega
/-- among 17 terms as many as among 9, if those beyond are missing -/
theorem rMk_cnt {f g : Nat → Int} (h : ∀ m, 9 ≤ m → m < 17 → rMk f g 81 m = INF) : z_cnt (fun m => z_dec (rMk f g 81 m ≠ INF)) 17 = z_cnt (fun k => z_dec (pMul f g k ≠ INF)) 9 := by
  have e : ∀ n, z_cnt (fun m => z_dec (rMk f g 81 m ≠ INF)) (9 + n) = z_cnt (fun m => z_dec (rMk f g 81 m ≠ INF)) 9 ∨ 8 < n := by
    intro n
    induction n with
    | zero => exact Or.inl rfl
    | succ n ih =>
      rcases ih with q | q
      · by_cases c : 8 < n + 1
        · exact Or.inr c
        · left
          have hz : z_dec (rMk f g 81 (9 + n) ≠ INF) = false := (z_dec_f _).mpr (fun w => w (h (9 + n) (by omega) (by omega)))
          show z_cnt _ (9 + n) + (if z_dec (rMk f g 81 (9 + n) ≠ INF) = true then 1 else 0) = _
          rw [q, hz, if_neg (by decide), Int.add_zero]
      · exact Or.inr (by omega)
  rcases e 8 with q | q
  · rw [show (17 : Nat) = 9 + 8 from rfl, q]
    exact z_cnt_cg 9 (fun k hk => by rw [rMk_mul f g hk])
  · omega
end PRD
