/-! MEANS: below 0 just when there is no star -/
section LMn
variable {A : Nat → Nat → Int} {n : Nat}
theorem fUp_neg {d k : Int} {p : Int × Int} (hk : 1 ≤ k) (hp : 1 ≤ p.2) : (fUp d k p).1 < 0 ↔ d < 0 ∨ p.1 < 0 := by
  have b6 : INF = 1000000 := rfl
  have up : d * p.2 < 0 ↔ d < 0 := by
    have := t_lt (x := d) (y := 0) hp
    rw [Int.zero_mul] at this
    exact this
  have up2 : p.1 * k < 0 ↔ p.1 < 0 := by
    have := t_lt (x := p.1) (y := 0) hk
    rw [Int.zero_mul] at this
    exact this
  unfold fUp
  by_cases c : d ≠ INF ∧ (p.1 = INF ∨ d * p.2 < p.1 * k)
  · rw [if_pos c]
    simp only
    refine ⟨Or.inl, fun w => ?_⟩
    rcases w with w | w
    · exact w
    · rcases c.2 with c2 | c2
      · omega
      · have := up2.mpr w
        exact up.mp (by omega)
  · rw [if_neg c]
    refine ⟨Or.inr, fun w => ?_⟩
    rcases w with w | w
    · rcases Int.lt_or_le p.1 0 with q | q
      · exact q
      · exfalso
        apply c
        refine ⟨by omega, Or.inr ?_⟩
        have := up.mpr w
        have : 0 ≤ p.1 * k := Int.mul_nonneg q (by omega)
        omega
    · exact w
theorem fSt_neg (hn : n ≤ 5) (hW : mWi A n) : ∀ k, k ≤ n → ((fSt A n k).1 < 0 ↔ ∃ m r, m < k ∧ r < n ∧ sP A n m r r < 0)
  | 0, _ => ⟨fun w => absurd w (by show ¬ (1000000 : Int) < 0; decide), fun ⟨m, _, h, _⟩ => absurd h (Nat.not_lt_zero m)⟩
  | k + 1, hk => by
    have b6 : INF = 1000000 := rfl
    have ih := fSt_neg hn hW k (by omega)
    have b := fSt_b hn hW k (by omega)
    have e : fSt A n (k + 1) = fUp (z_mn (fun r => sP A n k r r) n) ((k : Int) + 1) (fSt A n k) := rfl
    rw [e, fUp_neg (by omega) b.2.1, ih]
    constructor
    · rintro (w | ⟨m, r, h1, h2, h3⟩)
      · rcases z_mn_at (fun r => sP A n k r r) n with q | ⟨r, hr, q⟩
        · omega
        · exact ⟨k, r, by omega, hr, by rw [← q]; exact w⟩
      · exact ⟨m, r, by omega, h2, h3⟩
    · rintro ⟨m, r, h1, h2, h3⟩
      rcases Nat.lt_succ_iff_lt_or_eq.mp h1 with l | l
      · exact Or.inr ⟨m, r, l, h2, h3⟩
      · subst l
        have := z_mn_lb (fun r => sP A n m r r) n r h2
        left
        omega
theorem fRd_sg (p : Int × Int) (hp : 1 ≤ p.2) : ((fRd p).1 < 0 ↔ p.1 < 0) ∧ (p.1 < 0 → 0 < (fRd p).2) := by
  have b6 : INF = 1000000 := rfl
  have g := fG_d p hp
  have q := fG_q p hp
  unfold fRd
  by_cases c : p.1 = INF
  · rw [if_pos c]
    simp only
    omega
  · rw [if_neg c]
    simp only
    refine ⟨?_, fun _ => by omega⟩
    have t := t_lt (x := p.1.tdiv (fG p)) (y := 0) g.1
    rw [Int.zero_mul, Int.mul_comm, g.2.1] at t
    exact t.symm
/-- below 0: just when some way back is -/
theorem mean_neg (hA : mB 1000 A n) (hn : n ≤ 5) : (¬ ∀ x, x < n → 0 ≤ sP (wD A) n n x x) ↔ (fRd (fSt A n n)).1 < 0 := by
  have b6 : INF = 1000000 := rfl
  have hW : mWi A n := fun i j hi hj => by
    have := hA i j hi hj
    unfold eB at this
    omega
  have hD := wD_ok hW
  have b := fSt_b hn hW n (Nat.le_refl n)
  rw [(fRd_sg _ b.2.1).1, fSt_neg hn hW n (Nat.le_refl n)]
  constructor
  · intro q
    -- some simple way back is below 0
    have nN : ¬ wN (wD A) n := fun hN => q (fun x hx => by
      rcases sP_at hD n x x hx hx with e | ⟨l, l1, l2, l3⟩
      · omega
      · rw [l3]
        exact wN_b hN hx l2)
    have ex : ∃ x l, x < n ∧ l.Nodup ∧ x ∉ l ∧ wV (wD A) n x l x ∧ wW (wD A) x l x < 0 := by
      apply Classical.byContradiction
      intro w
      apply nN
      intro x l hx hd hxl v
      rcases Int.lt_or_le (wW (wD A) x l x) 0 with c | c
      · exact absurd ⟨x, l, hx, hd, hxl, v, c⟩ w
      · exact c
    obtain ⟨x, l, hx, hd, hxl, v, neg⟩ := ex
    -- it is one of the matrix itself
    have tr : ∀ (l : List Nat) (y : Nat), l.Nodup → y ∉ l → x ∉ l → y < n → (l = [] → y ≠ x ∨ wD A x x < 0) → wV (wD A) n y l x → wV A n y l x ∧ wW A y l x = wW (wD A) y l x := by
      intro l
      induction l with
      | nil =>
        intro y _ _ _ _ h v
        have e : wD A y x = A y x := by
          rcases h rfl with c | c
          · unfold wD
            rw [if_neg c]
          · by_cases d : y = x
            · subst d
              unfold wD at c ⊢
              rw [if_pos rfl] at c ⊢
              split at c
              · next c2 => rw [if_pos c2]
              · omega
            · unfold wD
              rw [if_neg d]
        have v' : wD A y x ≠ INF := v
        rw [e] at v'
        exact ⟨v', e.symm⟩
      | cons z l ih =>
        intro y hd hy hx' hyn _ v
        obtain ⟨v1, v2, v3⟩ := v
        have hd' := List.nodup_cons.mp hd
        have hy' : y ≠ z := fun e => hy (by subst e; exact List.mem_cons_self ..)
        have hxz : x ≠ z := fun e => hx' (by subst e; exact List.mem_cons_self ..)
        have e : wD A y z = A y z := by
          unfold wD
          rw [if_neg hy']
        have i := ih z hd'.2 hd'.1 (fun w => hx' (List.mem_cons_of_mem _ w)) v1 (fun _ => Or.inl (fun w => hxz w.symm)) v3
        refine ⟨⟨v1, by rw [← e]; exact v2, i.1⟩, ?_⟩
        show A y z + wW A z l x = wD A y z + wW (wD A) z l x
        rw [i.2, e]
    have t := tr l x hd hxl hxl hx (fun hl => by
      subst hl
      exact Or.inr neg) v
    have len := l_len n (x :: l) (List.nodup_cons.mpr ⟨hxl, hd⟩) (fun y hy => by
      rcases List.mem_cons.mp hy with w | w
      · subst w; exact hx
      · exact wV_lt l x x v y w)
    rw [List.length_cons] at len
    have lo := sPg_lo hA l.length l x x (by omega) rfl hx hx t.1
    exact ⟨l.length, x, by omega, hx, by rw [t.2] at lo; omega⟩
  · rintro ⟨m, r, hm, hr, neg⟩ q
    have hN := wN_q hD hn q
    rcases sPg_at (n := n) A m r r with e | ⟨l, l1, l2, l3⟩
    · omega
    · have tr : ∀ (l : List Nat) (y z : Nat), y < n → z < n → wV A n y l z → wV (wD A) n y l z ∧ wW (wD A) y l z ≤ wW A y l z := by
        have le : ∀ y z, y < n → z < n → A y z ≠ INF → wD A y z ≠ INF ∧ wD A y z ≤ A y z := fun y z hy hz h => by
          have b1 := hA y z hy hz
          have b2 := hA y y hy hy
          unfold eB at b1 b2
          unfold wD
          by_cases c : y = z
          · subst c
            rw [if_pos rfl]
            split <;> omega
          · rw [if_neg c]
            exact ⟨h, Int.le_refl _⟩
        intro l
        induction l with
        | nil => exact fun y z hy hz v => le y z hy hz v
        | cons x l ih =>
          intro y z hy hz v
          obtain ⟨v1, v2, v3⟩ := v
          have i := ih x z v1 hz v3
          have j := le y x hy v1 v2
          refine ⟨⟨v1, j.1, i.1⟩, ?_⟩
          show wD A y x + wW (wD A) x l z ≤ A y x + wW A x l z
          omega
      have t := tr l r r hr hr l2
      have := wN_b hN hr t.1
      omega
end LMn
