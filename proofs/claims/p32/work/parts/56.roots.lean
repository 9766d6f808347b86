/-! ROOTS: between two corners, one behind the other, from the highest places down -/
section PR
variable {f : Nat → Int}
/-- the corner that is the r-th from above -/
noncomputable def pU (f : Nat → Int) : Nat → Int
  | 0 => pCb f 9
  | r + 1 => pCb f (pU f r).toNat
theorem pCb_n (f : Nat → Int) : ∀ n : Nat, (∀ j : Nat, pCb f n < j → j < n → ¬ pCor f j) ∧ (pCb f n < 0 → pCb f n = -1 ∧ pCors f n = 0) ∧ (0 ≤ pCb f n → pCors f n = pCors f (pCb f n).toNat + 1)
  | 0 => ⟨fun j _ h => absurd h (Nat.not_lt_zero j), fun _ => ⟨rfl, rfl⟩, fun h => absurd h (by show ¬ (0 : Int) ≤ -1; omega)⟩
  | n + 1 => by
    have ih := pCb_n f n
    have b := pCb_b f n
    unfold pCb
    by_cases q : z_dec (pCor f n) = true
    · rw [if_pos q]
      refine ⟨fun j h1 h2 => by omega, fun h => by omega, fun _ => ?_⟩
      rw [Int.toNat_natCast]
      show z_cnt _ n + _ = z_cnt _ n + 1
      rw [if_pos q]
    · rw [if_neg q]
      have e : pCors f (n + 1) = pCors f n := by
        show z_cnt _ n + _ = z_cnt _ n
        rw [if_neg q]
        omega
      rw [e]
      refine ⟨fun j h1 h2 hc => ?_, ih.2.1, ih.2.2⟩
      rcases Nat.lt_succ_iff_lt_or_eq.mp h2 with l | l
      · exact ih.1 j h1 l hc
      · subst l; exact q ((z_dec_iff _).mpr hc)
theorem pU_c : ∀ r : Nat, (r : Int) < pCors f 9 → 0 ≤ pU f r ∧ pU f r < 9 ∧ pCor f (pU f r).toNat ∧ pCors f (pU f r).toNat = pCors f 9 - 1 - r
  | 0, h => by
    have b := pCb_b f 9
    have n := pCb_n f 9
    have h0 : 0 ≤ pCb f 9 := by
      rcases Int.lt_or_le (pCb f 9) 0 with q | q
      · have := (n.2.1 q).2
        omega
      · exact q
    refine ⟨h0, by show pCb f 9 < 9; omega, b.2.2 h0, ?_⟩
    have := n.2.2 h0
    show pCors f (pCb f 9).toNat = _
    omega
  | r + 1, h => by
    obtain ⟨i1, i2, i3, i4⟩ := pU_c r (by omega)
    have b := pCb_b f (pU f r).toNat
    have n := pCb_n f (pU f r).toNat
    have h0 : 0 ≤ pCb f (pU f r).toNat := by
      rcases Int.lt_or_le (pCb f (pU f r).toNat) 0 with q | q
      · have := (n.2.1 q).2
        omega
      · exact q
    refine ⟨h0, by show pCb f (pU f r).toNat < 9; omega, b.2.2 h0, ?_⟩
    have := n.2.2 h0
    show pCors f (pCb f (pU f r).toNat).toNat = _
    omega
/-- two corners, one behind the other -/
theorem pU_s {r : Nat} (h : (r : Int) + 1 < pCors f 9) : ∃ lo up : Nat, pU f r = (up : Int) ∧ pU f (r + 1) = (lo : Int) ∧ lo < up ∧ up < 9 ∧ pCor f lo ∧ pCor f up ∧ ∀ j, lo < j → j < up → ¬ pCor f j := by
  obtain ⟨a1, a2, a3, -⟩ := pU_c (f := f) r (by omega)
  obtain ⟨b1, b2, b3, -⟩ := pU_c (f := f) (r + 1) (by omega)
  have n := pCb_n f (pU f r).toNat
  have b := pCb_b f (pU f r).toNat
  have e : pU f (r + 1) = pCb f (pU f r).toNat := rfl
  refine ⟨(pU f (r + 1)).toNat, (pU f r).toNat, by omega, by omega, by omega, by omega, b3, a3, fun j h1 h2 => n.1 j (by omega) h2⟩
theorem pCors_0 (h : pCors f 9 = 0) : ∀ k, k < 9 → f k = INF := by
  intro k hk
  rcases Classical.em (f k = INF) with q | q
  · exact q
  · exfalso
    obtain ⟨w, hw, pw, mw⟩ := z_least (fun k => f k ≠ INF) 9 ⟨k, hk, q⟩
    have c := pCor_lo pw (fun j hj => Classical.not_not.mp (mw j hj))
    have n := pCb_n f 9
    have b := pCb_b f 9
    rcases Int.lt_or_le (pCb f 9) 0 with l | l
    · exact n.1 w (by have := (n.2.1 l).1; omega) hw c
    · have := n.2.2 l
      have := z_cnt_b (fun k => z_dec (pCor f k)) (pCb f 9).toNat
      unfold pCors at *
      omega
/-- the highest corner is the highest term, the lowest one the lowest -/
theorem pU_hi {H : Nat} (hH : H < 9) (tH : f H ≠ INF) (mH : ∀ j, H < j → j < 9 → f j = INF) : pU f 0 = (H : Int) := by
  have c := pCor_hi tH mH
  have n := pCb_n f 9
  have b := pCb_b f 9
  have e : pU f 0 = pCb f 9 := rfl
  rw [e]
  rcases Int.lt_trichotomy (pCb f 9) H with q | q | q
  · exact absurd c (n.1 H q hH)
  · exact q
  · have := (b.2.2 (by omega)).1
    rw [mH _ (by omega) (by omega)] at this
    exact absurd rfl this
theorem pU_lo {L : Nat} (hL : L < 9) (tL : f L ≠ INF) (mL : ∀ j, j < L → f j = INF) {r : Nat} (hr : (r : Int) + 1 = pCors f 9) : pU f r = (L : Int) := by
  have c := pCor_lo tL mL
  obtain ⟨a1, a2, a3, a4⟩ := pU_c (f := f) r (by omega)
  rcases Int.lt_trichotomy (pU f r) L with q | q | q
  · have := a3.1
    rw [mL _ (by omega)] at this
    exact absurd rfl this
  · exact q
  · exfalso
    have n := pCb_n f (pU f r).toNat
    rcases Int.lt_or_le (pCb f (pU f r).toNat) 0 with l | l
    · exact n.1 L (by have := (n.2.1 l).1; omega) (by omega) c
    · have := n.2.2 l
      have := z_cnt_b (fun k => z_dec (pCor f k)) (pCb f (pU f r).toNat).toNat
      unfold pCors at *
      omega
-- fractions that cannot be made shorter
theorem fDv_d (A B : Int) : ∀ k : Nat, A.tmod (fDv A B k) = 0 ∧ B.tmod (fDv A B k) = 0
  | 0 => by
    show A.tmod 1 = 0 ∧ B.tmod 1 = 0
    exact ⟨Int.tmod_one A, Int.tmod_one B⟩
  | k + 1 => by
    unfold fDv
    split
    · next h => exact h
    · exact fDv_d A B k
theorem fDv_q (A B : Int) (k : Nat) : A.tdiv (fDv A B k) * fDv A B k = A ∧ B.tdiv (fDv A B k) * fDv A B k = B := by
  have h := fDv_d A B k
  have e1 := Int.mul_tdiv_add_tmod A (fDv A B k)
  have e2 := Int.mul_tdiv_add_tmod B (fDv A B k)
  rw [h.1, Int.mul_comm] at e1
  rw [h.2, Int.mul_comm] at e2
  omega
/-- the fraction between two corners: above, below -/
def rAb (f : Nat → Int) (lo up : Nat) : Int := (f lo - f up).tdiv (fDv (f lo - f up) ((up : Int) - lo) ((up : Int) - lo - 1).toNat)
def rBl (f : Nat → Int) (lo up : Nat) : Int := ((up : Int) - lo).tdiv (fDv (f lo - f up) ((up : Int) - lo) ((up : Int) - lo - 1).toNat)
theorem rFr {lo up : Nat} (h : lo < up) : ∃ g : Int, 1 ≤ g ∧ rAb f lo up * g = f lo - f up ∧ rBl f lo up * g = (up : Int) - lo ∧ 1 ≤ rBl f lo up := by
  have b := fDv_b (f lo - f up) ((up : Int) - lo) ((up : Int) - lo - 1).toNat
  have q := fDv_q (f lo - f up) ((up : Int) - lo) ((up : Int) - lo - 1).toNat
  refine ⟨_, b.1, q.1, q.2, ?_⟩
  rcases Int.lt_or_le 0 (rBl f lo up) with w | w
  · omega
  · have := m_np w (Int.le_trans (by decide : (0 : Int) ≤ 1) b.1)
    have e := q.2
    unfold rBl at this
    omega
theorem rFr_t {lo up : Nat} (h : lo < up) : ((up : Int) - lo).tmod (rBl f lo up) = 0 ∧ ((up : Int) - lo).tdiv (rBl f lo up) * rAb f lo up = f lo - f up := by
  obtain ⟨g, g1, e1, e2, e3⟩ := rFr (f := f) h
  rw [← e2]
  constructor
  · exact Int.mul_tmod_right _ _
  · rw [Int.mul_tdiv_cancel_left _ (by omega), Int.mul_comm]
    exact e1
/-- what a term has at the root, times what is below the line -/
def rIt (f : Nat → Int) (o u : Int) (i : Nat) : Int := if f i = INF then 1999999999 else f i * u + (i : Int) * o
theorem rIt_g {lo up : Nat} (h : lo < up) {i : Nat} (hi : f i ≠ INF) : ∃ g : Int, 1 ≤ g ∧ rIt f (rAb f lo up) (rBl f lo up) i * g = pL f (f lo - f up) ((up : Int) - lo) i := by
  obtain ⟨g, g1, e1, e2, e3⟩ := rFr (f := f) h
  refine ⟨g, g1, ?_⟩
  unfold rIt pL
  rw [if_neg hi, ← e1, ← e2]
  grind
theorem rIt_e {lo up : Nat} (h : lo < up) : ∃ g : Int, 1 ≤ g ∧ ∀ i, f i ≠ INF → rIt f (rAb f lo up) (rBl f lo up) i * g = pL f (f lo - f up) ((up : Int) - lo) i := by
  obtain ⟨g, g1, e1, e2, e3⟩ := rFr (f := f) h
  refine ⟨g, g1, fun i hi => ?_⟩
  unfold rIt pL
  rw [if_neg hi, ← e1, ← e2]
  grind
theorem m_mono {x y g : Int} (hg : 1 ≤ g) (h : x * g ≤ y * g) : x ≤ y := by
  rcases Int.lt_or_le y x with q | q
  · have := Int.mul_lt_mul_of_pos_right q (show 0 < g by omega)
    omega
  · exact q
theorem m_mono' {x y g : Int} (hg : 1 ≤ g) (h : x * g < y * g) : x < y := by
  rcases Int.lt_or_le x y with q | q
  · exact q
  · have := Int.mul_le_mul_of_nonneg_right q (show 0 ≤ g by omega)
    omega
theorem rBl_b (hf : pOk f) {lo up : Nat} (h : lo < up) (h9 : up < 9) (c1 : f lo ≠ INF) (c2 : f up ≠ INF) : (1 ≤ rBl f lo up ∧ rBl f lo up ≤ 8) ∧ -19998 ≤ rAb f lo up ∧ rAb f lo up ≤ 19998 := by
  have b := fDv_b (f lo - f up) ((up : Int) - lo) ((up : Int) - lo - 1).toNat
  have l1 := hf lo (by omega)
  have l2 := hf up h9
  have b6 : INF = 1000000 := rfl
  obtain ⟨g, g1, e1, e2, e3⟩ := rFr (f := f) h
  have t1 := z_tdiv_b (A := f lo - f up) (m := fDv (f lo - f up) ((up : Int) - lo) ((up : Int) - lo - 1).toNat) (b := 19998) (by omega) (by omega)
  have t2 := z_tdiv_b (A := (up : Int) - lo) (m := fDv (f lo - f up) ((up : Int) - lo) ((up : Int) - lo - 1).toNat) (b := 8) (by omega) (by omega)
  unfold rBl at *
  unfold rAb
  omega
theorem rIt_b (hf : pOk f) {o u : Int} (ho : -19998 ≤ o ∧ o ≤ 19998) (hu : 1 ≤ u ∧ u ≤ 8) {i : Nat} (hi : i < 9) : rIt f o u i = 1999999999 ∨ (f i ≠ INF ∧ -300000 ≤ rIt f o u i ∧ rIt f o u i ≤ 300000) := by
  unfold rIt
  have b6 : INF = 1000000 := rfl
  by_cases q : f i = INF
  · left; rw [if_pos q]
  · right
    rw [if_neg q]
    have l := hf i hi
    have m1 : -80000 ≤ f i * u ∧ f i * u ≤ 80000 := by
      have a1 := Int.mul_le_mul (show f i ≤ 9999 by omega) hu.2 (by omega) (by decide)
      have a2 := Int.mul_le_mul (show -f i ≤ 9999 by omega) hu.2 (by omega) (by decide)
      rw [Int.neg_mul] at a2
      omega
    have m2 : -160000 ≤ (i : Int) * o ∧ (i : Int) * o ≤ 160000 := by
      have a1 := Int.mul_le_mul_of_nonneg_left ho.2 (show 0 ≤ (i : Int) by omega)
      have a2 := Int.mul_le_mul_of_nonneg_left ho.1 (show 0 ≤ (i : Int) by omega)
      omega
    exact ⟨q, by omega, by omega⟩
/-- the least, and how many have it -/
def lwT (F : Nat → Int) : Nat → Int × Int
  | 0 => (1999999999, 0)
  | i + 1 => (if (lwT F i).1 < F i then (lwT F i).1 else F i, if F i < (lwT F i).1 then 1 else if F i = (lwT F i).1 ∧ F i ≠ 1999999999 then (lwT F i).2 + 1 else (lwT F i).2)
theorem lwT_b (F : Nat → Int) : ∀ n, 0 ≤ (lwT F n).2 ∧ (lwT F n).2 ≤ n ∧ (lwT F n).1 ≤ 1999999999
  | 0 => by simp [lwT]
  | n + 1 => by
    have := lwT_b F n
    unfold lwT
    simp only
    split <;> split <;> (try split) <;> omega
theorem lwT_2 {F : Nat → Int} {lo up n : Nat} (h1 : lo < up) (h2 : up < n) (e : F lo = F up) (hm : ∀ j, j < n → F lo ≤ F j) (hb : F lo < 1999999999) : 2 ≤ (lwT F n).2 := by
  have key : ∀ m, m ≤ n → (m ≤ lo → F lo ≤ (lwT F m).1 ∧ 0 ≤ (lwT F m).2) ∧ (lo < m → m ≤ up → (lwT F m).1 = F lo ∧ 1 ≤ (lwT F m).2) ∧ (up < m → (lwT F m).1 = F lo ∧ 2 ≤ (lwT F m).2) := by
    intro m
    induction m with
    | zero => exact fun _ => ⟨fun _ => ⟨Int.le_of_lt hb, Int.le_refl 0⟩, fun q => absurd q (Nat.not_lt_zero _), fun q => absurd q (Nat.not_lt_zero _)⟩
    | succ m ih =>
      intro hmn
      obtain ⟨i1, i2, i3⟩ := ih (by omega)
      have hmm := hm m (by omega)
      have b := lwT_b F m
      refine ⟨fun q => ?_, fun q1 q2 => ?_, fun q => ?_⟩
      · have := i1 (by omega)
        unfold lwT
        simp only
        split <;> split <;> (try split) <;> omega
      · unfold lwT
        simp only
        by_cases c : m = lo
        · subst c
          have := i1 (Nat.le_refl _)
          split <;> split <;> (try split) <;> omega
        · have := i2 (by omega) (by omega)
          split <;> split <;> (try split) <;> omega
      · unfold lwT
        simp only
        by_cases c : m = up
        · subst c
          have := i2 h1 (Nat.le_refl _)
          split <;> split <;> (try split) <;> omega
        · have := i3 (by omega)
          split <;> split <;> (try split) <;> omega
  exact ((key n (Nat.le_refl n)).2.2 h2).2
/-- at a root two terms at least are least -/
theorem rTies (hf : pOk f) {lo up : Nat} (h : lo < up) (h9 : up < 9) (cl : pCor f lo) (cu : pCor f up) (hn : ∀ j, lo < j → j < up → ¬ pCor f j) : 1 < (lwT (rIt f (rAb f lo up) (rBl f lo up)) 9).2 := by
  obtain ⟨e1, e2⟩ := pCor_two h h9 cl cu hn
  obtain ⟨g, g1, eg⟩ := rIt_e (f := f) h
  have b := rBl_b hf h h9 cl.1 cu.1
  have bl := rIt_b hf b.2 b.1 (i := lo) (by omega)
  have eq : rIt f (rAb f lo up) (rBl f lo up) lo = rIt f (rAb f lo up) (rBl f lo up) up := by
    have x1 := eg lo cl.1
    have x2 := eg up cu.1
    have y1 := m_mono g1 (show rIt f (rAb f lo up) (rBl f lo up) lo * g ≤ rIt f (rAb f lo up) (rBl f lo up) up * g by omega)
    have y2 := m_mono g1 (show rIt f (rAb f lo up) (rBl f lo up) up * g ≤ rIt f (rAb f lo up) (rBl f lo up) lo * g by omega)
    omega
  have nl : rIt f (rAb f lo up) (rBl f lo up) lo ≤ 300000 := by
    unfold rIt at bl ⊢
    rw [if_neg cl.1] at bl ⊢
    rcases bl with bl | bl
    · exfalso
      have := rIt_b hf b.2 b.1 (i := lo) (by omega)
      unfold rIt at this
      rw [if_neg cl.1] at this
      have m1 := hf lo (by omega)
      have b6 : INF = 1000000 := rfl
      have a1 := Int.mul_le_mul (show f lo ≤ 9999 by have := cl.1; omega) b.1.2 (by omega) (by decide)
      have a2 := Int.mul_le_mul_of_nonneg_left b.2.2 (show 0 ≤ (lo : Int) by omega)
      omega
    · omega
  refine lwT_2 h h9 eq (fun j hj => ?_) (by omega)
  by_cases q : f j = INF
  · unfold rIt at nl ⊢
    rw [if_pos q]
    omega
  · exact m_mono g1 (by rw [eg lo cl.1, eg j q]; exact e2 j hj q)
/-- roots rise -/
theorem rRise {a k b : Nat} (h1 : a < k) (h2 : k < b) (h3 : b < 9) (ca : pCor f a) (ck : pCor f k) (cb : pCor f b) : rAb f k b * rBl f a k < rAb f a k * rBl f k b := by
  have hs : f k * ((b : Int) - a) < f a * ((b : Int) - k) + f b * ((k : Int) - a) := by
    rcases Int.lt_or_le (f k * ((b : Int) - a)) (f a * ((b : Int) - k) + f b * ((k : Int) - a)) with q | q
    · exact q
    · exact absurd ⟨ck.1, a, b, h1, h2, h3, ca.1, cb.1, q⟩ ck.2
  obtain ⟨g1, p1, e1, e2, -⟩ := rFr (f := f) h2
  obtain ⟨g2, p2, e3, e4, -⟩ := rFr (f := f) h1
  refine m_mono' (g := g1 * g2) (m_p1 p1 p2) ?_
  have x1 : rAb f k b * rBl f a k * (g1 * g2) = (f k - f b) * ((k : Int) - a) := by rw [← e1, ← e4]; grind
  have x2 : rAb f a k * rBl f k b * (g1 * g2) = (f a - f k) * ((b : Int) - k) := by rw [← e3, ← e2]; grind
  rw [x1, x2]
  have x3 : (f a - f k) * ((b : Int) - k) - (f k - f b) * ((k : Int) - a) = f a * ((b : Int) - k) + f b * ((k : Int) - a) - f k * ((b : Int) - a) := by grind
  omega
end PR
