/-! THE FACE: mean -/
section GCD
theorem fDv_g (A B : Int) : ∀ k : Nat, ∀ d : Int, 1 ≤ d → d ≤ (k : Int) + 1 → d ∣ A → d ∣ B → d ≤ fDv A B k
  | 0 => fun d h1 h2 _ _ => by unfold fDv; omega
  | k + 1 => fun d h1 h2 h3 h4 => by
    unfold fDv
    split
    · omega
    · next q =>
      refine fDv_g A B k d h1 ?_ h3 h4
      by_cases c : d = (k : Int) + 2
      · subst c
        exact absurd ⟨Int.tmod_eq_zero_of_dvd h3, Int.tmod_eq_zero_of_dvd h4⟩ q
      · omega
theorem fDv_gcd (A B : Int) (hB : 1 ≤ B) : fDv A B (B - 1).toNat = ((Nat.gcd A.natAbs B.toNat : Nat) : Int) := by
  have hg : 0 < Nat.gcd A.natAbs B.toNat := Nat.gcd_pos_of_pos_right _ (by omega)
  have hl : Nat.gcd A.natAbs B.toNat ≤ B.toNat := Nat.le_of_dvd (by omega) (Nat.gcd_dvd_right _ _)
  have b := fDv_b A B (B - 1).toNat
  have d0 := fDv_d A B (B - 1).toNat
  have d : fDv A B (B - 1).toNat ∣ A ∧ fDv A B (B - 1).toNat ∣ B := ⟨Int.dvd_of_tmod_eq_zero d0.1, Int.dvd_of_tmod_eq_zero d0.2⟩
  have eB : B.natAbs = B.toNat := by omega
  have h1 := fDv_g A B (B - 1).toNat ((Nat.gcd A.natAbs B.toNat : Nat) : Int) (by omega) (by omega) (Int.natAbs_dvd_natAbs.mp (show ((Nat.gcd A.natAbs B.toNat : Nat) : Int).natAbs ∣ A.natAbs from Nat.gcd_dvd_left _ _)) (Int.natAbs_dvd_natAbs.mp (show ((Nat.gcd A.natAbs B.toNat : Nat) : Int).natAbs ∣ B.natAbs from by rw [eB]; exact Nat.gcd_dvd_right _ _))
  have h2 := Nat.le_of_dvd hg (Nat.dvd_gcd (Int.natAbs_dvd_natAbs.mpr d.1) (by rw [← eB]; exact Int.natAbs_dvd_natAbs.mpr d.2))
  omega
end GCD
section FMe
variable {S : Nat → Nat → Int}
def fG (p : Int × Int) : Int := ((Nat.gcd p.1.natAbs p.2.toNat : Nat) : Int)
/-- the class's fraction, of what the reference keeps -/
def fRd (p : Int × Int) : Int × Int := if p.1 = INF then (0, -1) else (p.1.tdiv (fG p), p.2.tdiv (fG p))
def fUp (d k : Int) (p : Int × Int) : Int × Int := if d ≠ INF ∧ (p.1 = INF ∨ d * p.2 < p.1 * k) then (d, k) else p
def fRw (f : Nat → Int) (k : Int) (p : Int × Int) : Nat → Int × Int
  | 0 => p
  | r + 1 => fUp (f r) k (fRw f k p r)
theorem t_lt {x y k : Int} (hk : 1 ≤ k) : x * k < y * k ↔ x < y := by
  constructor
  · intro h
    exact Int.lt_of_mul_lt_mul_right h (by omega)
  · intro h
    exact Int.mul_lt_mul_of_pos_right h (by omega)
theorem t_le {x y k : Int} (hk : 1 ≤ k) : x * k ≤ y * k ↔ x ≤ y := by
  have := t_lt (x := y) (y := x) hk
  omega
theorem fRw_mn {f : Nat → Int} {k : Int} {p : Int × Int} (hk : 1 ≤ k) (hp : 1 ≤ p.2) : ∀ m, (∀ r, r < m → f r ≤ INF) → fRw f k p m = fUp (z_mn f m) k p
  | 0, _ => by
    unfold fRw fUp
    rw [if_neg (fun w => w.1 rfl)]
  | m + 1, h => by
    have ih := fRw_mn hk hp m (fun r hr => h r (by omega))
    have hm := h m (by omega)
    have e : z_mn f (m + 1) = if f m < z_mn f m then f m else z_mn f m := rfl
    have zl := z_mn_le f m
    rw [fRw, ih, e]
    generalize z_mn f m = z at *
    generalize f m = x at *
    obtain ⟨o, u⟩ := p
    have b6 : INF = 1000000 := rfl
    have t1 := t_lt (x := x) (y := z) hk
    have t2 := t_le (x := z) (y := x) hp
    have t3 := t_le (x := x) (y := z) hp
    unfold fUp
    simp only at hp t2 t3 ⊢
    by_cases c : x < z
    · rw [if_pos c]
      by_cases d : z ≠ INF ∧ (o = INF ∨ z * u < o * k)
      · rw [if_pos d]
        simp only
        have : x ≠ INF := by omega
        rw [if_pos ⟨this, Or.inr (t1.mpr c)⟩]
        rcases d.2 with w | w
        · rw [if_pos ⟨this, Or.inl w⟩]
        · have := t3.mpr (by omega)
          rw [if_pos ⟨‹x ≠ INF›, Or.inr (by omega)⟩]
      · rw [if_neg d]
    · rw [if_neg c]
      by_cases d : z ≠ INF ∧ (o = INF ∨ z * u < o * k)
      · rw [if_pos d]
        simp only
        rw [if_neg (fun w => w.2.elim (fun v => d.1 v) (fun v => c (t1.mp v)))]
      · have zx : z ≤ x := by omega
        have zu := t2.mpr zx
        rw [if_neg d, if_neg (fun w => d ⟨fun e => w.1 (by omega), w.2.elim Or.inl (fun v => Or.inr (Int.lt_of_le_of_lt zu v))⟩)]
theorem fG_d (p : Int × Int) (hp : 1 ≤ p.2) : 1 ≤ fG p ∧ fG p * p.1.tdiv (fG p) = p.1 ∧ fG p * p.2.tdiv (fG p) = p.2 := by
  have g0 : 0 < Nat.gcd p.1.natAbs p.2.toNat := Nat.gcd_pos_of_pos_right _ (by omega)
  have d1 : fG p ∣ p.1 := Int.ofNat_dvd_left.mpr (Nat.gcd_dvd_left _ _)
  have d2 : fG p ∣ p.2 := by
    have w : fG p ∣ ((p.2.toNat : Nat) : Int) := Int.natCast_dvd_natCast.mpr (Nat.gcd_dvd_right _ _)
    rw [Int.toNat_of_nonneg (by omega)] at w
    exact w
  refine ⟨?_, Int.mul_tdiv_cancel' d1, Int.mul_tdiv_cancel' d2⟩
  unfold fG
  omega
theorem fG_q (p : Int × Int) (hp : 1 ≤ p.2) : 1 ≤ p.2.tdiv (fG p) := by
  obtain ⟨a, -, c⟩ := fG_d p hp
  have h0 : ¬ p.2.tdiv (fG p) ≤ 0 := fun w => by
    have : fG p * p.2.tdiv (fG p) ≤ 0 := Int.mul_nonpos_of_nonneg_of_nonpos (by omega) w
    omega
  omega
/-- the fractions compare as the pairs do -/
theorem fRd_lt (p : Int × Int) (hp : 1 ≤ p.2) (d k : Int) : d * p.2.tdiv (fG p) < p.1.tdiv (fG p) * k ↔ d * p.2 < p.1 * k := by
  obtain ⟨a, b, c⟩ := fG_d p hp
  have t := t_lt (x := d * p.2.tdiv (fG p)) (y := p.1.tdiv (fG p) * k) a
  rw [← t]
  have e1 : d * p.2.tdiv (fG p) * fG p = d * p.2 := by rw [Int.mul_assoc, Int.mul_comm (p.2.tdiv (fG p)), c]
  have e2 : p.1.tdiv (fG p) * k * fG p = p.1 * k := by rw [Int.mul_assoc, Int.mul_comm k, ← Int.mul_assoc, Int.mul_comm (p.1.tdiv (fG p)), b]
  rw [e1, e2]
theorem t_mb {x y a b : Int} (hx : -a ≤ x ∧ x ≤ a) (hy : -b ≤ y ∧ y ≤ b) : -(a * b) ≤ x * y ∧ x * y ≤ a * b := by
  have h : (x * y).natAbs ≤ (a * b).natAbs := by
    rw [Int.natAbs_mul, Int.natAbs_mul]
    exact Nat.mul_le_mul (by omega) (by omega)
  have p : 0 ≤ a * b := Int.mul_nonneg (by omega) (by omega)
  omega
/-- the class's fraction when it may be made less -/
theorem fRd_up (p : Int × Int) (hp : 1 ≤ p.2) {d k : Int} (hd : d ≠ INF) : (if (fRd p).2 = -1 ∨ d * (fRd p).2 < (fRd p).1 * k then fRd (d, k) else fRd p) = fRd (fUp d k p) := by
  by_cases c : p.1 = INF
  · have e : fRd p = (0, -1) := by unfold fRd; rw [if_pos c]
    rw [if_pos (Or.inl (by rw [e]))]
    unfold fUp
    rw [if_pos ⟨hd, Or.inl c⟩]
  · have e : fRd p = (p.1.tdiv (fG p), p.2.tdiv (fG p)) := by unfold fRd; rw [if_neg c]
    have q := fG_q p hp
    have l := fRd_lt p hp d k
    rw [e]
    simp only
    by_cases w : d * p.2 < p.1 * k
    · rw [if_pos (Or.inr (l.mpr w))]
      unfold fUp
      rw [if_pos ⟨hd, Or.inr w⟩]
    · rw [if_neg (fun v => v.elim (fun v => by omega) (fun v => w (l.mp v)))]
      unfold fUp
      rw [if_neg (fun v => v.2.elim c w), e]
/-- what is kept behind k lengths -/
def fSt (A : Nat → Nat → Int) (n : Nat) : Nat → Int × Int
  | 0 => (INF, 1)
  | k + 1 => fUp (z_mn (fun r => sP A n k r r) n) ((k : Int) + 1) (fSt A n k)
theorem sP_b2 {A : Nat → Nat → Int} {n : Nat} (hW : mWi A n) : ∀ (m : Nat) {i j : Nat}, i < n → j < n → sP A n m i j = INF ∨ (-(99999 * ((m : Int) + 1)) ≤ sP A n m i j ∧ sP A n m i j ≤ 99999 * ((m : Int) + 1))
  | 0, i, j, hi, hj => by
    have := hW i j hi hj
    show A i j = INF ∨ (-(99999 * ((0 : Int) + 1)) ≤ A i j ∧ A i j ≤ 99999 * ((0 : Int) + 1))
    omega
  | m + 1, i, j, hi, hj => by
    have b6 : INF = 1000000 := rfl
    rcases z_mn_at (fun k => z_plus (sP A n m i k) (A k j)) n with q | ⟨k, hk, q⟩
    · exact Or.inl q
    · have q' : sP A n (m + 1) i j = z_plus (sP A n m i k) (A k j) := q
      have i1 := sP_b2 hW m hi hk
      have i2 := hW k j hk hj
      rw [q']
      unfold z_plus
      split
      · exact Or.inl rfl
      · right
        rw [show ((m + 1 : Nat) : Int) = (m : Int) + 1 from rfl]
        omega
theorem fSt_b {A : Nat → Nat → Int} {n : Nat} (hn : n ≤ 5) (hW : mWi A n) : ∀ k, k ≤ n → ((fSt A n k).1 = INF ∨ (-499995 ≤ (fSt A n k).1 ∧ (fSt A n k).1 ≤ 499995)) ∧ 1 ≤ (fSt A n k).2 ∧ (fSt A n k).2 ≤ 5
  | 0, _ => by
    refine ⟨Or.inl rfl, ?_⟩
    show (1 : Int) ≤ 1 ∧ (1 : Int) ≤ 5
    omega
  | k + 1, hk => by
    have ih := fSt_b hn hW k (by omega)
    unfold fSt fUp
    split
    · next q =>
      refine ⟨?_, by show (1 : Int) ≤ (k : Int) + 1 ∧ (k : Int) + 1 ≤ 5; omega⟩
      rcases z_mn_at (fun r => sP A n k r r) n with w | ⟨r, hr, w⟩
      · exact Or.inl w
      · have := sP_b2 hW k hr hr
        have w' : z_mn (fun r => sP A n k r r) n = sP A n k r r := w
        rw [w']
        omega
    · exact ih
theorem fRw_b {A : Nat → Nat → Int} {n : Nat} (hn : n ≤ 5) (hW : mWi A n) {k : Nat} (hk : k < n) : ∀ r, r ≤ n → ((fRw (fun r => sP A n k r r) ((k : Int) + 1) (fSt A n k) r).1 = INF ∨ (-499995 ≤ (fRw (fun r => sP A n k r r) ((k : Int) + 1) (fSt A n k) r).1 ∧ (fRw (fun r => sP A n k r r) ((k : Int) + 1) (fSt A n k) r).1 ≤ 499995)) ∧ 1 ≤ (fRw (fun r => sP A n k r r) ((k : Int) + 1) (fSt A n k) r).2 ∧ (fRw (fun r => sP A n k r r) ((k : Int) + 1) (fSt A n k) r).2 ≤ 5
  | 0, _ => fSt_b hn hW k (by omega)
  | r + 1, hr => by
    have ih := fRw_b hn hW hk r (by omega)
    unfold fRw fUp
    split
    · refine ⟨?_, by show (1 : Int) ≤ (k : Int) + 1 ∧ (k : Int) + 1 ≤ 5; omega⟩
      have := sP_b2 hW k (show r < n by omega) (show r < n by omega)
      show sP A n k r r = INF ∨ _
      omega
    · exact ih
theorem fRd_b (p : Int × Int) (h : (p.1 = INF ∨ (-499995 ≤ p.1 ∧ p.1 ≤ 499995)) ∧ 1 ≤ p.2 ∧ p.2 ≤ 5) : (-499995 ≤ (fRd p).1 ∧ (fRd p).1 ≤ 499995) ∧ -1 ≤ (fRd p).2 ∧ (fRd p).2 ≤ 5 := by
  have g := (fG_d p h.2.1).1
  unfold fRd
  split
  · simp
  · have b1 := z_tdiv_b (A := p.1) (m := fG p) (b := 499995) (by omega) (by omega)
    have b2 := z_tdiv_b (A := p.2) (m := fG p) (b := 5) (by omega) (by omega)
    have b3 := fG_q p h.2.1
    exact ⟨b1, by show -1 ≤ p.2.tdiv (fG p); omega, b2.2⟩
theorem k_C37 (f : Nat → Int) : k_C 37 f = .inl (2, [vR 38, vI (f 0)]) := rfl
theorem k_C39 : ∀ j, j < 5 → ∀ f, k_C (39 + j) f = .inr (0, 5, f) := fun j hj f => by
  obtain rfl | rfl | rfl | rfl | rfl : j = 0 ∨ j = 1 ∨ j = 2 ∨ j = 3 ∨ j = 4 := by omega
  all_goals rfl
/-- a heap in which the drafts and the fraction alone have changed -/
def fFr (q : Nat) : Prop := q = 30 ∨ mRow 32 q ∨ q = 37 ∨ mRow 39 q ∨ q = 45
theorem k_back2 {X : z_Hp} {S : Nat → Nat → Int} {n1 n2 : Nat} {M1 M2 : Nat → Nat → Int} {x y : Int} {h' : z_Hp} (a1 : mAt h' 30 31 32 n1 M1) (a2 : mAt h' 37 38 39 n2 M2) (af : h'[45]? = some (.inl (1, [vI x, vI y]))) (f : z_fr fFr (k_W X S) h') : h' = k_W X (k_mt (k_mt (k_u S 45 (z_up (z_up (S 45) 0 x) 1 y)) 30 32 n1 M1) 37 39 n2 M2) := by
  have hf : ∀ q, q ≠ 30 → ¬ (32 ≤ q ∧ q < 37) → q ≠ 37 → ¬ (39 ≤ q ∧ q < 44) → q ≠ 45 → h'[q]? = (k_W X S)[q]? := fun q h1 h2 h3 h4 h5 => f q (by rintro (w | w | w | w | w); exact h1 w; exact h2 w; exact h3 w; exact h4 w; exact h5 w)
  refine k_ext (T := S) (fun q hq => ?_) (fun q hq => hf q (by omega) (by omega) (by omega) (by omega) (by omega))
  by_cases c1 : q = 37
  · subst c1
    rw [a2.1, k_C37, k_mt_o]
  · by_cases c2 : 39 ≤ q ∧ q < 44
    · obtain ⟨z, rfl⟩ : ∃ z, q = 39 + z := ⟨q - 39, by omega⟩
      rw [a2.2.2 z (by omega), k_C39 z (by omega), k_mt_r (by omega) (by omega)]
    · rw [k_mt_n c1 (by omega)]
      by_cases c3 : q = 30
      · subst c3
        rw [a1.1, k_C30, k_mt_o]
      · by_cases c4 : 32 ≤ q ∧ q < 37
        · obtain ⟨z, rfl⟩ : ∃ z, q = 32 + z := ⟨q - 32, by omega⟩
          rw [a1.2.2 z (by omega), k_C32 z (by omega), k_mt_r (by omega) (by omega)]
        · rw [k_mt_n c3 (by omega)]
          by_cases c5 : q = 45
          · subst c5
            rw [af, k_u_s]
            rfl
          · rw [hf q c3 c4 c1 c2 c5, k_get hq, k_u_n c5]
/-- which draft holds the ways, which the longer ones -/
def fSd (ow ew rw ol el rl : Nat) : Prop := (ow = 30 ∧ ew = 31 ∧ rw = 32 ∧ ol = 37 ∧ el = 38 ∧ rl = 39) ∨ (ow = 37 ∧ ew = 38 ∧ rw = 39 ∧ ol = 30 ∧ el = 31 ∧ rl = 32)
def fI (X : z_Hp) (S A : Nat → Nat → Int) (i n k : Nat) (p : Int × Int) (ow ol : Nat) (h' : z_Hp) : Prop := ∃ ew rw el rl nl Mw Ml, fSd ow ew rw ol el rl ∧ mAt h' ow ew rw n Mw ∧ mAt h' ol el rl nl Ml ∧ nl ≤ 5 ∧ mBd Mw 1000000000 ∧ mBd Ml 1000000000 ∧ (∀ x y, x < n → y < n → Mw x y = sP A n k x y) ∧ h'[45]? = some (.inl (1, [vI p.1, vI p.2])) ∧ z_fr fFr (k_W X S) h' ∧ mAt h' (51 + 9 * i) (52 + 9 * i) (53 + 9 * i) n (kF S (53 + 9 * i) 5)
/-- the fraction alone is set -/
theorem fI.set {X : z_Hp} {S A : Nat → Nat → Int} {i n k : Nat} {p : Int × Int} {ow ol : Nat} {h' : z_Hp} (f : fI X S A i n k p ow ol h') (hi : i < 4) (p' : Int × Int) : fI X S A i n k p' ow ol (h'.set 45 (.inl (1, [vI p'.1, vI p'.2]))) := by
  obtain ⟨ew, rw, el, rl, nl, Mw, Ml, sd, mw, ml, hnl, bw, bl, eqw, f45, fr, ms⟩ := f
  have fs : z_fr (fun q => q = 45) h' (h'.set 45 (.inl (1, [vI p'.1, vI p'.2]))) := z_fr.set rfl
  have sdw : ow < 45 ∧ ew < 45 ∧ rw + 5 ≤ 45 ∧ ol < 45 ∧ el < 45 ∧ rl + 5 ≤ 45 := by
    rcases sd with ⟨rfl, rfl, rfl, rfl, rfl, rfl⟩ | ⟨rfl, rfl, rfl, rfl, rfl, rfl⟩ <;> decide
  exact ⟨ew, rw, el, rl, nl, Mw, Ml, sd, mw.fr fs (by omega) (by omega) (fun x hx => by omega), ml.fr fs (by omega) (by omega) (fun x hx => by omega), hnl, bw, bl, eqw, z_set_get f45, fr.tr (fs.mono (fun q hq => Or.inr (Or.inr (Or.inr (Or.inr hq))))), ms.fr fs (by omega) (by omega) (fun x hx => by omega)⟩
theorem fI.o0 {X : z_Hp} {S A : Nat → Nat → Int} {i n k : Nat} {p : Int × Int} {ow ol : Nat} {h' : z_Hp} (f : fI X S A i n k p ow ol h') : z_obj h' 0 5 = some [vR 1, vR 2, vR 3, vR 8, vR 28, vR 30, vR 37, vR 44, vR 45, vR 46] := by
  obtain ⟨ew, rw, el, rl, nl, Mw, Ml, sd, mw, ml, hnl, bw, bl, eqw, f45, fr, ms⟩ := f
  have k0 := fr 0 (by unfold fFr mRow; omega)
  rw [k_get (by decide)] at k0
  exact q_obj k0
/-- a step of the lengths -/
theorem fI.next {X : z_Hp} {S A : Nat → Nat → Int} {i n k : Nat} {p : Int × Int} {ow ol : Nat} {h' : z_Hp} (f : fI X S A i n k p ow ol h') (hi : i < 4) (hn : n ≤ 5) (hk : k ≤ 5) (nB : mBd (kF S (53 + 9 * i) 5) 1000000000) (nE : ∀ x y, x < n → y < n → kF S (53 + 9 * i) 5 x y = A x y) (nW : mWi A n) : ∃ h2, m_X2_becomeProduct [vR ol, vR ow, vR (51 + 9 * i)] h' = some (.inl none, h2) ∧ fI X S A i n (k + 1) p ol ow h2 := by
  have b6 : INF = 1000000 := rfl
  obtain ⟨ew, rw, el, rl, nl, Mw, Ml, sd, mw, ml, hnl, bw, bl, eqw, f45, fr, ms⟩ := f
  have sdw : ow < 45 ∧ ew < 45 ∧ rw + 5 ≤ 45 ∧ ol < 45 ∧ el < 45 ∧ rl + 5 ≤ 45 ∧ ol ≠ ow ∧ ol ≠ ew ∧ (rl + 5 ≤ rw ∨ rw + 5 ≤ rl) ∧ (rl + 5 ≤ ow ∨ ow < rl) ∧ (rl + 5 ≤ ew ∨ ew < rl) ∧ (rw + 5 ≤ ol ∨ ol < rw) := by
    rcases sd with ⟨rfl, rfl, rfl, rfl, rfl, rfl⟩ | ⟨rfl, rfl, rfl, rfl, rfl, rfl⟩ <;> decide
  obtain ⟨h2, x1, x2, x3⟩ := s_prodM ml mw ms ⟨by omega, fun x y hx hy => by omega⟩ ⟨by omega, fun x y hx hy => by omega⟩ hn bw nB
  have sd' : fSd ol el rl ow ew rw := by
    rcases sd with ⟨rfl, rfl, rfl, rfl, rfl, rfl⟩ | ⟨rfl, rfl, rfl, rfl, rfl, rfl⟩
    · exact Or.inr ⟨rfl, rfl, rfl, rfl, rfl, rfl⟩
    · exact Or.inl ⟨rfl, rfl, rfl, rfl, rfl, rfl⟩
  have fo : ∀ q, (q = ol ∨ mRow rl q) → fFr q := fun q hq => by
    unfold fFr
    rcases sd with ⟨-, -, -, rfl, -, rfl⟩ | ⟨-, -, -, rfl, -, rfl⟩
    · exact hq.elim (fun w => Or.inr (Or.inr (Or.inl w))) (fun w => Or.inr (Or.inr (Or.inr (Or.inl w))))
    · exact hq.elim Or.inl (fun w => Or.inr (Or.inl w))
  have eq' : ∀ x y, x < n → y < n → (if x < n ∧ y < n then mMul Mw (kF S (53 + 9 * i) 5) n x y else Ml x y) = sP A n (k + 1) x y := fun x y hx hy => by
    rw [if_pos ⟨hx, hy⟩]
    exact mMul_cg (fun z hz => eqw x z hx hz) (fun z hz => nE z y hz hy)
  refine ⟨h2, x1, el, rl, ew, rw, n, _, Mw, sd', x2, mw.fr x3 (by unfold mRow; omega) (by unfold mRow; omega) (fun x hx => by unfold mRow; omega), hn, fun x y hx hy => ?_, bw, eq', ?_, fr.tr (x3.mono fo), ms.fr x3 (by unfold mRow; omega) (by unfold mRow; omega) (fun x hx => by unfold mRow; omega)⟩
  · dsimp only
    by_cases c : x < n ∧ y < n
    · rw [eq' x y c.1 c.2]
      have := sP_b2 nW (k + 1) c.1 c.2
      omega
    · rw [if_neg c]
      exact bl x y hx hy
  · rw [x3 45 (by unfold mRow; omega)]
    exact f45
theorem s_meanOf {X : z_Hp} (I : cInv S) {i n : Nat} (hi : i < 4) (nb : 1 ≤ n ∧ n ≤ 5) (n51 : S (51 + 9 * i) 0 = (n : Int)) (nB : mBd (kF S (53 + 9 * i) 5) 1000000000) (nE : ∀ x y, x < n → y < n → kF S (53 + 9 * i) 5 x y = cM S i x y) (nW : mWi (cM S i) n) :
    ∃ T, m_X5_findLeastMean [vR 0, vR (51 + 9 * i)] (k_W X S) = some (.inl none, k_W X T) ∧ (∀ a, ¬ cFree a → ¬ (30 ≤ a ∧ a ≤ 43) → T a = S a) ∧ kI5 T ∧ T 45 0 = (fRd (fSt (cM S i) n n)).1 ∧ T 45 1 = (fRd (fSt (cM S i) n n)).2 := by
  have b6 : INF = 1000000 := rfl
  obtain ⟨A, hA⟩ : ∃ A, A = cM S i := ⟨_, rfl⟩
  rw [← hA] at nE nW ⊢
  obtain ⟨p30, hp30, e30⟩ := I.2.2.2.2.1
  obtain ⟨p37, hp37, e37⟩ := I.2.2.2.2.2.1
  have B30 := I.2.2.2.2.2.2.1
  have B37 := I.2.2.2.2.2.2.2
  have fn := s_frNone (h := k_W X S) (o := 45) (x := vI (S 45 0)) (y := vI (S 45 1)) (k_get (by decide))
  rw [k_sf] at fn
  obtain ⟨S0, hS0⟩ : ∃ S0, S0 = k_u S 45 (z_up (z_up (S 45) 0 0) 1 (-1)) := ⟨_, rfl⟩
  rw [← hS0] at fn
  have o0 : ∀ a, a ≠ 45 → S0 a = S a := fun a h => by rw [hS0, k_u_n h]
  have F0 : ∀ a n, (a + n ≤ 45 ∨ 45 < a) → kF S0 a n = kF S a n := fun a n h => by rw [hS0, kF_u (by omega)]
  have g45 : (k_W X S0)[45]? = some (.inl (1, [vI 0, vI (-1)])) := by
    rw [k_get (by decide), hS0, k_u_s]
    rfl
  obtain ⟨h1, x1, x2, x3⟩ := s_copyM (k_mat30 (X := X) (S := S0) (n := p30) (by rw [o0 _ (by decide)]; exact e30)) (k_mat (S := S0) hi (n := n) (by rw [o0 _ (by omega)]; exact n51)) ⟨by omega, fun x y hx hy => by omega⟩
  have ms1 : mAt h1 (51 + 9 * i) (52 + 9 * i) (53 + 9 * i) n (kF S (53 + 9 * i) 5) := by
    have w := (k_mat (S := S0) hi (n := n) (by rw [o0 _ (by omega)]; exact n51)).fr x3 (by unfold mRow; omega) (by unfold mRow; omega) (fun x hx => by unfold mRow; omega)
    rw [F0 _ _ (by omega)] at w
    exact w
  have m37 : mAt h1 37 38 39 p37 (kF S 39 5) := by
    have w := (k_mat37 (X := X) (S := S0) (n := p37) (by rw [o0 _ (by decide)]; exact e37)).fr x3 (by unfold mRow; omega) (by unfold mRow; omega) (fun x hx => by unfold mRow; omega)
    rw [F0 _ _ (by omega)] at w
    exact w
  have f45 : h1[45]? = some (.inl (1, [vI 0, vI (-1)])) := by
    rw [x3 45 (by unfold mRow; omega)]
    exact g45
  have fr1 : z_fr fFr (k_W X S) h1 := fun q hq => by
    unfold fFr at hq
    rw [x3 q (fun w => hq (w.elim Or.inl (fun w => Or.inr (Or.inl w))))]
    have h45 : q ≠ 45 := fun w => hq (Or.inr (Or.inr (Or.inr (Or.inr w))))
    by_cases c : q < 85
    · rw [k_get c, k_get c, o0 q h45]
    · rw [k_hi (by omega), k_hi (by omega)]
  have M1 : mBd (fun x y => if x < 5 ∧ y < 5 then kF S0 (53 + 9 * i) 5 x y else kF S0 32 5 x y) 1000000000 := fun x y hx hy => by
    simp only [hx, hy, and_self, if_true]
    rw [F0 _ _ (by omega)]
    exact nB x y hx hy
  have f0 : fI X S A i n 0 (0, -1) 30 37 h1 := ⟨31, 32, 38, 39, p37, _, _, Or.inl ⟨rfl, rfl, rfl, rfl, rfl, rfl⟩, x2, m37, hp37, M1, B37, fun x y hx hy => by rw [if_pos ⟨by omega, by omega⟩, F0 _ _ (by omega)]; exact nE x y hx hy, f45, fr1, ms1⟩
  have run : ∃ h', m_X5_findLeastMean [vR 0, vR (51 + 9 * i)] (k_W X S) = some (.inl none, h') ∧ ∃ ow ol, fI X S A i n n (fRd (fSt A n n)) ow ol h' := by
    unfold m_X5_findLeastMean
    rw [k_v0]
    apply q_bodyV
    have b6 : INF = 1000000 := rfl
    simp only [b_X5_findLeastMean, k_o0, fn, x1, qS_nop, qS_seq, qS_set, qS_setJ, qS_if, qS_brk, qS_ret, qS_retV, qS_throw, qS_inc, qS_cl, qS_ast, qS_aop, qS_fst, qS_fop, qS_sw, qT_eC, qT_eCB, qT_eL, qT_eLJ, qT_eLR, qT_eLS, qT_eSLen, qT_eSLd, qT_eLB, qT_e1, qT_e2, qT_bCmp, qT_bCmpJ, qT_bAnd, qT_bOr, qT_bNot, qT_eBI, qT_eIf, qT_eLd, qT_eLdR, qT_eLen, qT_eF, qT_eFR, qT_aN, qT_aS, qT_eCl, qT_eClR, qT_eClB, qT_some, qT_x, z_nx_N, z_nx_B, z_nx_R, z_nx_X, z_bk_N, z_bk_B, z_bk_R, z_bk_X, oAdd, oSub, oMul, oNeg, cLt, cLe, cGt, cGe, cEq, cNe, Option.some.injEq, Sum.inl.injEq, Sum.inr.injEq, Prod.mk.injEq, exists_eq_left, exists_eq_left', exists_eq_right, exists_and_left, reduceCtorEq, and_true, true_and, and_false, false_and, List.getElem?_cons_zero, List.getElem?_cons_succ, List.set_cons_zero, List.set_cons_succ, List.replicate, List.length_cons, List.length_nil, List.cons_append, List.nil_append, Nat.reduceAdd, Nat.reduceSub, decide_eq_true_eq, decide_eq_false_iff_not, Bool.true_eq_false, Bool.false_eq_true, true_implies, false_implies, implies_true, Nat.reduceLT, exists_const, z_vB_inj, and_assoc, z_in_iff, oI2L, oL2I, Int.toNat_natCast, z_toNat0, Bool.not_eq_true', Bool.not_eq_false', ne_eq, Bool.not_true, Bool.not_false, Nat.add_zero, Int.add_zero, z_sl_s]
    refine qS_loop (fun k ρ h' => ∃ ow ol x, fI X S A i n k (fRd (fSt A n k)) ow ol h' ∧ ρ = [vR 0, vR (51 + 9 * i), vR ow, vR ol, vI ((k : Int) + 1), x]) n ?_ ?_ n 0 z_fuel _ _ (by omega) (z_fuel_lt (by omega)) ⟨30, 37, _, f0, rfl⟩
    · rintro k ρ h' hk ⟨ow, ol, x, f, rfl⟩
      have ho0 := f.o0
      have ff := f
      obtain ⟨ew, rw, el, rl, nl, Mw, Ml, sd, mw, ml, hnl, bw, bl, eqw, f45, fr, ms⟩ := ff
      simp only [q_obj ms.1, qS_nop, qS_seq, qS_set, qS_setJ, qS_if, qS_brk, qS_ret, qS_retV, qS_throw, qS_inc, qS_cl, qS_ast, qS_aop, qS_fst, qS_fop, qS_sw, qT_eC, qT_eCB, qT_eL, qT_eLJ, qT_eLR, qT_eLS, qT_eSLen, qT_eSLd, qT_eLB, qT_e1, qT_e2, qT_bCmp, qT_bCmpJ, qT_bAnd, qT_bOr, qT_bNot, qT_eBI, qT_eIf, qT_eLd, qT_eLdR, qT_eLen, qT_eF, qT_eFR, qT_aN, qT_aS, qT_eCl, qT_eClR, qT_eClB, qT_some, qT_x, z_nx_N, z_nx_B, z_nx_R, z_nx_X, z_bk_N, z_bk_B, z_bk_R, z_bk_X, oAdd, oSub, oMul, oNeg, cLt, cLe, cGt, cGe, cEq, cNe, Option.some.injEq, Sum.inl.injEq, Sum.inr.injEq, Prod.mk.injEq, exists_eq_left, exists_eq_left', exists_eq_right, exists_and_left, reduceCtorEq, and_true, true_and, and_false, false_and, List.getElem?_cons_zero, List.getElem?_cons_succ, List.set_cons_zero, List.set_cons_succ, List.replicate, List.length_cons, List.length_nil, List.cons_append, List.nil_append, Nat.reduceAdd, Nat.reduceSub, decide_eq_true_eq, decide_eq_false_iff_not, Bool.true_eq_false, Bool.false_eq_true, true_implies, false_implies, implies_true, Nat.reduceLT, exists_const, z_vB_inj, and_assoc, z_in_iff, oI2L, oL2I, Int.toNat_natCast, z_toNat0, Bool.not_eq_true', Bool.not_eq_false', ne_eq, Bool.not_true, Bool.not_false, Nat.add_zero, Int.add_zero, z_sl_s]
      refine ⟨by omega, by omega, by omega, by omega, by omega, ?_⟩
      refine qS_loop (fun r ρ h'' => fI X S A i n k (fRd (fRw (fun r => sP A n k r r) ((k : Int) + 1) (fSt A n k) r)) ow ol h'' ∧ ρ = [vR 0, vR (51 + 9 * i), vR ow, vR ol, vI ((k : Int) + 1), vI (r : Int)]) n ?_ ?_ n 0 z_fuel _ _ (by omega) (z_fuel_lt (by omega)) ⟨f, rfl⟩
      · rintro r ρ h'' hr ⟨f2, rfl⟩
        have fb := fRw_b nb.2 nW hk r (by omega)
        have rb := fRd_b _ fb
        have ev : fRw (fun r => sP A n k r r) ((k : Int) + 1) (fSt A n k) (r + 1) = fUp (sP A n k r r) ((k : Int) + 1) (fRw (fun r => sP A n k r r) ((k : Int) + 1) (fSt A n k) r) := rfl
        rw [ev]
        generalize fRw (fun r => sP A n k r r) ((k : Int) + 1) (fSt A n k) r = p at *
        have o02 := f2.o0
        have f3 := fun p' => f2.set hi p'
        have keep : fI X S A i n k (fRd p) ow ol h'' := f2
        obtain ⟨ew, rw, el, rl, nl, Mw, Ml, sd, mw2, ml, hnl, bw, bl, eqw, g45, fr, ms2⟩ := f2
        obtain ⟨fo, c1, c2, cc⟩ := mw2.row2
        obtain ⟨c3, c4, c5⟩ := cc r (by omega)
        have bd := sP_b2 nW k hr hr
        have ed := eqw r r hr hr
        have mbw := bw r r (by omega) (by omega)
        have u := fun w => fRd_up p fb.2.1 (d := sP A n k r r) (k := (k : Int) + 1) w
        have neg : sP A n k r r = INF → fUp (sP A n k r r) ((k : Int) + 1) p = p := fun w => by
          unfold fUp
          rw [if_neg (fun v => v.1 w)]
        have fin : sP A n k r r ≠ INF → ∃ h4, m_X1_becomeLesser [vR 45, vI (sP A n k r r), vI ((k : Int) + 1)] h'' = some (.inl none, h4) ∧ fI X S A i n k (fRd (fUp (sP A n k r r) ((k : Int) + 1) p)) ow ol h4 := fun w => by
          have mb1 := t_mb (x := sP A n k r r) (y := (fRd p).2) (a := 600000) (b := 5) (by omega) (by omega)
          have mb2 := t_mb (x := (fRd p).1) (y := (k : Int) + 1) (a := 499995) (b := 5) (by omega) (by omega)
          have fl := s_frLesser g45 (A := sP A n k r r) (B := (k : Int) + 1) (by omega) (by omega) (by omega) (by omega) (by omega)
          have gc := fDv_gcd (sP A n k r r) ((k : Int) + 1) (by omega)
          rw [gc] at fl
          have e1 : fRd (sP A n k r r, (k : Int) + 1) = ((sP A n k r r).tdiv ((Nat.gcd (sP A n k r r).natAbs ((k : Int) + 1).toNat : Nat) : Int), ((k : Int) + 1).tdiv ((Nat.gcd (sP A n k r r).natAbs ((k : Int) + 1).toNat : Nat) : Int)) := by
            unfold fRd fG
            rw [if_neg w]
          rw [← u w]
          by_cases q : (fRd p).2 = -1 ∨ sP A n k r r * (fRd p).2 < (fRd p).1 * ((k : Int) + 1)
          · rw [if_pos q] at fl
            refine ⟨_, fl, ?_⟩
            rw [if_pos q]
            have z := f3 (fRd (sP A n k r r, (k : Int) + 1))
            rw [e1] at z ⊢
            exact z
          · rw [if_neg q] at fl
            exact ⟨_, fl, by rw [if_neg q]; exact keep⟩
        rw [← ed] at fin neg
        by_cases q : Mw r r = INF
        · simp only [q_obj ms2.1, c1, c2, c4, c5, o02, qS_nop, qS_seq, qS_set, qS_setJ, qS_if, qS_brk, qS_ret, qS_retV, qS_throw, qS_inc, qS_cl, qS_ast, qS_aop, qS_fst, qS_fop, qS_sw, qT_eC, qT_eCB, qT_eL, qT_eLJ, qT_eLR, qT_eLS, qT_eSLen, qT_eSLd, qT_eLB, qT_e1, qT_e2, qT_bCmp, qT_bCmpJ, qT_bAnd, qT_bOr, qT_bNot, qT_eBI, qT_eIf, qT_eLd, qT_eLdR, qT_eLen, qT_eF, qT_eFR, qT_aN, qT_aS, qT_eCl, qT_eClR, qT_eClB, qT_some, qT_x, z_nx_N, z_nx_B, z_nx_R, z_nx_X, z_bk_N, z_bk_B, z_bk_R, z_bk_X, oAdd, oSub, oMul, oNeg, cLt, cLe, cGt, cGe, cEq, cNe, Option.some.injEq, Sum.inl.injEq, Sum.inr.injEq, Prod.mk.injEq, exists_eq_left, exists_eq_left', exists_eq_right, exists_and_left, reduceCtorEq, and_true, true_and, and_false, false_and, List.getElem?_cons_zero, List.getElem?_cons_succ, List.set_cons_zero, List.set_cons_succ, List.replicate, List.length_cons, List.length_nil, List.cons_append, List.nil_append, Nat.reduceAdd, Nat.reduceSub, decide_eq_true_eq, decide_eq_false_iff_not, Bool.true_eq_false, Bool.false_eq_true, true_implies, false_implies, implies_true, Nat.reduceLT, exists_const, z_vB_inj, and_assoc, z_in_iff, oI2L, oL2I, Int.toNat_natCast, z_toNat0, Bool.not_eq_true', Bool.not_eq_false', ne_eq, Bool.not_true, Bool.not_false, Nat.add_zero, Int.add_zero, z_sl_s]
          repeat (refine And.intro (by omega) ?_)
          intro _
          rw [← ed, neg q]
          exact ⟨keep, rfl⟩
        · obtain ⟨h4, y1, y2⟩ := fin q
          simp only [q_obj ms2.1, c1, c2, c4, c5, o02, y1, qS_nop, qS_seq, qS_set, qS_setJ, qS_if, qS_brk, qS_ret, qS_retV, qS_throw, qS_inc, qS_cl, qS_ast, qS_aop, qS_fst, qS_fop, qS_sw, qT_eC, qT_eCB, qT_eL, qT_eLJ, qT_eLR, qT_eLS, qT_eSLen, qT_eSLd, qT_eLB, qT_e1, qT_e2, qT_bCmp, qT_bCmpJ, qT_bAnd, qT_bOr, qT_bNot, qT_eBI, qT_eIf, qT_eLd, qT_eLdR, qT_eLen, qT_eF, qT_eFR, qT_aN, qT_aS, qT_eCl, qT_eClR, qT_eClB, qT_some, qT_x, z_nx_N, z_nx_B, z_nx_R, z_nx_X, z_bk_N, z_bk_B, z_bk_R, z_bk_X, oAdd, oSub, oMul, oNeg, cLt, cLe, cGt, cGe, cEq, cNe, Option.some.injEq, Sum.inl.injEq, Sum.inr.injEq, Prod.mk.injEq, exists_eq_left, exists_eq_left', exists_eq_right, exists_and_left, reduceCtorEq, and_true, true_and, and_false, false_and, List.getElem?_cons_zero, List.getElem?_cons_succ, List.set_cons_zero, List.set_cons_succ, List.replicate, List.length_cons, List.length_nil, List.cons_append, List.nil_append, Nat.reduceAdd, Nat.reduceSub, decide_eq_true_eq, decide_eq_false_iff_not, Bool.true_eq_false, Bool.false_eq_true, true_implies, false_implies, implies_true, Nat.reduceLT, exists_const, z_vB_inj, and_assoc, z_in_iff, oI2L, oL2I, Int.toNat_natCast, z_toNat0, Bool.not_eq_true', Bool.not_eq_false', ne_eq, Bool.not_true, Bool.not_false, Nat.add_zero, Int.add_zero, z_sl_s]
          repeat (refine And.intro (by omega) ?_)
          refine ⟨fun _ => ?_, fun w => absurd q w⟩
          repeat (refine And.intro (by omega) ?_)
          rw [← ed]
          exact ⟨y2, rfl⟩
      · rintro ρ h'' ⟨f2, rfl⟩
        rw [fRw_mn (by omega) (fSt_b nb.2 nW k (by omega)).2.1 n (fun r hr => by have := sP_b2 nW k hr hr; omega)] at f2
        obtain ⟨h2, y1, y2⟩ := f2.next hi nb.2 (by omega) nB nE nW
        have ms2 : ∃ vs, z_obj h'' (51 + 9 * i) 2 = some [vs, vI (n : Int)] := by
          obtain ⟨ew, rw, el, rl, nl, Mw, Ml, sd, mw2, ml, hnl, bw, bl, eqw, g45, fr, ms2⟩ := f2
          exact ⟨_, q_obj ms2.1⟩
        obtain ⟨vs, ms2⟩ := ms2
        simp only [ms2, y1, qS_nop, qS_seq, qS_set, qS_setJ, qS_if, qS_brk, qS_ret, qS_retV, qS_throw, qS_inc, qS_cl, qS_ast, qS_aop, qS_fst, qS_fop, qS_sw, qT_eC, qT_eCB, qT_eL, qT_eLJ, qT_eLR, qT_eLS, qT_eSLen, qT_eSLd, qT_eLB, qT_e1, qT_e2, qT_bCmp, qT_bCmpJ, qT_bAnd, qT_bOr, qT_bNot, qT_eBI, qT_eIf, qT_eLd, qT_eLdR, qT_eLen, qT_eF, qT_eFR, qT_aN, qT_aS, qT_eCl, qT_eClR, qT_eClB, qT_some, qT_x, z_nx_N, z_nx_B, z_nx_R, z_nx_X, z_bk_N, z_bk_B, z_bk_R, z_bk_X, oAdd, oSub, oMul, oNeg, cLt, cLe, cGt, cGe, cEq, cNe, Option.some.injEq, Sum.inl.injEq, Sum.inr.injEq, Prod.mk.injEq, exists_eq_left, exists_eq_left', exists_eq_right, exists_and_left, reduceCtorEq, and_true, true_and, and_false, false_and, List.getElem?_cons_zero, List.getElem?_cons_succ, List.set_cons_zero, List.set_cons_succ, List.replicate, List.length_cons, List.length_nil, List.cons_append, List.nil_append, Nat.reduceAdd, Nat.reduceSub, decide_eq_true_eq, decide_eq_false_iff_not, Bool.true_eq_false, Bool.false_eq_true, true_implies, false_implies, implies_true, Nat.reduceLT, exists_const, z_vB_inj, and_assoc, z_in_iff, oI2L, oL2I, Int.toNat_natCast, z_toNat0, Bool.not_eq_true', Bool.not_eq_false', ne_eq, Bool.not_true, Bool.not_false, Nat.add_zero, Int.add_zero, z_sl_s]
        repeat (refine And.intro (by omega) ?_)
        exact ⟨ol, ow, y2, _, rfl⟩
    · rintro ρ h' ⟨ow, ol, x, f, rfl⟩
      have ms2 : ∃ vs, z_obj h' (51 + 9 * i) 2 = some [vs, vI (n : Int)] := by
        obtain ⟨ew, rw, el, rl, nl, Mw, Ml, sd, mw2, ml, hnl, bw, bl, eqw, g45, fr, ms2⟩ := f
        exact ⟨_, q_obj ms2.1⟩
      obtain ⟨vs, ms2⟩ := ms2
      simp only [ms2, qS_nop, qS_seq, qS_set, qS_setJ, qS_if, qS_brk, qS_ret, qS_retV, qS_throw, qS_inc, qS_cl, qS_ast, qS_aop, qS_fst, qS_fop, qS_sw, qT_eC, qT_eCB, qT_eL, qT_eLJ, qT_eLR, qT_eLS, qT_eSLen, qT_eSLd, qT_eLB, qT_e1, qT_e2, qT_bCmp, qT_bCmpJ, qT_bAnd, qT_bOr, qT_bNot, qT_eBI, qT_eIf, qT_eLd, qT_eLdR, qT_eLen, qT_eF, qT_eFR, qT_aN, qT_aS, qT_eCl, qT_eClR, qT_eClB, qT_some, qT_x, z_nx_N, z_nx_B, z_nx_R, z_nx_X, z_bk_N, z_bk_B, z_bk_R, z_bk_X, oAdd, oSub, oMul, oNeg, cLt, cLe, cGt, cGe, cEq, cNe, Option.some.injEq, Sum.inl.injEq, Sum.inr.injEq, Prod.mk.injEq, exists_eq_left, exists_eq_left', exists_eq_right, exists_and_left, reduceCtorEq, and_true, true_and, and_false, false_and, List.getElem?_cons_zero, List.getElem?_cons_succ, List.set_cons_zero, List.set_cons_succ, List.replicate, List.length_cons, List.length_nil, List.cons_append, List.nil_append, Nat.reduceAdd, Nat.reduceSub, decide_eq_true_eq, decide_eq_false_iff_not, Bool.true_eq_false, Bool.false_eq_true, true_implies, false_implies, implies_true, Nat.reduceLT, exists_const, z_vB_inj, and_assoc, z_in_iff, oI2L, oL2I, Int.toNat_natCast, z_toNat0, Bool.not_eq_true', Bool.not_eq_false', ne_eq, Bool.not_true, Bool.not_false, Nat.add_zero, Int.add_zero, z_sl_s]
      exact ⟨by omega, by omega, by omega, by omega, by omega, ow, ol, f⟩
  obtain ⟨h', r1, ow, ol, ew, rw, el, rl, nl, Mw, Ml, sd, mw, ml, hnl, bw, bl, eqw, f45, fr, ms⟩ := run
  obtain ⟨p, hp⟩ : ∃ p, p = fRd (fSt A n n) := ⟨_, rfl⟩
  rw [← hp] at f45 ⊢
  have key : ∀ (n1 n2 : Nat) (M1 M2 : Nat → Nat → Int), mAt h' 30 31 32 n1 M1 → mAt h' 37 38 39 n2 M2 → n1 ≤ 5 → n2 ≤ 5 → mBd M1 1000000000 → mBd M2 1000000000 → ∃ T, m_X5_findLeastMean [vR 0, vR (51 + 9 * i)] (k_W X S) = some (.inl none, k_W X T) ∧ (∀ a, ¬ cFree a → ¬ (30 ≤ a ∧ a ≤ 43) → T a = S a) ∧ kI5 T ∧ T 45 0 = p.1 ∧ T 45 1 = p.2 := fun n1 n2 M1 M2 m1 m2 l1 l2 b1 b2 => by
    have e := k_back2 m1 m2 f45 fr
    refine ⟨_, by rw [← e]; exact r1, fun a h1 h2 => ?_, ⟨⟨n1, l1, ?_⟩, ⟨n2, l2, ?_⟩, fun x y hx hy => ?_, fun x y hx hy => ?_⟩, ?_, ?_⟩
    · rw [k_mt_n (by omega) (by omega), k_mt_n (by omega) (by omega), k_u_n (fun e => h1 (by subst e; unfold cFree; omega))]
    · rw [k_mt_n (by omega) (by omega), k_mt_o]
    · rw [k_mt_o]
    · rw [kF_l hx, k_mt_n (by omega) (by omega), k_mt_r (by omega) hx]
      exact b1 x y hx hy
    · rw [kF_l hx, k_mt_r (by omega) hx]
      exact b2 x y hx hy
    · rw [k_mt_n (by omega) (by omega), k_mt_n (by omega) (by omega), k_u_s]
      rfl
    · rw [k_mt_n (by omega) (by omega), k_mt_n (by omega) (by omega), k_u_s]
      rfl
  rcases sd with ⟨rfl, rfl, rfl, rfl, rfl, rfl⟩ | ⟨rfl, rfl, rfl, rfl, rfl, rfl⟩
  · exact key n nl Mw Ml mw ml nb.2 hnl bw bl
  · exact key nl n Ml Mw ml mw hnl nb.2 bl bw
end FMe
