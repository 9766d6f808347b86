/-! CHIPS, the mathematics: firing ends; what the class comes to -/
section CR
variable {B : Nat → Nat → Int}
/-- chips W on the way from V: nobody but q owes, the weight is at most m -/
def hIn (B : Nat → Nat → Int) (q : Nat) (V W : Nat → Int) (m : Int) : Prop := hEq B V W ∧ (∀ v, v < 5 → v ≠ q → nHv B v → 0 ≤ W v) ∧ s5 (fun v => cg (cFar B q) v * W v) ≤ m ∧ s5 W = s5 V ∧ (∀ v, v < 5 → ¬ nHv B v → W v = V v)
theorem cg_q {q : Nat} (h : cOk B q) : cg (cFar B q) q = 0 := by
  unfold cg
  rw [((cFar_lv h.1 h.2.1).1 q h.2.1).2.mpr rfl]
  rfl
theorem cg_1 {q : Nat} (h : cOk B q) {v : Nat} (hv : v < 5) (hn : nHv B v) (hne : v ≠ q) : 1 ≤ cFar B q v ∧ cFar B q v ≤ 4 ∧ 1 ≤ cg (cFar B q) v := by
  have l4 := h.2.2.2 v hv hn
  have l0 : cFar B q v ≠ 0 := fun e => hne (((cFar_lv h.1 h.2.1).1 v hv).2.mp e)
  exact ⟨by omega, l4, (cG_b (cFar B q) _).2 (by omega) l4⟩
theorem cg_0 {q : Nat} (h : cOk B q) {v : Nat} (hv : v < 5) (hn : ¬ nHv B v) : cg (cFar B q) v = 0 := by
  have l4 : ¬ cFar B q v ≤ 4 := fun w => hn (cFar_hv h.1 h.2.1 h.2.2.1 hv w)
  have l5 := cFar_5 (B := B) q v
  unfold cg
  rw [show cFar B q v = 5 by omega]
  rfl
theorem cg_nn {q : Nat} (v : Nat) : 0 ≤ cg (cFar B q) v := (cG_b _ _).1
theorem cL_iso (h : gOk B) {v : Nat} (hv : v < 5) (hn : ¬ nHv B v) (f : Nat → Int) : cL B f v = 0 := s5_0 (fun u hu => by
  have b := h v u hv hu
  rcases Int.lt_or_le 0 (B v u) with p | p
  · exact absurd (hv_e h hu hv p).2 hn
  · rw [show B v u = 0 by omega, Int.zero_mul])
theorem cL_sm (h : gOk B) (f : Nat → Int) : s5 (fun v => cL B f v) = 0 := by
  have := cL_sym h f (fun _ => 1)
  simp only [cL_c, Int.mul_zero, Int.one_mul] at this
  rw [this]
  rfl
theorem hIn.phi {q : Nat} {V W : Nat → Int} {m : Int} (h : cOk B q) (a : hIn B q V W m) : (∀ v, v < 5 → v ≠ q → nHv B v → W v ≤ s5 (fun v => cg (cFar B q) v * W v)) ∧ 0 ≤ s5 (fun v => cg (cFar B q) v * W v) := by
  have nn : ∀ v, v < 5 → 0 ≤ cg (cFar B q) v * W v := fun v hv => by
    by_cases hq : v = q
    · rw [hq, cg_q h, Int.zero_mul]
      exact Int.le_refl _
    · by_cases hn : nHv B v
      · exact Int.mul_nonneg (cg_nn v) (a.2.1 v hv hq hn)
      · rw [cg_0 h hv hn, Int.zero_mul]
        exact Int.le_refl _
  refine ⟨fun v hv hq hn => ?_, ?_⟩
  · have o := s5_one hv nn
    have g := (cg_1 h hv hn hq).2.2
    have := Int.mul_le_mul_of_nonneg_right g (a.2.1 v hv hq hn)
    rw [Int.one_mul] at this
    omega
  · have := nn 0 (by omega)
    have o := s5_one (k := 0) (by omega) nn
    omega
theorem hIn.bd {q : Nat} {V W : Nat → Int} {m : Int} (h : cOk B q) (a : hIn B q V W m) (hm : m ≤ 1000000) (hV : nVb V 126) : nVb W 10000000 := by
  have p := a.phi h
  have hs := a.2.2.2.1
  have ot : ∀ v, v < 5 → v ≠ q → -126 ≤ W v ∧ W v ≤ 1000000 := fun v hv hq => by
    by_cases hn : nHv B v
    · have a1 := p.1 v hv hq hn
      have a2 := a.2.1 v hv hq hn
      have a3 := a.2.2.1
      omega
    · rw [a.2.2.2.2 v hv hn]
      have := hV v hv
      omega
  have sv : -630 ≤ s5 V ∧ s5 V ≤ 630 := by
    have v0 := hV 0 (by omega)
    have v1 := hV 1 (by omega)
    have v2 := hV 2 (by omega)
    have v3 := hV 3 (by omega)
    have v4 := hV 4 (by omega)
    simp only [s5]
    omega
  have hq := h.2.1
  have sw : -4000630 ≤ W q ∧ W q ≤ 2000 := by
    rw [← hs] at sv
    simp only [s5] at sv
    have o0 := ot 0 (by omega)
    have o1 := ot 1 (by omega)
    have o2 := ot 2 (by omega)
    have o3 := ot 3 (by omega)
    have o4 := ot 4 (by omega)
    rcases (show q = 0 ∨ q = 1 ∨ q = 2 ∨ q = 3 ∨ q = 4 by omega) with rfl | rfl | rfl | rfl | rfl
    · have o1 := o1 (by decide); have o2 := o2 (by decide); have o3 := o3 (by decide); have o4 := o4 (by decide); omega
    · have o0 := o0 (by decide); have o2 := o2 (by decide); have o3 := o3 (by decide); have o4 := o4 (by decide); omega
    · have o0 := o0 (by decide); have o1 := o1 (by decide); have o3 := o3 (by decide); have o4 := o4 (by decide); omega
    · have o0 := o0 (by decide); have o1 := o1 (by decide); have o2 := o2 (by decide); have o4 := o4 (by decide); omega
    · have o0 := o0 (by decide); have o1 := o1 (by decide); have o2 := o2 (by decide); have o3 := o3 (by decide); omega
  intro v hv
  by_cases e : v = q
  · rw [e]; omega
  · have := ot v hv e; omega
theorem hIn.fire {q : Nat} {V W W' : Nat → Int} {m : Int} (h : cOk B q) (a : hIn B q V W m) {U : Nat} (hU : U < 32) (hs : ∀ v, v < 5 → m5 U v → nHv B v ∧ v ≠ q) (h0 : U ≠ 0) {t : Int} (ht : 1 ≤ t) (hl : ∀ v, v < 5 → m5 U v → t * nCe B v (-(U : Int) - 1) 5 ≤ W v) (hW : ∀ v, v < 5 → W' v = nFi B W U t v) : hIn B q V W' (m - 1) := by
  have wL : ∀ v, v < 5 → W' v = W v - t * cL B (ci1 U) v := fun v hv => by rw [hW v hv, nFi_L hU]
  refine ⟨a.1.tr (hEq.fi hU t hW), fun v hv hq hn => ?_, ?_, ?_, fun v hv hn => ?_⟩
  · rw [wL v hv]
    by_cases mv : m5 U v
    · rw [cL_in hU mv]
      have := hl v hv mv
      omega
    · rw [cL_out mv, Int.mul_neg]
      have n2 := (nCe_b h.1.bd hv (s := (U : Int)) 5 (by omega)).1
      have := Int.mul_nonneg (show 0 ≤ t by omega) n2
      have := a.2.1 v hv hq hn
      omega
  · have e : s5 (fun v => cg (cFar B q) v * W' v) = s5 (fun v => cg (cFar B q) v * W v) - t * s5 (fun v => ci1 U v * cL B (cg (cFar B q)) v) := by
      rw [← cL_sym h.1, ← s5_mul, ← s5_sub]
      refine s5_eq (fun v hv => ?_)
      rw [wL v hv, Int.mul_sub, Int.mul_left_comm]
    have nn : ∀ v, v < 5 → 0 ≤ ci1 U v * cL B (cg (cFar B q)) v := fun v hv => by
      unfold ci1
      by_cases mv : m5 U v
      · rw [if_pos mv]
        have g := cg_1 h hv (hs v hv mv).1 (hs v hv mv).2
        have := cL_lo h.1 (cFar_lv h.1 h.2.1) hv g.1 g.2.1
        omega
      · rw [if_neg mv, Int.zero_mul]
        exact Int.le_refl _
    have ex : ∃ v, v < 5 ∧ m5 U v := Classical.byContradiction (fun c => h0 (m5_ext ⟨U, hU⟩ (fun u mu => c ⟨u.val, u.isLt, mu⟩)))
    obtain ⟨x, hx, mx⟩ := ex
    have o := s5_one hx nn
    have lx : 1 ≤ ci1 U x * cL B (cg (cFar B q)) x := by
      unfold ci1
      rw [if_pos mx]
      have g := cg_1 h hx (hs x hx mx).1 (hs x hx mx).2
      have := cL_lo h.1 (cFar_lv h.1 h.2.1) hx g.1 g.2.1
      omega
    have := Int.mul_le_mul ht (show 1 ≤ s5 (fun v => ci1 U v * cL B (cg (cFar B q)) v) by omega) (by decide) (by omega)
    have a3 := a.2.2.1
    omega
  · rw [← a.2.2.2.1]
    have : s5 W' = s5 W - t * s5 (fun v => cL B (ci1 U) v) := by
      rw [← s5_mul, ← s5_sub]
      exact s5_eq (fun v hv => wL v hv)
    rw [this, cL_sm h.1]
    omega
  · rw [wL v hv, cL_iso h.1 hv hn, a.2.2.2.2 v hv hn]
    omega
theorem hIn.st {q : Nat} {V W b : Nat → Int} {M : Int} (h : cOk B q) (hM : 0 ≤ M) (hV : nVb V M) (hb : ∀ v, v < 5 → 0 ≤ b v ∧ b v ≤ M * cg (cFar B q) v) (hW : ∀ v, v < 5 → W v = V v + cL B b v) (hn : ∀ v, v < 5 → v ≠ q → nHv B v → 0 ≤ W v) : hIn B q V W (M * 7933) := by
  refine ⟨⟨fun x => -1 * b x, fun v hv => by rw [cL_mul, hW v hv]; omega⟩, hn, cW_b h.1 h.2.1 (cFar_lv h.1 h.2.1) hM (fun v hv => (hV v hv).2) hb hW, ?_, fun v hv hn => ?_⟩
  · have : s5 W = s5 V + s5 (fun v => cL B b v) := by
      rw [← s5_add]
      exact s5_eq (fun v hv => hW v hv)
    rw [this, cL_sm h.1]
    omega
  · rw [hW v hv, cL_iso h.1 hv hn]
    omega
/-- what the class's way of reducing comes to -/
theorem nRed {q : Nat} (h : cOk B q) {V : Nat → Int} (hV : nVb V 126) :
    (∀ j, j < 4 → nVb (nPay B (nNr B q) V j) 1000000000) ∧ (∀ k, k < 1000000 → nVb (nIt B (nNr B q 4 - (nNr B q 4 &&& nNr B q 0)) (nPay B (nNr B q) V 4) k) 1000000000) ∧
    ∃ m, hIn B q V (nIt B (nNr B q 4 - (nNr B q 4 &&& nNr B q 0)) (nPay B (nNr B q) V 4) 1000000) m ∧ m ≤ 1000000 ∧ cRd B q (nIt B (nNr B q 4 - (nNr B q 4 &&& nNr B q 0)) (nPay B (nNr B q) V 4) 1000000) := by
  have hq := h.2.1
  have pk := fun j hj => nPay_ok h (by decide : (0 : Int) ≤ 126) hV j hj
  have bw : ∀ j, j ≤ 4 → ∀ v, v < 5 → 0 ≤ cBw B q V j v ∧ cBw B q V j v ≤ 504000 := fun j hj v hv => by
    obtain ⟨b0, b1, b2, b3⟩ := (pk j hj).2.1 v hv
    refine ⟨b0, ?_⟩
    rcases Nat.lt_or_ge 4 (cFar B q v) with c | c
    · rw [b3 c]; decide
    · rcases Nat.lt_or_ge (4 - j) (cFar B q v) with d | d
      · have := b2 d c
        have u1 := cG_ub (cFar B q) (cFar B q v)
        have u2 := (cG_b (cFar B q) (4 - j)).1
        omega
      · rw [b1 d]; decide
  have hp : ∀ j, j ≤ 4 → nVb (nPay B (nNr B q) V j) 1000000000 := fun j hj v hv => by
    rw [(pk j hj).1 v hv]
    have := cL_bd h.1 (bw j hj) hv
    have := hV v hv
    omega
  refine ⟨fun j hj => hp j (by omega), ?_⟩
  have hX : nNr B q 4 - (nNr B q 4 &&& nNr B q 0) < 32 := Nat.lt_of_le_of_lt (Nat.sub_le _ _) (nNr_b hq 4)
  have mX : ∀ u, u < 5 → (m5 (nNr B q 4 - (nNr B q 4 &&& nNr B q 0)) u ↔ nHv B u ∧ u ≠ q) := fun u hu => by
    have a := m5_dif ⟨_, nNr_b (B := B) hq 4⟩ ⟨_, nNr_b (B := B) hq 0⟩ ⟨u, hu⟩
    simp only at a
    rw [a, cFar_k hq hu (show 4 ≤ 4 by omega), cFar_k hq hu (show 0 ≤ 4 by omega)]
    have e := ((cFar_lv h.1 hq).1 u hu).2
    constructor
    · rintro ⟨w1, w2⟩
      exact ⟨cFar_hv h.1 hq h.2.2.1 hu w1, fun c => by have := e.mpr c; omega⟩
    · rintro ⟨w1, w2⟩
      exact ⟨h.2.2.2 u hu w1, fun c => w2 (e.mp (by omega))⟩
  have h4 := nb_4 ⟨_, hX⟩ ⟨q, hq⟩ (fun w => ((mX q hq).mp w).2 rfl)
  simp only at h4
  generalize nNr B q 4 - (nNr B q 4 &&& nNr B q 0) = X at hX mX h4 ⊢
  have s0 : hIn B q V (nPay B (nNr B q) V 4) (126 * 7933) := by
    obtain ⟨i1, i2, i3⟩ := pk 4 (by omega)
    refine hIn.st h (by decide) hV (b := cBw B q V 4) (fun v hv => ?_) i1 (fun v hv hne hn => ?_)
    · obtain ⟨b0, b1, b2, b3⟩ := i2 v hv
      refine ⟨b0, ?_⟩
      have z : cG (cFar B q) 0 = 0 := rfl
      rcases Nat.lt_or_ge 4 (cFar B q v) with c | c
      · rw [b3 c]
        have := cg_nn (B := B) (q := q) v
        omega
      · rcases Nat.eq_zero_or_pos (cFar B q v) with d | d
        · rw [b1 (by omega)]
          have := cg_nn (B := B) (q := q) v
          omega
        · have := b2 (by omega) c
          rw [show 4 - 4 = 0 from rfl, z] at this
          unfold cg
          omega
    · have g := cg_1 h hv hn hne
      exact i3 v hv (by omega) g.2.1
  generalize nPay B (nNr B q) V 4 = W0 at s0 ⊢
  have run : ∀ k, (∃ i, i < k ∧ nRd B (nIt B X W0 i) X 4 = 0) ∨ hIn B q V (nIt B X W0 k) (126 * 7933 - (k : Int)) := by
    intro k
    induction k with
    | zero => exact Or.inr (by show hIn B q V W0 _; simpa using s0)
    | succ k ih =>
      rcases ih with ⟨i, hi, e⟩ | c
      · exact Or.inl ⟨i, by omega, e⟩
      · by_cases hu : nRd B (nIt B X W0 k) X 4 = 0
        · exact Or.inl ⟨k, by omega, hu⟩
        · refine Or.inr ?_
          have bU := nRd_b (B := B) (V := nIt B X W0 k) hX 4
          have lg := nRd_lg (B := B) (V := nIt B X W0 k) hX h4
          have sub := nRd_sub (B := B) (V := nIt B X W0 k) hX 4
          have w : ∀ v, v < 5 → nIt B X W0 (k + 1) v = nFi B (nIt B X W0 k) (nRd B (nIt B X W0 k) X 4) (nTm B (nIt B X W0 k) (nRd B (nIt B X W0 k) X 4) 5) v := fun v hv => by
            show nSt B X (nIt B X W0 k) v = _
            rw [nSt, if_neg hu, if_pos hv]
          generalize nRd B (nIt B X W0 k) X 4 = U at hu bU lg sub w
          have hs : ∀ v, v < 5 → m5 U v → nHv B v ∧ v ≠ q := fun v hv mv => (mX v hv).mp (sub v hv mv)
          have nn : ∀ v, v < 5 → m5 U v → 0 ≤ nIt B X W0 k v := fun v hv mv => c.2.1 v hv (hs v hv mv).2 (hs v hv mv).1
          have td : ∀ v, v < 5 → m5 U v → 0 < nCe B v (-(U : Int) - 1) 5 → 1 ≤ (nIt B X W0 k v).tdiv (nCe B v (-(U : Int) - 1) 5) ∧ (nIt B X W0 k v).tdiv (nCe B v (-(U : Int) - 1) 5) * nCe B v (-(U : Int) - 1) 5 ≤ nIt B X W0 k v := fun v hv mv g => by
            have a1 := lg v hv mv
            have a2 := nn v hv mv
            rw [Int.tdiv_eq_ediv_of_nonneg a2]
            refine ⟨(Int.le_ediv_iff_mul_le g).mpr (by omega), Int.ediv_mul_le _ (by omega)⟩
          have t1 := nTm_1 (B := B) (V := nIt B X W0 k) (s := U) 5 (fun u hu mu g => (td u hu mu g).1)
          have r := c.fire h bU hs hu t1 (fun v hv mv => by
            rcases Int.lt_or_le 0 (nCe B v (-(U : Int) - 1) 5) with g | g
            · have ub := nTm_ub (B := B) (V := nIt B X W0 k) (s := U) 5 v hv mv g
              have := Int.mul_le_mul_of_nonneg_right ub (Int.le_of_lt g)
              have := (td v hv mv g).2
              omega
            · have := (nCe_b h.1.bd hv (s := -(U : Int) - 1) 5 (by omega)).1
              rw [show nCe B v (-(U : Int) - 1) 5 = 0 by omega, Int.mul_zero]
              exact nn v hv mv) w
          rw [show (126 * 7933 - ((k + 1 : Nat) : Int)) = 126 * 7933 - (k : Int) - 1 by omega]
          exact r
  have firsts : ∀ k, (∃ i, i < k ∧ nRd B (nIt B X W0 i) X 4 = 0) → ∃ i, i < k ∧ nRd B (nIt B X W0 i) X 4 = 0 ∧ hIn B q V (nIt B X W0 i) (126 * 7933 - (i : Int)) := by
    intro k
    induction k with
    | zero => rintro ⟨i, hi, -⟩; omega
    | succ k ih =>
      intro hk
      by_cases hk2 : ∃ i, i < k ∧ nRd B (nIt B X W0 i) X 4 = 0
      · obtain ⟨i, hi, e⟩ := ih hk2
        exact ⟨i, by omega, e⟩
      · obtain ⟨i, hi, e⟩ := hk
        have : i = k := by
          rcases Nat.lt_succ_iff_lt_or_eq.mp hi with l | l
          · exact absurd ⟨i, l, e⟩ hk2
          · exact l
        subst this
        rcases run i with c | c
        · exact absurd c hk2
        · exact ⟨i, by omega, e, c⟩
  have all : ∀ k, hIn B q V (nIt B X W0 k) (126 * 7933) := by
    intro k
    by_cases hk : ∃ i, i < k ∧ nRd B (nIt B X W0 i) X 4 = 0
    · obtain ⟨i, hi, e, c⟩ := firsts k hk
      have fx := nIt_fix e (k - i)
      rw [show i + (k - i) = k by omega] at fx
      rw [fx]
      exact ⟨c.1, c.2.1, by have := c.2.2.1; omega, c.2.2.2⟩
    · rcases run k with c | c
      · exact absurd c hk
      · exact ⟨c.1, c.2.1, by have := c.2.2.1; omega, c.2.2.2⟩
  refine ⟨fun k _ v hv => by have := (all k).bd h (by decide) hV v hv; omega, 126 * 7933, all 1000000, by decide, ?_⟩
  rcases run 1000000 with ⟨i, hi, e⟩ | c
  · have fx := nIt_fix e (1000000 - i)
    rw [show i + (1000000 - i) = 1000000 by omega] at fx
    rw [fx]
    exact nRd_rd h.1 hX mX (all i).2.1 e
  · have := (c.phi h).2
    have := c.2.2.1
    omega
end CR
