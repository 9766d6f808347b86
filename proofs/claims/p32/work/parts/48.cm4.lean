/-! CHIPS, the mathematics: the class pays debts and reduces -/
section CQ
variable {B : Nat → Nat → Int}
theorem nPt_0 (V : Nat → Int) (x y : Nat) : ∀ v, 0 ≤ nPt B V x y v
  | 0 => Int.le_refl _
  | v + 1 => by
    have := nPt_0 V x y v
    unfold nPt
    split
    · split <;> omega
    · exact this
theorem nPt_ub {V : Nat → Int} {x y : Nat} {c : Int} (hc : 0 ≤ c) : ∀ v, (∀ u, u < v → m5 (x - (x &&& y)) u → 0 < nCe B u (y : Int) 5 → (nCe B u (y : Int) 5 - 1 - V u) / nCe B u (y : Int) 5 ≤ c) → nPt B V x y v ≤ c
  | 0, _ => hc
  | v + 1, H => by
    have := nPt_ub (V := V) (x := x) (y := y) hc v (fun u hu => H u (by omega))
    unfold nPt
    split
    · next q =>
      have := H v (by omega) q.1 q.2
      split <;> omega
    · exact this
theorem nPt_lb {V : Nat → Int} {x y : Nat} : ∀ v u, u < v → m5 (x - (x &&& y)) u → 0 < nCe B u (y : Int) 5 → (nCe B u (y : Int) 5 - 1 - V u) / nCe B u (y : Int) 5 ≤ nPt B V x y v
  | 0, u, hu, _, _ => absurd hu (Nat.not_lt_zero u)
  | v + 1, u, hu, m, g => by
    rcases Nat.lt_succ_iff_lt_or_eq.mp hu with h1 | rfl
    · have := nPt_lb (V := V) (x := x) (y := y) v u h1 m g
      unfold nPt
      split
      · split <;> omega
      · exact this
    · rw [nPt, if_pos ⟨m, g⟩]
      split <;> omega
theorem nTm_ub {V : Nat → Int} {s : Nat} : ∀ v u, u < v → m5 s u → 0 < nCe B u (-(s : Int) - 1) 5 → nTm B V s v ≤ (V u).tdiv (nCe B u (-(s : Int) - 1) 5)
  | 0, u, hu, _, _ => absurd hu (Nat.not_lt_zero u)
  | v + 1, u, hu, m, g => by
    rcases Nat.lt_succ_iff_lt_or_eq.mp hu with h1 | rfl
    · have := nTm_ub (V := V) (s := s) v u h1 m g
      unfold nTm
      split
      · split <;> omega
      · exact this
    · rw [nTm, if_pos ⟨m, g⟩]
      split <;> omega
theorem nTm_1 {V : Nat → Int} {s : Nat} : ∀ v, (∀ u, u < v → m5 s u → 0 < nCe B u (-(s : Int) - 1) 5 → 1 ≤ (V u).tdiv (nCe B u (-(s : Int) - 1) 5)) → 1 ≤ nTm B V s v
  | 0, _ => by simp [nTm]
  | v + 1, H => by
    have := nTm_1 (V := V) (s := s) v (fun u hu => H u (by omega))
    unfold nTm
    split
    · next q =>
      have := H v (by omega) q.1 q.2
      split <;> omega
    · exact this
theorem cG_ub (l : Nat → Nat) (k : Nat) : cG l k ≤ 4000 := by
  have b2 := cn_b l 2
  have b3 := cn_b l 3
  have b4 := cn_b l 4
  have d := cd_b l
  have u3 : cd3 l ≤ 16 := by unfold cd3; omega
  have u2 : cd2 l ≤ 241 := by
    have := Int.mul_le_mul (show 3 * cn l 3 ≤ 15 by omega) u3 (by omega) (by decide)
    unfold cd2
    omega
  have u1 : cd1 l ≤ 3616 := by
    have := Int.mul_le_mul (show 3 * cn l 2 ≤ 15 by omega) u2 (by omega) (by decide)
    unfold cd1
    omega
  unfold cG
  (repeat' split) <;> omega
theorem cL_bd (h : gOk B) {f : Nat → Int} {K : Int} (hf : ∀ v, v < 5 → 0 ≤ f v ∧ f v ≤ K) {v : Nat} (hv : v < 5) : -(15 * K) ≤ cL B f v ∧ cL B f v ≤ 15 * K := by
  have hK : 0 ≤ K := by have := hf 0 (by omega); omega
  have t : ∀ u, u < 5 → -(3 * K) ≤ B v u * (f v - f u) ∧ B v u * (f v - f u) ≤ 3 * K := by
    intro u hu
    have b := h v u hv hu
    have a1 := hf u hu
    have a2 := hf v hv
    have e : B v u = 0 ∨ B v u = 1 ∨ B v u = 2 ∨ B v u = 3 := by omega
    rcases e with e | e | e | e <;> rw [e] <;> omega
  have t0 := t 0 (by decide)
  have t1 := t 1 (by decide)
  have t2 := t 2 (by decide)
  have t3 := t 3 (by decide)
  have t4 := t 4 (by decide)
  simp only [cL, s5]
  omega
theorem cL_cg {f g : Nat → Int} {v : Nat} (e : ∀ u, u < 5 → B v u ≠ 0 → f v - f u = g v - g u) : cL B f v = cL B g v := s5_eq (fun u hu => by
  by_cases b : B v u = 0
  · rw [b]
    simp
  · rw [e u hu b])
/-- a graph that is connected, and a vertex of it -/
def cOk (B : Nat → Nat → Int) (q : Nat) : Prop := gOk B ∧ q < 5 ∧ nHv B q ∧ ∀ v, v < 5 → nHv B v → cFar B q v ≤ 4
theorem cOk.iso {q : Nat} (h : cOk B q) {v : Nat} (hv : v < 5) (l5 : ¬ cFar B q v ≤ 4) {u : Nat} (hu : u < 5) : B v u = 0 := by
  have b := h.1 v u hv hu
  rcases Int.lt_or_le 0 (B v u) with p | p
  · exact absurd (h.2.2.2 v hv (hv_e h.1 hu hv p).2) l5
  · omega
theorem cFar_hv (h : gOk B) {q : Nat} (hq : q < 5) (hq2 : nHv B q) {v : Nat} (hv : v < 5) (l4 : cFar B q v ≤ 4) : nHv B v := by
  have hl := cFar_lv h hq
  rcases Nat.eq_zero_or_pos (cFar B q v) with z | z
  · rw [(hl.1 v hv).2.mp z]
    exact hq2
  · obtain ⟨u, hu, -, e⟩ := hl.2.2 v hv z l4
    exact (hv_e h hu hv e).2
/-- what was borrowed, behind j steps -/
def cBw (B : Nat → Nat → Int) (q : Nat) (V : Nat → Int) : Nat → Nat → Int
  | 0 => fun _ => 0
  | j + 1 => fun v => cBw B q V j v + (if 3 - j < cFar B q v ∧ cFar B q v ≤ 4 then nPt B (nPay B (nNr B q) V j) (nNr B q (4 - j)) (nNr B q (3 - j)) 5 else 0)
theorem nPay_ok {q : Nat} (h : cOk B q) {V : Nat → Int} {M : Int} (hM : 0 ≤ M) (hV : nVb V M) : ∀ j, j ≤ 4 → (∀ v, v < 5 → nPay B (nNr B q) V j v = V v + cL B (cBw B q V j) v) ∧ (∀ v, v < 5 → 0 ≤ cBw B q V j v ∧ (cFar B q v ≤ 4 - j → cBw B q V j v = 0) ∧ (4 - j < cFar B q v → cFar B q v ≤ 4 → cBw B q V j v ≤ M * (cG (cFar B q) (cFar B q v) - cG (cFar B q) (4 - j))) ∧ (4 < cFar B q v → cBw B q V j v = 0)) ∧ (∀ v, v < 5 → 4 - j < cFar B q v → cFar B q v ≤ 4 → 0 ≤ nPay B (nNr B q) V j v)
  | 0, _ => by
    refine ⟨fun v hv => ?_, fun v hv => ⟨Int.le_refl _, fun _ => rfl, fun a b => absurd b (by omega), fun _ => rfl⟩, fun v hv a b => absurd b (by omega)⟩
    show V v = V v + cL B (fun _ => 0) v
    rw [cL_c]
    omega
  | j + 1, hj => by
    obtain ⟨i1, i2, i3⟩ := nPay_ok h hM hV j (by omega)
    have hl := cFar_lv h.1 h.2.1
    have hq := h.2.1
    have T0 := nPt_0 (B := B) (nPay B (nNr B q) V j) (nNr B q (4 - j)) (nNr B q (3 - j)) 5
    have rb := nNr_b (B := B) hq (3 - j)
    have rb4 := nNr_b (B := B) hq (4 - j)
    have mk : ∀ v, v < 5 → (m5 (nNr B q (3 - j)) v ↔ cFar B q v ≤ 3 - j) := fun v hv => cFar_k hq hv (by omega)
    have md : ∀ v, v < 5 → (m5 (nNr B q (4 - j) - (nNr B q (4 - j) &&& nNr B q (3 - j))) v ↔ cFar B q v = 4 - j) := fun v hv => by
      have a := m5_dif ⟨_, rb4⟩ ⟨_, rb⟩ ⟨v, hv⟩
      simp only at a
      rw [a, mk v hv, cFar_k hq hv (show 4 - j ≤ 4 by omega)]
      omega
    have Gp : ∀ v, v < 5 → cFar B q v = 4 - j → 0 < nCe B v (nNr B q (3 - j) : Int) 5 := fun v hv e => by
      obtain ⟨u, hu, eu, bu⟩ := hl.2.2 v hv (by omega) (by omega)
      exact (nCe_pos h.1 hv _).mpr ⟨u, hu, (mk u hu).mpr (by omega), bu⟩
    have dk := cd_0 (cFar B q) (4 - j)
    have eG := cG_s (cFar B q) (show 3 - j < 4 by omega)
    rw [show 3 - j + 1 = 4 - j by omega] at eG
    have Tu : nPt B (nPay B (nNr B q) V j) (nNr B q (4 - j)) (nNr B q (3 - j)) 5 ≤ M * cd (cFar B q) (4 - j) := by
      refine nPt_ub (Int.mul_nonneg hM dk) 5 (fun v hv mv g => ?_)
      have lv := (md v hv).mp mv
      have key : 0 ≤ nPay B (nNr B q) V j v + M * cd (cFar B q) (4 - j) * nCe B v (nNr B q (3 - j) : Int) 5 := by
        have lo := cL_lo h.1 hl hv (by omega) (by omega)
        have z := ((i2 v hv).2.1 (by omega))
        have c : M * cL B (cg (cFar B q)) v ≤ cL B (cBw B q V j) v + M * cd (cFar B q) (4 - j) * nCe B v (nNr B q (3 - j) : Int) 5 := by
          rw [nCe_5, ← s5_mul]
          unfold cL
          rw [← s5_mul, ← s5_add]
          refine s5_le (fun u hu => ?_)
          have b := h.1 v u hv hu
          rw [z]
          rcases Int.lt_or_le 0 (B v u) with p | p
          · have a1 := hl.2.1 v u hv hu p (by omega)
            have a2 := hl.2.1 u v hu hv (by rw [← b.2.2.1]; exact p) a1.1
            have gv : cg (cFar B q) v = cG (cFar B q) (4 - j) := by unfold cg; rw [lv]
            rcases (show cFar B q u = 3 - j ∨ cFar B q u = 4 - j ∨ cFar B q u = 4 - j + 1 by omega) with c | c | c
            · have gu : cg (cFar B q) u = cG (cFar B q) (3 - j) := by unfold cg; rw [c]
              rw [(i2 u hu).2.1 (by omega), if_pos ((mk u hu).mpr (by omega)), gv, gu, eG, show cG (cFar B q) (3 - j) + cd (cFar B q) (4 - j) - cG (cFar B q) (3 - j) = cd (cFar B q) (4 - j) by omega, Int.mul_left_comm, Int.mul_comm (B v u), Int.mul_assoc M]
              simp
            · have gu : cg (cFar B q) u = cG (cFar B q) (4 - j) := by unfold cg; rw [c]
              rw [(i2 u hu).2.1 (by omega), if_neg (fun w => by have := (mk u hu).mp w; omega), gv, gu]
              simp
            · have gu : cg (cFar B q) u = cG (cFar B q) (4 - j + 1) := by unfold cg; rw [c]
              have e5 : 4 - j < 4 := by omega
              have eG2 := cG_s (cFar B q) e5
              have bu := (i2 u hu).2.2.1 (by omega) a1.1
              rw [c] at bu
              rw [if_neg (fun w => by have := (mk u hu).mp w; omega), gv, gu]
              have := Int.mul_le_mul_of_nonneg_left bu b.1
              rw [Int.mul_zero, Int.add_zero, Int.zero_sub, Int.mul_neg]
              rw [show cG (cFar B q) (4 - j) - cG (cFar B q) (4 - j + 1) = -(cG (cFar B q) (4 - j + 1) - cG (cFar B q) (4 - j)) by omega, Int.mul_neg, Int.mul_neg, Int.mul_left_comm]
              omega
          · have : B v u = 0 := by omega
            rw [this]
            simp
        have m1 := Int.mul_le_mul_of_nonneg_left lo hM
        have v1 := hV v hv
        rw [i1 v hv]
        omega
      have g1 := Gp v hv lv
      generalize nCe B v (nNr B q (3 - j) : Int) 5 = G at *
      generalize M * cd (cFar B q) (4 - j) = c at *
      refine Int.lt_add_one_iff.mp (Int.ediv_lt_of_lt_mul g1 ?_)
      rw [Int.add_mul]
      omega
    generalize hT : nPt B (nPay B (nNr B q) V j) (nNr B q (4 - j)) (nNr B q (3 - j)) 5 = T at *
    have wb : ∀ v, cBw B q V (j + 1) v = cBw B q V j v + (if 3 - j < cFar B q v ∧ cFar B q v ≤ 4 then T else 0) := fun v => by rw [← hT]; rfl
    have wp : ∀ v, v < 5 → nPay B (nNr B q) V (j + 1) v = nPay B (nNr B q) V j v - T * cL B (ci1 (nNr B q (3 - j))) v := fun v hv => by
      rw [← nFi_L rb, ← hT, nPay]
      exact if_pos hv
    refine ⟨fun v hv => ?_, fun v hv => ?_, fun v hv a b => ?_⟩
    · rw [wp v hv, i1 v hv]
      have : cL B (cBw B q V (j + 1)) v = cL B (cBw B q V j) v + (-T) * cL B (ci1 (nNr B q (3 - j))) v := by
        rw [← cL_mul, ← cL_add]
        refine cL_cg (fun u hu nz => ?_)
        have l4 : cFar B q v ≤ 4 := Classical.byContradiction (fun c => nz (h.iso hv c hu))
        have b := h.1 v u hv hu
        have p : 0 < B v u := by omega
        have a1 := (hl.2.1 v u hv hu p l4).1
        rw [wb, wb]
        unfold ci1
        have e1 := mk v hv
        have e2 := mk u hu
        by_cases c1 : cFar B q v ≤ 3 - j
        · rw [if_pos (e1.mpr c1), if_neg (show ¬ (3 - j < cFar B q v ∧ cFar B q v ≤ 4) by omega)]
          by_cases c2 : cFar B q u ≤ 3 - j
          · rw [if_pos (e2.mpr c2), if_neg (show ¬ (3 - j < cFar B q u ∧ cFar B q u ≤ 4) by omega)]
            omega
          · rw [if_neg (fun w => c2 (e2.mp w)), if_pos (show (3 - j < cFar B q u ∧ cFar B q u ≤ 4) by omega)]
            omega
        · rw [if_neg (fun w => c1 (e1.mp w)), if_pos (show (3 - j < cFar B q v ∧ cFar B q v ≤ 4) by omega)]
          by_cases c2 : cFar B q u ≤ 3 - j
          · rw [if_pos (e2.mpr c2), if_neg (show ¬ (3 - j < cFar B q u ∧ cFar B q u ≤ 4) by omega)]
            omega
          · rw [if_neg (fun w => c2 (e2.mp w)), if_pos (show (3 - j < cFar B q u ∧ cFar B q u ≤ 4) by omega)]
            omega
      rw [this, Int.neg_mul]
      omega
    · obtain ⟨b0, b1, b2, b3⟩ := i2 v hv
      rw [wb]
      refine ⟨by split <;> omega, fun c => ?_, fun c d => ?_, fun c => ?_⟩
      · rw [b1 (by omega), if_neg (by omega)]
        rfl
      · rw [if_pos (by omega)]
        rw [show 4 - (j + 1) = 3 - j by omega]
        rcases Nat.lt_or_ge (4 - j) (cFar B q v) with e | e
        · have := b2 e d
          rw [show cG (cFar B q) (cFar B q v) - cG (cFar B q) (3 - j) = (cG (cFar B q) (cFar B q v) - cG (cFar B q) (4 - j)) + cd (cFar B q) (4 - j) by omega, Int.mul_add]
          omega
        · rw [b1 e, show cFar B q v = 4 - j by omega, eG, show cG (cFar B q) (3 - j) + cd (cFar B q) (4 - j) - cG (cFar B q) (3 - j) = cd (cFar B q) (4 - j) by omega]
          omega
      · rw [b3 c, if_neg (by omega)]
        rfl
    · have no : ¬ m5 (nNr B q (3 - j)) v := fun w => by have := (mk v hv).mp w; omega
      rw [wp v hv, cL_out no, Int.mul_neg]
      rcases Nat.lt_or_ge (4 - j) (cFar B q v) with e | e
      · have n1 := i3 v hv e b
        have n2 := (nCe_b h.1.bd hv (s := (nNr B q (3 - j) : Int)) 5 (by omega)).1
        have := Int.mul_nonneg T0 n2
        omega
      · have lv : cFar B q v = 4 - j := by omega
        have g1 := Gp v hv lv
        have lb := nPt_lb (B := B) (V := nPay B (nNr B q) V j) 5 v hv ((md v hv).mpr lv) g1
        rw [hT] at lb
        generalize nCe B v (nNr B q (3 - j) : Int) 5 = G at *
        generalize nPay B (nNr B q) V j v = U at *
        have m1 := Int.mul_le_mul_of_nonneg_right lb (Int.le_of_lt g1)
        have m2 := Int.mul_ediv_add_emod (G - 1 - U) G
        have m3 := Int.emod_lt_of_pos (G - 1 - U) g1
        rw [Int.mul_comm G] at m2
        omega
end CQ
