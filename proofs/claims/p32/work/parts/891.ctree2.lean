/-! Spanning trees: what the class answers -/
section CU
variable {S : Nat → Nat → Int}
def tQ (L : Nat → Nat → Int) : Nat → (Nat → Nat → Int) × Int
  | 0 => (L, 1)
  | k + 1 => (tE (tQ L k).1 k (tQ L k).2, tE (tQ L k).1 k (tQ L k).2 k k)
theorem tE_d (M : Nat → Nat → Int) (s : Nat) (b : Int) : tE M s b s s = M s s := by
  unfold tE
  rw [if_neg (by omega)]
theorem tE_cg {M M' : Nat → Nat → Int} {s : Nat} {b : Int} (hs : s < 4) (h : ∀ x y, x < 4 → y < 4 → M x y = M' x y) {x y : Nat} (hx : x < 4) (hy : y < 4) : tE M s b x y = tE M' s b x y := by
  unfold tE
  rw [h s s hs hs, h x y hx hy, h x s hx hs, h s y hs hy]
theorem tq1 (L : Nat → Nat → Int) : (tQ L 1).2 = L 0 0 := tE_d L 0 1
theorem tq2 (L : Nat → Nat → Int) : (tQ L 2).2 = tE L 0 1 1 1 := tE_d (tQ L 1).1 1 (tQ L 1).2
theorem tq3 (L : Nat → Nat → Int) : (tQ L 3).2 = tE (tE L 0 1) 1 (L 0 0) 2 2 := by
  have e : (tQ L 3).2 = (tQ L 2).1 2 2 := tE_d (tQ L 2).1 2 (tQ L 2).2
  rw [e]
  show tE (tE L 0 1) 1 (tQ L 1).2 2 2 = _
  rw [tq1]
theorem tq4 (L : Nat → Nat → Int) : (tQ L 3).1 3 3 = tE (tE (tE L 0 1) 1 (L 0 0)) 2 (tE L 0 1 1 1) 3 3 := by
  show tE (tE (tE L 0 1) 1 (tQ L 1).2) 2 (tQ L 2).2 3 3 = _
  rw [tq1, tq2]
/-- how far the class goes -/
noncomputable def tN (L : Nat → Nat → Int) : Nat := if tE L 0 1 1 1 = 0 then 2 else 3
section TB
variable {L : Nat → Nat → Int}
def tBd (M : Nat → Nat → Int) (b : Int) : Prop := ∀ x y, x < 4 → y < 4 → -b ≤ M x y ∧ M x y ≤ b
theorem tBd.m {M : Nat → Nat → Int} {b c : Int} (h : tBd M b) (hc : 2 * (b * b) ≤ c) {s i j : Nat} (hs : s < 4) (hi : i < 4) (hj : j < 4) : -c ≤ M s s * M i j - M i s * M s j ∧ M s s * M i j - M i s * M s j ≤ c := by
  have m1 := t_mb (h s s hs hs) (h i j hi hj)
  have m2 := t_mb (h i s hi hs) (h s j hs hj)
  omega
theorem tBd_1 (h : tBd L 15) : tBd (tE L 0 1) 450 := fun x y hx hy => by
  have w := h x y hx hy
  have m := h.m (c := 450) (by decide) (s := 0) (by decide) hx hy
  unfold tE
  split
  · rw [Int.tdiv_one]
    exact m
  · omega
theorem tBd_2 (h : tBd L 15) (h0 : 1 ≤ L 0 0) : tBd (tE (tE L 0 1) 1 (L 0 0)) 405000 := fun x y hx hy => by
  have w := tBd_1 h x y hx hy
  have m := (tBd_1 h).m (c := 405000) (by decide) (s := 1) (by decide) hx hy
  show -405000 ≤ (if 1 < x ∧ 1 < y then (tE L 0 1 1 1 * tE L 0 1 x y - tE L 0 1 x 1 * tE L 0 1 1 y).tdiv (L 0 0) else tE L 0 1 x y) ∧ (if 1 < x ∧ 1 < y then (tE L 0 1 1 1 * tE L 0 1 x y - tE L 0 1 x 1 * tE L 0 1 1 y).tdiv (L 0 0) else tE L 0 1 x y) ≤ 405000
  split
  · exact z_tdiv_b m (by omega)
  · omega
theorem tC3_b (h : tBd L 15) {i j : Nat} (hi : i < 4) (hj : j < 4) : -20250 ≤ tC3 L i j ∧ tC3 L i j ≤ 20250 := by
  have b := fun x y (hx : x < 4) (hy : y < 4) => h x y hx hy
  have p1 := t_mb (b 1 1 (by decide) (by decide)) (b i j hi hj)
  have p2 := t_mb (b 1 j (by decide) hj) (b i 1 hi (by decide))
  have p3 := t_mb (b 1 0 (by decide) (by decide)) (b i j hi hj)
  have p4 := t_mb (b 1 j (by decide) hj) (b i 0 hi (by decide))
  have p5 := t_mb (b 1 0 (by decide) (by decide)) (b i 1 hi (by decide))
  have p6 := t_mb (b 1 1 (by decide) (by decide)) (b i 0 hi (by decide))
  have q1 := t_mb (b 0 0 (by decide) (by decide)) (y := L 1 1 * L i j - L 1 j * L i 1) (b := 450) (by omega)
  have q2 := t_mb (b 0 1 (by decide) (by decide)) (y := L 1 0 * L i j - L 1 j * L i 0) (b := 450) (by omega)
  have q3 := t_mb (b 0 j (by decide) hj) (y := L 1 0 * L i 1 - L 1 1 * L i 0) (b := 450) (by omega)
  unfold tC3
  omega
/-- no step passes an int -/
theorem tQ_ok (h : tBd L 15) (h0 : 1 ≤ L 0 0) : ∀ k, k < tN L → (tQ L k).2 ≠ 0 ∧ (-1000000 ≤ (tQ L k).2 ∧ (tQ L k).2 ≤ 1000000) ∧ (-1000000 ≤ (tQ L k).1 k k ∧ (tQ L k).1 k k ≤ 1000000) ∧ k < 3 ∧ ∀ i j, k < i → i < 4 → k < j → j < 4 → (-2147483648 ≤ (tQ L k).1 k k * (tQ L k).1 i j - (tQ L k).1 i k * (tQ L k).1 k j ∧ (tQ L k).1 k k * (tQ L k).1 i j - (tQ L k).1 i k * (tQ L k).1 k j < 2147483648) := fun k hk => by
  have n3 : tN L ≤ 3 := by unfold tN; split <;> omega
  have c : k = 0 ∨ k = 1 ∨ k = 2 := by omega
  rcases c with rfl | rfl | rfl
  · have e0 : (tQ L 0).2 = 1 := rfl
    refine ⟨by rw [e0]; decide, by rw [e0]; decide, ?_, by decide, fun i j _ hi _ hj => ?_⟩
    · have := h 0 0 (by decide) (by decide)
      show -1000000 ≤ L 0 0 ∧ L 0 0 ≤ 1000000
      omega
    · have := h.m (c := 450) (by decide) (s := 0) (by decide) hi hj
      show -2147483648 ≤ L 0 0 * L i j - L i 0 * L 0 j ∧ L 0 0 * L i j - L i 0 * L 0 j < 2147483648
      omega
  · have w0 := h 0 0 (by decide) (by decide)
    have w1 := tBd_1 h 1 1 (by decide) (by decide)
    refine ⟨by rw [tq1]; omega, by rw [tq1]; omega, ?_, by decide, fun i j _ hi _ hj => ?_⟩
    · show -1000000 ≤ tE L 0 1 1 1 ∧ tE L 0 1 1 1 ≤ 1000000
      omega
    · have := (tBd_1 h).m (c := 405000) (by decide) (s := 1) (by decide) hi hj
      show -2147483648 ≤ tE L 0 1 1 1 * tE L 0 1 i j - tE L 0 1 i 1 * tE L 0 1 1 j ∧ tE L 0 1 1 1 * tE L 0 1 i j - tE L 0 1 i 1 * tE L 0 1 1 j < 2147483648
      omega
  · have w1 := tBd_1 h 1 1 (by decide) (by decide)
    have e : (tQ L 2).1 = tE (tE L 0 1) 1 (L 0 0) := by
      show tE (tE L 0 1) 1 (tQ L 1).2 = _
      rw [tq1]
    have nz : tE L 0 1 1 1 ≠ 0 := fun w => by
      unfold tN at hk
      rw [if_pos w] at hk
      omega
    refine ⟨by rw [tq2]; exact nz, by rw [tq2]; omega, ?_, by decide, fun i j hi hi4 hj hj4 => ?_⟩
    · rw [e]
      have := tBd_2 h h0 2 2 (by decide) (by decide)
      omega
    · rw [e]
      have z0 : L 0 0 ≠ 0 := by omega
      have hi3 : i = 3 := by omega
      have hj3 : j = 3 := by omega
      subst hi3
      subst hj3
      rw [tE_2 L z0 (by decide) (by decide), tE_2 L z0 (by decide) (by decide), tE_2 L z0 (by decide) (by decide), tE_2 L z0 (by decide) (by decide)]
      have m1 := t_mb (tC3_b h (i := 2) (j := 2) (by decide) (by decide)) (tC3_b h (i := 3) (j := 3) (by decide) (by decide))
      have m2 := t_mb (tC3_b h (i := 3) (j := 2) (by decide) (by decide)) (tC3_b h (i := 2) (j := 3) (by decide) (by decide))
      omega
theorem tQ_end : (tN L = 3 ∨ (tN L = 2 ∧ (tQ L 2).2 = 0)) ∧ (if (tQ L (tN L)).2 = 0 then 0 else (tQ L (tN L)).1 3 3) = if tE L 0 1 1 1 = 0 then 0 else if tE (tE L 0 1) 1 (L 0 0) 2 2 = 0 then 0 else tE (tE (tE L 0 1) 1 (L 0 0)) 2 (tE L 0 1 1 1) 3 3 := by
  unfold tN
  by_cases c : tE L 0 1 1 1 = 0
  · rw [if_pos c, if_pos c]
    refine ⟨Or.inr ⟨rfl, by rw [tq2]; exact c⟩, ?_⟩
    rw [if_pos (by rw [tq2]; exact c)]
  · rw [if_neg c, if_neg c]
    refine ⟨Or.inl rfl, ?_⟩
    rw [tq3, tq4]
end TB
theorem fL.nx {h0 h' h2 : z_Hp} {B P F : Nat → Nat → Int} {C N : Nat → Int} {D' : Nat → Nat → Int} {s : Nat} {b : Int} (hs : s < 4) (hD : ∀ x y, x < 4 → y < 4 → D' x y = F x y) (f : z_fr tFr h0 h') (g : fL h' B P C N (tE D' s b) (fun _ _ => True) h2) : fL h0 B P C N (tE F s b) (fun _ _ => True) h2 := by
  obtain ⟨D2, fo, go, a2, f2, e2, c, d⟩ := g
  exact ⟨D2, fo, go, a2, f.tr f2, fun x y hx hy _ => by rw [e2 x y hx hy trivial]; exact tE_cg hs hD hx hy, c, d⟩
theorem fL.step {h0 h' : z_Hp} {B P : Nat → Nat → Int} {C N : Nat → Int} {L : Nat → Nat → Int} (h : tBd L 15) (h00 : 1 ≤ L 0 0) {k : Nat} (hk : k < tN L) (f : fL h0 B P C N (tQ L k).1 (fun _ _ => True) h') : ∃ h2, m_X3_eliminate [vR 8, vI (k : Int), vI (tQ L k).2] h' = some (.inl none, h2) ∧ fL h0 B P C N (tQ L (k + 1)).1 (fun _ _ => True) h2 := by
  obtain ⟨D', fo, go, a', f', hD, -, -⟩ := f
  obtain ⟨q1, q2, q3, q4, q5⟩ := tQ_ok h h00 k hk
  have hD : ∀ x y, x < 4 → y < 4 → D' x y = (tQ L k).1 x y := fun x y hx hy => hD x y hx hy trivial
  obtain ⟨h2, y1, y2⟩ := s_elim a' (s := k) (b := (tQ L k).2) q4 q1 q2 (by rw [hD k k (by omega) (by omega)]; exact q3) (fun i j h1 h2 h3 h4 => by rw [hD k k (by omega) (by omega), hD i j h2 h4, hD i k h2 (by omega), hD k j (by omega) h4]; exact q5 i j h1 h2 h3 h4)
  exact ⟨h2, y1, fL.nx (by omega) hD f' y2⟩
theorem tL_b {B : Nat → Nat → Int} (g : gOk B) : tBd (tL B) 15 ∧ 1 ≤ tL B 0 0 := by
  have b := fun i (hi : i < 5) => show 0 ≤ nAll B i ∧ nAll B i ≤ 15 by
    rw [nAll_5]
    have b0 := g i 0 hi (by decide)
    have b1 := g i 1 hi (by decide)
    have b2 := g i 2 hi (by decide)
    have b3 := g i 3 hi (by decide)
    have b4 := g i 4 hi (by decide)
    simp only [s5]
    omega
  constructor
  · intro x y hx hy
    have := b (x + 1) (by omega)
    have := g (x + 1) (y + 1) (by omega) (by omega)
    unfold tL
    (repeat' split) <;> omega
  · unfold tL
    rw [if_pos rfl]
    split <;> omega
/-- what the class answers of a connected graph -/
theorem s_treesC {h h1 : z_Hp} {B P D : Nat → Nat → Int} {C N : Nat → Int} {vs : List z_V} (a0 : h[8]? = some (.inl (3, vs))) (g : gOk B) (hc : m_X3_isConnected [vR 8] h = some (.inl (some (vB true)), h1)) (a : nAt h1 B C N P D) : ∃ h', m_X3_countSpanningTrees [vR 8] h = some (.inl (some (vI (tT (tL B)))), h') ∧ ∃ D', nAt h' B C N P D' ∧ z_fr tFr h1 h' := by
  obtain ⟨h2, x1, f1⟩ := s_putLap a g
  obtain ⟨lb, l0⟩ := tL_b g
  have te := tQ_end (L := tL B)
  have w2 := tBd_2 lb l0 2 2 (by decide) (by decide)
  have t2 := tq2 (tL B)
  have t3 := tq3 (tL B)
  have bz : -1000000 ≤ (tQ (tL B) (tN (tL B))).2 ∧ (tQ (tL B) (tN (tL B))).2 ≤ 1000000 := by
    rcases te.1 with e | ⟨e, e2⟩
    · rw [e, t3]
      omega
    · rw [e, e2]
      omega
  have n3 : tN (tL B) ≤ 3 := by unfold tN; split <;> omega
  have te2 : tT (tL B) = if (tQ (tL B) (tN (tL B))).2 = 0 then 0 else (tQ (tL B) (tN (tL B))).1 3 3 := by
    rw [te.2]
    unfold tT
    rw [if_neg (by omega)]
  have te1 : ¬ ((tN (tL B) : Nat) : Int) < 3 ∨ (tQ (tL B) (tN (tL B))).2 = 0 := by
    rcases te.1 with e | ⟨e, e2⟩
    · left
      omega
    · right
      rw [e, e2]
  unfold m_X3_countSpanningTrees
  rw [q_vm a0]
  apply q_bodyV
  have b6 : INF = 1000000 := rfl
  have b6 : INF = 1000000 := rfl
  simp only [b_X3_countSpanningTrees, hc, x1, z_vB1, z_vB0, if_true, if_false, not_true_eq_false, not_false_eq_true, exists_eq, qS_nop, qS_seq, qS_set, qS_setJ, qS_if, qS_brk, qS_ret, qS_retV, qS_throw, qS_inc, qS_cl, qS_ast, qS_aop, qS_fst, qS_fop, qS_sw, qT_eC, qT_eCB, qT_eL, qT_eLJ, qT_eLR, qT_eLS, qT_eSLen, qT_eSLd, qT_eLB, qT_e1, qT_e2, qT_bCmp, qT_bCmpJ, qT_bAnd, qT_bOr, qT_bNot, qT_eBI, qT_eIf, qT_eLd, qT_eLdR, qT_eLen, qT_eF, qT_eFR, qT_aN, qT_aS, qT_eCl, qT_eClR, qT_eClB, qT_some, qT_x, z_nx_N, z_nx_B, z_nx_R, z_nx_X, z_bk_N, z_bk_B, z_bk_R, z_bk_X, oAdd, oSub, oMul, oNeg, cLt, cLe, cGt, cGe, cEq, cNe, Option.some.injEq, Sum.inl.injEq, Sum.inr.injEq, Prod.mk.injEq, exists_eq_left, exists_eq_left', exists_eq_right, exists_and_left, reduceCtorEq, and_true, true_and, and_false, false_and, List.getElem?_cons_zero, List.getElem?_cons_succ, List.set_cons_zero, List.set_cons_succ, List.replicate, List.length_cons, List.length_nil, List.cons_append, List.nil_append, Nat.reduceAdd, Nat.reduceSub, decide_eq_true_eq, decide_eq_false_iff_not, Bool.true_eq_false, Bool.false_eq_true, true_implies, false_implies, implies_true, Nat.reduceLT, exists_const, z_vB_inj, and_assoc, z_in_iff, oI2L, oL2I, Int.toNat_natCast, z_toNat0, Bool.not_eq_true', Bool.not_eq_false', ne_eq, Bool.not_true, Bool.not_false, Nat.add_zero, Int.add_zero, z_sl_s]
  refine qS_loop (fun k ρ h' => fL h1 B P C N (tQ (tL B) k).1 (fun _ _ => True) h' ∧ ρ = [vR 8, vI (tQ (tL B) k).2, vI (k : Int)]) (tN (tL B)) ?_ ?_ (tN (tL B)) 0 z_fuel _ _ (by omega) (z_fuel_lt (by omega)) ⟨f1, rfl⟩
  · rintro k ρ h' hk ⟨f, rfl⟩
    have ok := tQ_ok lb l0 k hk
    have hk3 : (k : Int) < 3 := by have := ok.2.2.2.1; omega
    have hb := ok.1
    have bb := ok.2.1
    have st := f.step lb l0 hk
    generalize hy : (tQ (tL B) k).2 = y at *
    simp only [hk3, hb, z_vB1, z_vB0, if_true, if_false, not_true_eq_false, not_false_eq_true, exists_eq, qS_nop, qS_seq, qS_set, qS_setJ, qS_if, qS_brk, qS_ret, qS_retV, qS_throw, qS_inc, qS_cl, qS_ast, qS_aop, qS_fst, qS_fop, qS_sw, qT_eC, qT_eCB, qT_eL, qT_eLJ, qT_eLR, qT_eLS, qT_eSLen, qT_eSLd, qT_eLB, qT_e1, qT_e2, qT_bCmp, qT_bCmpJ, qT_bAnd, qT_bOr, qT_bNot, qT_eBI, qT_eIf, qT_eLd, qT_eLdR, qT_eLen, qT_eF, qT_eFR, qT_aN, qT_aS, qT_eCl, qT_eClR, qT_eClB, qT_some, qT_x, z_nx_N, z_nx_B, z_nx_R, z_nx_X, z_bk_N, z_bk_B, z_bk_R, z_bk_X, oAdd, oSub, oMul, oNeg, cLt, cLe, cGt, cGe, cEq, cNe, Option.some.injEq, Sum.inl.injEq, Sum.inr.injEq, Prod.mk.injEq, exists_eq_left, exists_eq_left', exists_eq_right, exists_and_left, reduceCtorEq, and_true, true_and, and_false, false_and, List.getElem?_cons_zero, List.getElem?_cons_succ, List.set_cons_zero, List.set_cons_succ, List.replicate, List.length_cons, List.length_nil, List.cons_append, List.nil_append, Nat.reduceAdd, Nat.reduceSub, decide_eq_true_eq, decide_eq_false_iff_not, Bool.true_eq_false, Bool.false_eq_true, true_implies, false_implies, implies_true, Nat.reduceLT, exists_const, z_vB_inj, and_assoc, z_in_iff, oI2L, oL2I, Int.toNat_natCast, z_toNat0, Bool.not_eq_true', Bool.not_eq_false', ne_eq, Bool.not_true, Bool.not_false, Nat.add_zero, Int.add_zero, z_sl_s]
    repeat (refine And.intro (by omega) ?_)
    obtain ⟨h3, y1, f2⟩ := st
    have f2' := f2
    obtain ⟨D', fo, go, a', f', hD, ⟨c1, cc⟩, -⟩ := f2'
    obtain ⟨c3, c4, c5⟩ := cc k (by omega)
    have ev : D' k k = (tQ (tL B) (k + 1)).2 := hD k k (by omega) (by omega) trivial
    simp only [y1, q_obj a'.1, c1, c4, c5, ev, qS_nop, qS_seq, qS_set, qS_setJ, qS_if, qS_brk, qS_ret, qS_retV, qS_throw, qS_inc, qS_cl, qS_ast, qS_aop, qS_fst, qS_fop, qS_sw, qT_eC, qT_eCB, qT_eL, qT_eLJ, qT_eLR, qT_eLS, qT_eSLen, qT_eSLd, qT_eLB, qT_e1, qT_e2, qT_bCmp, qT_bCmpJ, qT_bAnd, qT_bOr, qT_bNot, qT_eBI, qT_eIf, qT_eLd, qT_eLdR, qT_eLen, qT_eF, qT_eFR, qT_aN, qT_aS, qT_eCl, qT_eClR, qT_eClB, qT_some, qT_x, z_nx_N, z_nx_B, z_nx_R, z_nx_X, z_bk_N, z_bk_B, z_bk_R, z_bk_X, oAdd, oSub, oMul, oNeg, cLt, cLe, cGt, cGe, cEq, cNe, Option.some.injEq, Sum.inl.injEq, Sum.inr.injEq, Prod.mk.injEq, exists_eq_left, exists_eq_left', exists_eq_right, exists_and_left, reduceCtorEq, and_true, true_and, and_false, false_and, List.getElem?_cons_zero, List.getElem?_cons_succ, List.set_cons_zero, List.set_cons_succ, List.replicate, List.length_cons, List.length_nil, List.cons_append, List.nil_append, Nat.reduceAdd, Nat.reduceSub, decide_eq_true_eq, decide_eq_false_iff_not, Bool.true_eq_false, Bool.false_eq_true, true_implies, false_implies, implies_true, Nat.reduceLT, exists_const, z_vB_inj, and_assoc, z_in_iff, oI2L, oL2I, Int.toNat_natCast, z_toNat0, Bool.not_eq_true', Bool.not_eq_false', ne_eq, Bool.not_true, Bool.not_false, Nat.add_zero, Int.add_zero, z_sl_s]
    repeat (refine And.intro (by omega) ?_)
    first | exact ⟨f2, rfl⟩ | rfl
  · rintro ρ h' ⟨⟨D', fo, go, a', f', hD, ⟨c1, cc⟩, -⟩, rfl⟩
    have c3 := (cc 3 (by omega)).1
    have c4 := (cc 3 (by omega)).2.1
    have c5 := (cc 3 (by omega)).2.2
    have ev := hD 3 3 (by omega) (by omega) trivial
    rw [te2, ← ev]
    have fin : ∃ D', nAt h' B C N P D' ∧ z_fr tFr h1 h' := ⟨D', a', f'⟩
    generalize (tQ (tL B) (tN (tL B))).2 = z at *
    generalize tN (tL B) = n at *
    clear hD cc te te2 lb w2 t2 t3
    have t33 : (3 : Int).toNat = 3 := rfl
    simp only [q_obj a'.1, c1, t33, c4, c5, z_vB1, z_vB0, if_true, if_false, not_true_eq_false, not_false_eq_true, exists_eq, qS_nop, qS_seq, qS_set, qS_setJ, qS_if, qS_brk, qS_ret, qS_retV, qS_throw, qS_inc, qS_cl, qS_ast, qS_aop, qS_fst, qS_fop, qS_sw, qT_eC, qT_eCB, qT_eL, qT_eLJ, qT_eLR, qT_eLS, qT_eSLen, qT_eSLd, qT_eLB, qT_e1, qT_e2, qT_bCmp, qT_bCmpJ, qT_bAnd, qT_bOr, qT_bNot, qT_eBI, qT_eIf, qT_eLd, qT_eLdR, qT_eLen, qT_eF, qT_eFR, qT_aN, qT_aS, qT_eCl, qT_eClR, qT_eClB, qT_some, qT_x, z_nx_N, z_nx_B, z_nx_R, z_nx_X, z_bk_N, z_bk_B, z_bk_R, z_bk_X, oAdd, oSub, oMul, oNeg, cLt, cLe, cGt, cGe, cEq, cNe, Option.some.injEq, Sum.inl.injEq, Sum.inr.injEq, Prod.mk.injEq, exists_eq_left, exists_eq_left', exists_eq_right, exists_and_left, reduceCtorEq, and_true, true_and, and_false, false_and, List.getElem?_cons_zero, List.getElem?_cons_succ, List.set_cons_zero, List.set_cons_succ, List.replicate, List.length_cons, List.length_nil, List.cons_append, List.nil_append, Nat.reduceAdd, Nat.reduceSub, decide_eq_true_eq, decide_eq_false_iff_not, Bool.true_eq_false, Bool.false_eq_true, true_implies, false_implies, implies_true, Nat.reduceLT, exists_const, z_vB_inj, and_assoc, z_in_iff, oI2L, oL2I, Int.toNat_natCast, z_toNat0, Bool.not_eq_true', Bool.not_eq_false', ne_eq, Bool.not_true, Bool.not_false, Nat.add_zero, Int.add_zero, z_sl_s]
    clear c1 c4 c5
    have hz : (n : Int) < 3 → z = 0 := fun w => by omega
    repeat (refine And.intro (by omega) ?_)
    refine ⟨fun w => ?_, fun w => ?_⟩
    · have w := hz w
      repeat (refine And.intro (by omega) ?_)
      refine ⟨fun q => ⟨by rw [if_pos q], fin⟩, fun q => absurd w q⟩
    · repeat (refine And.intro (by omega) ?_)
      refine ⟨fun q => ⟨by rw [if_pos q], fin⟩, fun q => ?_⟩
      repeat (refine And.intro (by omega) ?_)
      first | exact ⟨by rw [if_neg q], fin⟩ | exact fin
end CU
