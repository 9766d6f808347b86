/-! Spanning trees: what the class does -/
section CT
variable {h : z_Hp} {B P D : Nat → Nat → Int} {C N : Nat → Int}
/-- the graph's matrix without the vertex 0 -/
def tL (B : Nat → Nat → Int) : Nat → Nat → Int := fun i j => if i = j then (if 1 < nAll B (i + 1) then nAll B (i + 1) else 1) else -B (i + 1) (j + 1)
def tFr (q : Nat) : Prop := 24 ≤ q ∧ q < 28
/-- minors: those that R says are so -/
def fL (h0 : z_Hp) (B P : Nat → Nat → Int) (C N : Nat → Int) (F : Nat → Nat → Int) (R : Nat → Nat → Prop) (h' : z_Hp) : Prop := ∃ D' fo go, nAt h' B C N P D' ∧ z_fr tFr h0 h' ∧ (∀ x y, x < 4 → y < 4 → R x y → D' x y = F x y) ∧ (z_arr h' 23 4 = some (4, fo) ∧ ∀ i, i < 4 → 0 ≤ fo i ∧ (fo i).toNat = 24 + i ∧ z_arr h' (24 + i) 0 = some (4, D' i)) ∧ (z_arr h' 9 4 = some (5, go) ∧ ∀ i, i < 5 → 0 ≤ go i ∧ (go i).toNat = 10 + i ∧ z_arr h' (10 + i) 0 = some (5, B i))
theorem fL.of {h0 h' : z_Hp} {F : Nat → Nat → Int} {R : Nat → Nat → Prop} {D' : Nat → Nat → Int} (a : nAt h' B C N P D') (f : z_fr tFr h0 h') (hD : ∀ x y, x < 4 → y < 4 → R x y → D' x y = F x y) : fL h0 B P C N F R h' := by
  obtain ⟨fo, c1, cc⟩ := a.2.2.2.2.2.row (by omega)
  obtain ⟨go, d1, dd⟩ := a.2.1.row (by omega)
  exact ⟨D', fo, go, a, f, hD, ⟨c1, cc⟩, ⟨d1, dd⟩⟩
theorem fL.put {h0 h' : z_Hp} {F : Nat → Nat → Int} {R R' : Nat → Nat → Prop} {D' : Nat → Nat → Int} (a : nAt h' B C N P D') (f : z_fr tFr h0 h') (hD : ∀ x y, x < 4 → y < 4 → R x y → D' x y = F x y) {i j : Nat} (hi : i < 4) {v : Int} (hv : R' i j → v = F i j) (hR : ∀ x y, x < 4 → y < 4 → R' x y → (x = i ∧ y = j) ∨ R x y) : fL h0 B P C N F R' (h'.set (24 + i) (.inr (0, 4, z_up (D' i) j v))) := by
  refine fL.of (a.setD hi j v) (f.tr (z_fr.set ⟨by omega, by omega⟩)) (fun x y hx hy hr => ?_)
  unfold m_up
  by_cases c : x = i ∧ y = j
  · rw [if_pos c]
    rw [c.1, c.2] at hr ⊢
    exact hv hr
  · rw [if_neg c]
    exact hD x y hx hy ((hR x y hx hy hr).resolve_left c)
theorem s_putLap (a : nAt h B C N P D) (g : gOk B) : ∃ h', m_X3_putLaplacian [vR 8] h = some (.inl none, h') ∧ fL h B P C N (tL B) (fun _ _ => True) h' := by
  have hB := g.bd
  unfold m_X3_putLaplacian
  rw [q_vm a.1]
  apply q_bodyV
  have b6 : INF = 1000000 := rfl
  simp only [b_X3_putLaplacian, qS_nop, qS_seq, qS_set, qS_setJ, qS_if, qS_brk, qS_ret, qS_retV, qS_throw, qS_inc, qS_cl, qS_ast, qS_aop, qS_fst, qS_fop, qS_sw, qT_eC, qT_eCB, qT_eL, qT_eLJ, qT_eLR, qT_eLS, qT_eSLen, qT_eSLd, qT_eLB, qT_e1, qT_e2, qT_bCmp, qT_bCmpJ, qT_bAnd, qT_bOr, qT_bNot, qT_eBI, qT_eIf, qT_eLd, qT_eLdR, qT_eLen, qT_eF, qT_eFR, qT_aN, qT_aS, qT_eCl, qT_eClR, qT_eClB, qT_some, qT_x, z_nx_N, z_nx_B, z_nx_R, z_nx_X, z_bk_N, z_bk_B, z_bk_R, z_bk_X, oAdd, oSub, oMul, oNeg, cLt, cLe, cGt, cGe, cEq, cNe, Option.some.injEq, Sum.inl.injEq, Sum.inr.injEq, Prod.mk.injEq, exists_eq_left, exists_eq_left', exists_eq_right, exists_and_left, reduceCtorEq, and_true, true_and, and_false, false_and, List.getElem?_cons_zero, List.getElem?_cons_succ, List.set_cons_zero, List.set_cons_succ, List.replicate, List.length_cons, List.length_nil, List.cons_append, List.nil_append, Nat.reduceAdd, Nat.reduceSub, decide_eq_true_eq, decide_eq_false_iff_not, Bool.true_eq_false, Bool.false_eq_true, true_implies, false_implies, implies_true, Nat.reduceLT, exists_const, z_vB_inj, and_assoc, z_in_iff, oI2L, oL2I, Int.toNat_natCast, z_toNat0, Bool.not_eq_true', Bool.not_eq_false', ne_eq, Bool.not_true, Bool.not_false, Nat.add_zero, Int.add_zero, z_sl_s]
  refine qS_loop (fun i ρ h' => fL h B P C N (tL B) (fun x _ => x < i) h' ∧ ∃ z, ρ = [vR 8, vI ((i : Int) + 1), z]) 4 ?_ ?_ 4 0 z_fuel _ _ (by omega) (z_fuel_lt (by omega)) ⟨fL.of a z_fr.rf (fun x y _ _ q => absurd q (Nat.not_lt_zero x)), _, rfl⟩
  · rintro i ρ h' hi ⟨f, z, rfl⟩
    simp only [qS_nop, qS_seq, qS_set, qS_setJ, qS_if, qS_brk, qS_ret, qS_retV, qS_throw, qS_inc, qS_cl, qS_ast, qS_aop, qS_fst, qS_fop, qS_sw, qT_eC, qT_eCB, qT_eL, qT_eLJ, qT_eLR, qT_eLS, qT_eSLen, qT_eSLd, qT_eLB, qT_e1, qT_e2, qT_bCmp, qT_bCmpJ, qT_bAnd, qT_bOr, qT_bNot, qT_eBI, qT_eIf, qT_eLd, qT_eLdR, qT_eLen, qT_eF, qT_eFR, qT_aN, qT_aS, qT_eCl, qT_eClR, qT_eClB, qT_some, qT_x, z_nx_N, z_nx_B, z_nx_R, z_nx_X, z_bk_N, z_bk_B, z_bk_R, z_bk_X, oAdd, oSub, oMul, oNeg, cLt, cLe, cGt, cGe, cEq, cNe, Option.some.injEq, Sum.inl.injEq, Sum.inr.injEq, Prod.mk.injEq, exists_eq_left, exists_eq_left', exists_eq_right, exists_and_left, reduceCtorEq, and_true, true_and, and_false, false_and, List.getElem?_cons_zero, List.getElem?_cons_succ, List.set_cons_zero, List.set_cons_succ, List.replicate, List.length_cons, List.length_nil, List.cons_append, List.nil_append, Nat.reduceAdd, Nat.reduceSub, decide_eq_true_eq, decide_eq_false_iff_not, Bool.true_eq_false, Bool.false_eq_true, true_implies, false_implies, implies_true, Nat.reduceLT, exists_const, z_vB_inj, and_assoc, z_in_iff, oI2L, oL2I, Int.toNat_natCast, z_toNat0, Bool.not_eq_true', Bool.not_eq_false', ne_eq, Bool.not_true, Bool.not_false, Nat.add_zero, Int.add_zero, z_sl_s]
    repeat (refine And.intro (by omega) ?_)
    refine qS_loop (fun j ρ h'' => fL h B P C N (fun x y => if x = y ∧ x = i then -B (x + 1) (y + 1) else tL B x y) (fun x y => x < i ∨ (x = i ∧ y < j)) h'' ∧ ρ = [vR 8, vI ((i : Int) + 1), vI ((j : Int) + 1)]) 4 ?_ ?_ 4 0 z_fuel _ _ (by omega) (z_fuel_lt (by omega)) ?_
    · rintro j ρ h'' hj ⟨⟨D', fo, go, a', f', hD, ⟨c1, cc⟩, ⟨d1, dd⟩⟩, rfl⟩
      have nx := fL.put (R' := fun x y => x < i ∨ (x = i ∧ y < j + 1)) a' f' hD hi (j := j) (v := -B (i + 1) (j + 1)) (fun _ => by
        by_cases c : i = j
        · rw [if_pos ⟨c, rfl⟩]
        · rw [if_neg (fun w => c w.1)]
          unfold tL
          rw [if_neg c]) (fun x y _ _ q => by omega)
      have rw2 := cc i hi
      have c3 := rw2.1
      have c4 := rw2.2.1
      have c5 := rw2.2.2
      have rw4 := dd (i + 1) (by omega)
      have d3 := rw4.1
      have d4 := rw4.2.1
      have d5 := rw4.2.2
      have t1 : ((i : Int) + 1 - 1).toNat = i := by omega
      have t2 : ((j : Int) + 1 - 1).toNat = j := by omega
      have t3 : ((i : Int) + 1).toNat = i + 1 := by omega
      have t4 : ((j : Int) + 1).toNat = j + 1 := by omega
      simp only [q_obj a'.1, c1, c4, c5, d1, d4, d5, t1, t2, t3, t4, qS_nop, qS_seq, qS_set, qS_setJ, qS_if, qS_brk, qS_ret, qS_retV, qS_throw, qS_inc, qS_cl, qS_ast, qS_aop, qS_fst, qS_fop, qS_sw, qT_eC, qT_eCB, qT_eL, qT_eLJ, qT_eLR, qT_eLS, qT_eSLen, qT_eSLd, qT_eLB, qT_e1, qT_e2, qT_bCmp, qT_bCmpJ, qT_bAnd, qT_bOr, qT_bNot, qT_eBI, qT_eIf, qT_eLd, qT_eLdR, qT_eLen, qT_eF, qT_eFR, qT_aN, qT_aS, qT_eCl, qT_eClR, qT_eClB, qT_some, qT_x, z_nx_N, z_nx_B, z_nx_R, z_nx_X, z_bk_N, z_bk_B, z_bk_R, z_bk_X, oAdd, oSub, oMul, oNeg, cLt, cLe, cGt, cGe, cEq, cNe, Option.some.injEq, Sum.inl.injEq, Sum.inr.injEq, Prod.mk.injEq, exists_eq_left, exists_eq_left', exists_eq_right, exists_and_left, reduceCtorEq, and_true, true_and, and_false, false_and, List.getElem?_cons_zero, List.getElem?_cons_succ, List.set_cons_zero, List.set_cons_succ, List.replicate, List.length_cons, List.length_nil, List.cons_append, List.nil_append, Nat.reduceAdd, Nat.reduceSub, decide_eq_true_eq, decide_eq_false_iff_not, Bool.true_eq_false, Bool.false_eq_true, true_implies, false_implies, implies_true, Nat.reduceLT, exists_const, z_vB_inj, and_assoc, z_in_iff, oI2L, oL2I, Int.toNat_natCast, z_toNat0, Bool.not_eq_true', Bool.not_eq_false', ne_eq, Bool.not_true, Bool.not_false, Nat.add_zero, Int.add_zero, z_sl_s]
      repeat (refine And.intro (by omega) ?_)
      first | exact ⟨nx, rfl⟩ | rfl
    · rintro ρ h'' ⟨⟨D', fo, go, a', f', hD, ⟨c1, cc⟩, ⟨d1, dd⟩⟩, rfl⟩
      have al := s_all a'
      have ce := s_ce a' hB (s := 31) ⟨by decide, by decide⟩ (v := i + 1) (by omega)
      rw [Int.natCast_add, Int.natCast_one] at ce
      have nb : 0 ≤ nAll B (i + 1) ∧ nAll B (i + 1) ≤ 1000 * ((5 : Nat) : Int) := nCe_b hB (show i + 1 < 5 by omega) (s := 31) 5 (by omega)
      have mx := s_max (h := h'') (x := 1) (y := nAll B (i + 1)) ⟨by decide, by decide⟩ ⟨by omega, by omega⟩
      have nx := fL.put (R := fun x y => x < i ∨ (x = i ∧ y < 4)) (R' := fun x _ => x < i + 1) (F := tL B) a' f' (D' := D') (i := i) (j := i)
      have rw6 := cc i hi
      have c3 := rw6.1
      have c4 := rw6.2.1
      have c5 := rw6.2.2
      have t1 : ((i : Int) + 1 - 1).toNat = i := by omega
      have fin : fL h B P C N (tL B) (fun x _ => x < i + 1) (h''.set (24 + i) (.inr (0, 4, z_up (D' i) i (if 1 < nAll B (i + 1) then nAll B (i + 1) else 1)))) := by
        refine fL.of (a'.setD hi i _) (f'.tr (z_fr.set ⟨by omega, by omega⟩)) (fun x y hx hy hr => ?_)
        unfold m_up
        by_cases c : x = i ∧ y = i
        · rw [if_pos c, c.1, c.2]
          unfold tL
          rw [if_pos rfl]
        · have e := hD x y hx hy (by omega)
          dsimp only at e
          have nc : ¬ (x = y ∧ x = i) := by omega
          rw [if_neg nc] at e
          rw [if_neg c, e]
      simp only [q_obj a'.1, c1, c4, c5, al, ce, mx, t1, qS_nop, qS_seq, qS_set, qS_setJ, qS_if, qS_brk, qS_ret, qS_retV, qS_throw, qS_inc, qS_cl, qS_ast, qS_aop, qS_fst, qS_fop, qS_sw, qT_eC, qT_eCB, qT_eL, qT_eLJ, qT_eLR, qT_eLS, qT_eSLen, qT_eSLd, qT_eLB, qT_e1, qT_e2, qT_bCmp, qT_bCmpJ, qT_bAnd, qT_bOr, qT_bNot, qT_eBI, qT_eIf, qT_eLd, qT_eLdR, qT_eLen, qT_eF, qT_eFR, qT_aN, qT_aS, qT_eCl, qT_eClR, qT_eClB, qT_some, qT_x, z_nx_N, z_nx_B, z_nx_R, z_nx_X, z_bk_N, z_bk_B, z_bk_R, z_bk_X, oAdd, oSub, oMul, oNeg, cLt, cLe, cGt, cGe, cEq, cNe, Option.some.injEq, Sum.inl.injEq, Sum.inr.injEq, Prod.mk.injEq, exists_eq_left, exists_eq_left', exists_eq_right, exists_and_left, reduceCtorEq, and_true, true_and, and_false, false_and, List.getElem?_cons_zero, List.getElem?_cons_succ, List.set_cons_zero, List.set_cons_succ, List.replicate, List.length_cons, List.length_nil, List.cons_append, List.nil_append, Nat.reduceAdd, Nat.reduceSub, decide_eq_true_eq, decide_eq_false_iff_not, Bool.true_eq_false, Bool.false_eq_true, true_implies, false_implies, implies_true, Nat.reduceLT, exists_const, z_vB_inj, and_assoc, z_in_iff, oI2L, oL2I, Int.toNat_natCast, z_toNat0, Bool.not_eq_true', Bool.not_eq_false', ne_eq, Bool.not_true, Bool.not_false, Nat.add_zero, Int.add_zero, z_sl_s]
      repeat (refine And.intro (by omega) ?_)
      first | exact ⟨fin, _, rfl⟩ | exact ⟨_, rfl⟩
    · obtain ⟨D', fo, go, a', f', hD, -, -⟩ := f
      exact ⟨fL.of a' f' (fun x y hx hy q => by
        have nc : ¬ (x = y ∧ x = i) := by omega
        try dsimp only
        rw [if_neg nc]
        exact hD x y hx hy (by omega)), rfl⟩
  · rintro ρ h' ⟨⟨D', fo, go, a', f', hD, ⟨c1, cc⟩, ⟨d1, dd⟩⟩, z, rfl⟩
    simp only [qS_nop, qS_seq, qS_set, qS_setJ, qS_if, qS_brk, qS_ret, qS_retV, qS_throw, qS_inc, qS_cl, qS_ast, qS_aop, qS_fst, qS_fop, qS_sw, qT_eC, qT_eCB, qT_eL, qT_eLJ, qT_eLR, qT_eLS, qT_eSLen, qT_eSLd, qT_eLB, qT_e1, qT_e2, qT_bCmp, qT_bCmpJ, qT_bAnd, qT_bOr, qT_bNot, qT_eBI, qT_eIf, qT_eLd, qT_eLdR, qT_eLen, qT_eF, qT_eFR, qT_aN, qT_aS, qT_eCl, qT_eClR, qT_eClB, qT_some, qT_x, z_nx_N, z_nx_B, z_nx_R, z_nx_X, z_bk_N, z_bk_B, z_bk_R, z_bk_X, oAdd, oSub, oMul, oNeg, cLt, cLe, cGt, cGe, cEq, cNe, Option.some.injEq, Sum.inl.injEq, Sum.inr.injEq, Prod.mk.injEq, exists_eq_left, exists_eq_left', exists_eq_right, exists_and_left, reduceCtorEq, and_true, true_and, and_false, false_and, List.getElem?_cons_zero, List.getElem?_cons_succ, List.set_cons_zero, List.set_cons_succ, List.replicate, List.length_cons, List.length_nil, List.cons_append, List.nil_append, Nat.reduceAdd, Nat.reduceSub, decide_eq_true_eq, decide_eq_false_iff_not, Bool.true_eq_false, Bool.false_eq_true, true_implies, false_implies, implies_true, Nat.reduceLT, exists_const, z_vB_inj, and_assoc, z_in_iff, oI2L, oL2I, Int.toNat_natCast, z_toNat0, Bool.not_eq_true', Bool.not_eq_false', ne_eq, Bool.not_true, Bool.not_false, Nat.add_zero, Int.add_zero, z_sl_s]
    repeat (refine And.intro (by omega) ?_)
    exact fL.of a' f' (fun x y hx hy _ => hD x y hx hy hx)
theorem s_elim (a : nAt h B C N P D) {s : Nat} {b : Int} (hs : s < 3) (hb : b ≠ 0) (bb : -1000000 ≤ b ∧ b ≤ 1000000) (bp : -1000000 ≤ D s s ∧ D s s ≤ 1000000) (hn : ∀ i j, s < i → i < 4 → s < j → j < 4 → (-2147483648 ≤ D s s * D i j - D i s * D s j ∧ D s s * D i j - D i s * D s j < 2147483648)) : ∃ h', m_X3_eliminate [vR 8, vI (s : Int), vI b] h = some (.inl none, h') ∧ fL h B P C N (tE D s b) (fun _ _ => True) h' := by
  obtain ⟨fo0, c01, cc0⟩ := a.2.2.2.2.2.row (by omega)
  obtain ⟨c03, c04, c05⟩ := cc0 s (by omega)
  unfold m_X3_eliminate
  rw [q_vm a.1]
  apply q_bodyV
  have b6 : INF = 1000000 := rfl
  simp only [b_X3_eliminate, q_obj a.1, c01, c04, c05, qS_nop, qS_seq, qS_set, qS_setJ, qS_if, qS_brk, qS_ret, qS_retV, qS_throw, qS_inc, qS_cl, qS_ast, qS_aop, qS_fst, qS_fop, qS_sw, qT_eC, qT_eCB, qT_eL, qT_eLJ, qT_eLR, qT_eLS, qT_eSLen, qT_eSLd, qT_eLB, qT_e1, qT_e2, qT_bCmp, qT_bCmpJ, qT_bAnd, qT_bOr, qT_bNot, qT_eBI, qT_eIf, qT_eLd, qT_eLdR, qT_eLen, qT_eF, qT_eFR, qT_aN, qT_aS, qT_eCl, qT_eClR, qT_eClB, qT_some, qT_x, z_nx_N, z_nx_B, z_nx_R, z_nx_X, z_bk_N, z_bk_B, z_bk_R, z_bk_X, oAdd, oSub, oMul, oNeg, cLt, cLe, cGt, cGe, cEq, cNe, Option.some.injEq, Sum.inl.injEq, Sum.inr.injEq, Prod.mk.injEq, exists_eq_left, exists_eq_left', exists_eq_right, exists_and_left, reduceCtorEq, and_true, true_and, and_false, false_and, List.getElem?_cons_zero, List.getElem?_cons_succ, List.set_cons_zero, List.set_cons_succ, List.replicate, List.length_cons, List.length_nil, List.cons_append, List.nil_append, Nat.reduceAdd, Nat.reduceSub, decide_eq_true_eq, decide_eq_false_iff_not, Bool.true_eq_false, Bool.false_eq_true, true_implies, false_implies, implies_true, Nat.reduceLT, exists_const, z_vB_inj, and_assoc, z_in_iff, oI2L, oL2I, Int.toNat_natCast, z_toNat0, Bool.not_eq_true', Bool.not_eq_false', ne_eq, Bool.not_true, Bool.not_false, Nat.add_zero, Int.add_zero, z_sl_s]
  repeat (refine And.intro (by omega) ?_)
  refine qS_loop (fun i ρ h' => fL h B P C N (fun x y => if x < s + 1 + i then tE D s b x y else D x y) (fun _ _ => True) h' ∧ ∃ u v, ρ = [vR 8, vI (s : Int), vI b, vI (D s s), vI ((s : Int) + 1 + (i : Int)), u, v]) (3 - s) ?_ ?_ (3 - s) 0 z_fuel _ _ (by omega) (z_fuel_lt (by omega)) ⟨fL.of a z_fr.rf (fun x y hx hy _ => ?_), _, _, rfl⟩
  · rintro i ρ h' hi ⟨f, u, v, rfl⟩
    simp only [qS_nop, qS_seq, qS_set, qS_setJ, qS_if, qS_brk, qS_ret, qS_retV, qS_throw, qS_inc, qS_cl, qS_ast, qS_aop, qS_fst, qS_fop, qS_sw, qT_eC, qT_eCB, qT_eL, qT_eLJ, qT_eLR, qT_eLS, qT_eSLen, qT_eSLd, qT_eLB, qT_e1, qT_e2, qT_bCmp, qT_bCmpJ, qT_bAnd, qT_bOr, qT_bNot, qT_eBI, qT_eIf, qT_eLd, qT_eLdR, qT_eLen, qT_eF, qT_eFR, qT_aN, qT_aS, qT_eCl, qT_eClR, qT_eClB, qT_some, qT_x, z_nx_N, z_nx_B, z_nx_R, z_nx_X, z_bk_N, z_bk_B, z_bk_R, z_bk_X, oAdd, oSub, oMul, oNeg, cLt, cLe, cGt, cGe, cEq, cNe, Option.some.injEq, Sum.inl.injEq, Sum.inr.injEq, Prod.mk.injEq, exists_eq_left, exists_eq_left', exists_eq_right, exists_and_left, reduceCtorEq, and_true, true_and, and_false, false_and, List.getElem?_cons_zero, List.getElem?_cons_succ, List.set_cons_zero, List.set_cons_succ, List.replicate, List.length_cons, List.length_nil, List.cons_append, List.nil_append, Nat.reduceAdd, Nat.reduceSub, decide_eq_true_eq, decide_eq_false_iff_not, Bool.true_eq_false, Bool.false_eq_true, true_implies, false_implies, implies_true, Nat.reduceLT, exists_const, z_vB_inj, and_assoc, z_in_iff, oI2L, oL2I, Int.toNat_natCast, z_toNat0, Bool.not_eq_true', Bool.not_eq_false', ne_eq, Bool.not_true, Bool.not_false, Nat.add_zero, Int.add_zero, z_sl_s]
    repeat (refine And.intro (by omega) ?_)
    refine qS_loop (fun j ρ h'' => fL h B P C N (fun x y => if x < s + 1 + i ∨ (x = s + 1 + i ∧ y < s + 1 + j) then tE D s b x y else D x y) (fun _ _ => True) h'' ∧ ∃ v, ρ = [vR 8, vI (s : Int), vI b, vI (D s s), vI ((s : Int) + 1 + (i : Int)), vI ((s : Int) + 1 + (j : Int)), v]) (3 - s) ?_ ?_ (3 - s) 0 z_fuel _ _ (by omega) (z_fuel_lt (by omega)) ?_
    · rintro j ρ h'' hj ⟨⟨D', fo, go, a', f', hD, ⟨c1, cc⟩, ⟨d1, dd⟩⟩, v, rfl⟩
      have eI : (s : Int) + 1 + (i : Int) = ((s + 1 + i : Nat) : Int) := by omega
      have eJ : (s : Int) + 1 + (j : Int) = ((s + 1 + j : Nat) : Int) := by omega
      have hI4 : (s + 1 + i) < 4 := by omega
      have hJ4 : (s + 1 + j) < 4 := by omega
      have hD : ∀ x y, x < 4 → y < 4 → D' x y = if x < s + 1 + i ∨ (x = s + 1 + i ∧ y < s + 1 + j) then tE D s b x y else D x y := fun x y hx hy => hD x y hx hy trivial
      have v1 : D' (s + 1 + i) (s + 1 + j) = D (s + 1 + i) (s + 1 + j) := by rw [hD (s + 1 + i) (s + 1 + j) hI4 hJ4, if_neg (by omega)]
      have v2 : D' (s + 1 + i) s = D (s + 1 + i) s := by
        rw [hD (s + 1 + i) s hI4 (by omega)]
        unfold tE
        (repeat' split) <;> first | rfl | omega
      have v3 : D' s (s + 1 + j) = D s (s + 1 + j) := by
        rw [hD s (s + 1 + j) (by omega) hJ4]
        unfold tE
        (repeat' split) <;> first | rfl | omega
      have rw8 := cc (s + 1 + i) hI4
      have c3 := rw8.1
      have c4 := rw8.2.1
      have c5 := rw8.2.2
      have rw9 := cc s (by omega)
      have d3 := rw9.1
      have d4 := rw9.2.1
      have d5 := rw9.2.2
      have nn := hn (s + 1 + i) (s + 1 + j) (by omega) hI4 (by omega) hJ4
      have dv : oDiv (D s s * D (s + 1 + i) (s + 1 + j) - D (s + 1 + i) s * D s (s + 1 + j)) b = some ((D s s * D (s + 1 + i) (s + 1 + j) - D (s + 1 + i) s * D s (s + 1 + j)).tdiv b) := by
        unfold oDiv
        rw [if_pos (by simp only [Bool.and_eq_true, z_in_iff, decide_eq_true_eq]; omega)]
      have nx : fL h B P C N (fun x y => if x < s + 1 + i ∨ (x = s + 1 + i ∧ y < s + 1 + (j + 1)) then tE D s b x y else D x y) (fun _ _ => True) (h''.set (24 + (s + 1 + i)) (.inr (0, 4, z_up (D' (s + 1 + i)) (s + 1 + j) ((D s s * D (s + 1 + i) (s + 1 + j) - D (s + 1 + i) s * D s (s + 1 + j)).tdiv b)))) := by
        refine fL.of (a'.setD hI4 _ _) (f'.tr (z_fr.set ⟨by omega, by omega⟩)) (fun x y hx hy _ => ?_)
        unfold m_up
        try dsimp only
        by_cases c : x = (s + 1 + i) ∧ y = (s + 1 + j)
        · have d : (s + 1 + i) < s + 1 + i ∨ ((s + 1 + i) = s + 1 + i ∧ (s + 1 + j) < s + 1 + (j + 1)) := by omega
          have e : s < (s + 1 + i) ∧ s < (s + 1 + j) := by omega
          rw [if_pos c, c.1, c.2, if_pos d]
          unfold tE
          rw [if_pos e]
        · rw [if_neg c, hD x y hx hy]
          by_cases d : x < s + 1 + i ∨ (x = s + 1 + i ∧ y < s + 1 + j)
          · have d' : x < s + 1 + i ∨ (x = s + 1 + i ∧ y < s + 1 + (j + 1)) := by omega
            rw [if_pos d, if_pos d']
          · have d' : ¬ (x < s + 1 + i ∨ (x = s + 1 + i ∧ y < s + 1 + (j + 1))) := by omega
            rw [if_neg d, if_neg d']
      have eJ1 : ((s + 1 + j : Nat) : Int) + 1 = (s : Int) + 1 + ((j + 1 : Nat) : Int) := by omega
      clear hn hD
      simp only [eI, eJ, q_obj a'.1, c1, c4, c5, d4, d5, v1, v2, v3, dv, qS_nop, qS_seq, qS_set, qS_setJ, qS_if, qS_brk, qS_ret, qS_retV, qS_throw, qS_inc, qS_cl, qS_ast, qS_aop, qS_fst, qS_fop, qS_sw, qT_eC, qT_eCB, qT_eL, qT_eLJ, qT_eLR, qT_eLS, qT_eSLen, qT_eSLd, qT_eLB, qT_e1, qT_e2, qT_bCmp, qT_bCmpJ, qT_bAnd, qT_bOr, qT_bNot, qT_eBI, qT_eIf, qT_eLd, qT_eLdR, qT_eLen, qT_eF, qT_eFR, qT_aN, qT_aS, qT_eCl, qT_eClR, qT_eClB, qT_some, qT_x, z_nx_N, z_nx_B, z_nx_R, z_nx_X, z_bk_N, z_bk_B, z_bk_R, z_bk_X, oAdd, oSub, oMul, oNeg, cLt, cLe, cGt, cGe, cEq, cNe, Option.some.injEq, Sum.inl.injEq, Sum.inr.injEq, Prod.mk.injEq, exists_eq_left, exists_eq_left', exists_eq_right, exists_and_left, reduceCtorEq, and_true, true_and, and_false, false_and, List.getElem?_cons_zero, List.getElem?_cons_succ, List.set_cons_zero, List.set_cons_succ, List.replicate, List.length_cons, List.length_nil, List.cons_append, List.nil_append, Nat.reduceAdd, Nat.reduceSub, decide_eq_true_eq, decide_eq_false_iff_not, Bool.true_eq_false, Bool.false_eq_true, true_implies, false_implies, implies_true, Nat.reduceLT, exists_const, z_vB_inj, and_assoc, z_in_iff, oI2L, oL2I, Int.toNat_natCast, z_toNat0, Bool.not_eq_true', Bool.not_eq_false', ne_eq, Bool.not_true, Bool.not_false, Nat.add_zero, Int.add_zero, z_sl_s]
      repeat (refine And.intro (by omega) ?_)
      first | exact ⟨nx, _, by rw [eJ1]⟩ | exact ⟨_, by rw [eJ1]⟩
    · rintro ρ h'' ⟨⟨D', fo, go, a', f', hD, ⟨c1, cc⟩, ⟨d1, dd⟩⟩, v, rfl⟩
      have e1 : (s : Int) + 1 + (i : Int) + 1 = (s : Int) + 1 + ((i + 1 : Nat) : Int) := by omega
      have nx : fL h B P C N (fun x y => if x < s + 1 + (i + 1) then tE D s b x y else D x y) (fun _ _ => True) h'' := fL.of a' f' (fun x y hx hy _ => by
        rw [hD x y hx hy trivial]
        try dsimp only
        by_cases c : x < s + 1 + (i + 1)
        · rw [if_pos c]
          by_cases d : x < s + 1 + i ∨ (x = s + 1 + i ∧ y < s + 1 + (3 - s))
          · rw [if_pos d]
          · omega
        · have d : ¬ (x < s + 1 + i ∨ (x = s + 1 + i ∧ y < s + 1 + (3 - s))) := by omega
          rw [if_neg c, if_neg d])
      simp only [qS_nop, qS_seq, qS_set, qS_setJ, qS_if, qS_brk, qS_ret, qS_retV, qS_throw, qS_inc, qS_cl, qS_ast, qS_aop, qS_fst, qS_fop, qS_sw, qT_eC, qT_eCB, qT_eL, qT_eLJ, qT_eLR, qT_eLS, qT_eSLen, qT_eSLd, qT_eLB, qT_e1, qT_e2, qT_bCmp, qT_bCmpJ, qT_bAnd, qT_bOr, qT_bNot, qT_eBI, qT_eIf, qT_eLd, qT_eLdR, qT_eLen, qT_eF, qT_eFR, qT_aN, qT_aS, qT_eCl, qT_eClR, qT_eClB, qT_some, qT_x, z_nx_N, z_nx_B, z_nx_R, z_nx_X, z_bk_N, z_bk_B, z_bk_R, z_bk_X, oAdd, oSub, oMul, oNeg, cLt, cLe, cGt, cGe, cEq, cNe, Option.some.injEq, Sum.inl.injEq, Sum.inr.injEq, Prod.mk.injEq, exists_eq_left, exists_eq_left', exists_eq_right, exists_and_left, reduceCtorEq, and_true, true_and, and_false, false_and, List.getElem?_cons_zero, List.getElem?_cons_succ, List.set_cons_zero, List.set_cons_succ, List.replicate, List.length_cons, List.length_nil, List.cons_append, List.nil_append, Nat.reduceAdd, Nat.reduceSub, decide_eq_true_eq, decide_eq_false_iff_not, Bool.true_eq_false, Bool.false_eq_true, true_implies, false_implies, implies_true, Nat.reduceLT, exists_const, z_vB_inj, and_assoc, z_in_iff, oI2L, oL2I, Int.toNat_natCast, z_toNat0, Bool.not_eq_true', Bool.not_eq_false', ne_eq, Bool.not_true, Bool.not_false, Nat.add_zero, Int.add_zero, z_sl_s]
      repeat (refine And.intro (by omega) ?_)
      first | exact ⟨nx, _, _, by rw [e1]⟩ | exact ⟨_, _, by rw [e1]⟩
    · obtain ⟨D', fo, go, a', f', hD, -, -⟩ := f
      refine ⟨fL.of a' f' ?_, _, by rw [Int.natCast_zero, Int.add_zero]⟩
      · intro x y hx hy _
        rw [hD x y hx hy trivial]
        try dsimp only
        by_cases c : x < s + 1 + i
        · rw [if_pos c, if_pos (Or.inl c)]
        · rw [if_neg c]
          by_cases d : x < s + 1 + i ∨ (x = s + 1 + i ∧ y < s + 1 + 0)
          · have e : ¬ (s < x ∧ s < y) := by omega
            rw [if_pos d]
            unfold tE
            rw [if_neg e]
          · rw [if_neg d]
  · rintro ρ h' ⟨⟨D', fo, go, a', f', hD, ⟨c1, cc⟩, ⟨d1, dd⟩⟩, u, v, rfl⟩
    simp only [qS_nop, qS_seq, qS_set, qS_setJ, qS_if, qS_brk, qS_ret, qS_retV, qS_throw, qS_inc, qS_cl, qS_ast, qS_aop, qS_fst, qS_fop, qS_sw, qT_eC, qT_eCB, qT_eL, qT_eLJ, qT_eLR, qT_eLS, qT_eSLen, qT_eSLd, qT_eLB, qT_e1, qT_e2, qT_bCmp, qT_bCmpJ, qT_bAnd, qT_bOr, qT_bNot, qT_eBI, qT_eIf, qT_eLd, qT_eLdR, qT_eLen, qT_eF, qT_eFR, qT_aN, qT_aS, qT_eCl, qT_eClR, qT_eClB, qT_some, qT_x, z_nx_N, z_nx_B, z_nx_R, z_nx_X, z_bk_N, z_bk_B, z_bk_R, z_bk_X, oAdd, oSub, oMul, oNeg, cLt, cLe, cGt, cGe, cEq, cNe, Option.some.injEq, Sum.inl.injEq, Sum.inr.injEq, Prod.mk.injEq, exists_eq_left, exists_eq_left', exists_eq_right, exists_and_left, reduceCtorEq, and_true, true_and, and_false, false_and, List.getElem?_cons_zero, List.getElem?_cons_succ, List.set_cons_zero, List.set_cons_succ, List.replicate, List.length_cons, List.length_nil, List.cons_append, List.nil_append, Nat.reduceAdd, Nat.reduceSub, decide_eq_true_eq, decide_eq_false_iff_not, Bool.true_eq_false, Bool.false_eq_true, true_implies, false_implies, implies_true, Nat.reduceLT, exists_const, z_vB_inj, and_assoc, z_in_iff, oI2L, oL2I, Int.toNat_natCast, z_toNat0, Bool.not_eq_true', Bool.not_eq_false', ne_eq, Bool.not_true, Bool.not_false, Nat.add_zero, Int.add_zero, z_sl_s]
    repeat (refine And.intro (by omega) ?_)
    refine fL.of a' f' (fun x y hx hy _ => ?_)
    have d : x < s + 1 + (3 - s) := by omega
    rw [hD x y hx hy trivial]
    dsimp only
    rw [if_pos d]
  · try dsimp only
    by_cases c : x < s + 1 + 0
    · have e : ¬ (s < x ∧ s < y) := by omega
      rw [if_pos c]
      unfold tE
      rw [if_neg e]
    · rw [if_neg c]
end CT
