/-! THE LAW: chips, from the ranks on -/
section LCM
theorem kR_nDg {B : Nat → Nat → Int} {V : Nat → Int} (hV : nVb V 113) : -1000 ≤ nDg B V 5 ∧ nDg B V 5 ≤ 1000 := by
  have := nDg_b (B := B) (by decide) hV 5 (by decide)
  omega
theorem kR_nGn {B : Nat → Nat → Int} (g : gOk B) : -10 ≤ nGn B ∧ nGn B ≤ 30000 := by
  have a := nEd_b g.bd
  have b := z_cnt_b (fun v => z_dec (nHv B v)) 5
  unfold nGn
  omega
theorem cnt_0 (p : Nat → Bool) (h : p 0 = true) : ∀ n, 1 ≤ z_cnt p (n + 1)
  | 0 => by
    unfold z_cnt
    rw [if_pos h]
    show (1 : Int) ≤ 0 + 1
    decide
  | n + 1 => by
    have := cnt_0 p h n
    rw [z_cnt]
    split <;> omega
variable {sc : List Int} {a x D G r r' o : Int} {h : z_Hp} {Q : z_Oc → z_Hp → Prop}
theorem lc544 (bD : -1000 ≤ D ∧ D ≤ 1000) (bG : -10 ≤ G ∧ G ≤ 30000) (br : r = -70008 ∨ (-1 ≤ r ∧ r ≤ 8)) (br' : r' = -70008 ∨ (-1 ≤ r' ∧ r' ≤ 8)) (hrr : r ≠ -70008 → r' ≠ -70008 → r - r' = D - G + 1)
    (K : qS (s_L_chips_585 sc) [vR 0, vS, vI a, vI x, vB true, vI D, vI G, vB true, vI r, vI r', vI o, vU, vU, vU, vU, vU] h Q ↔ True) : qS (s_L_chips_544 sc) [vR 0, vS, vI a, vI x, vB true, vI D, vI G, vB true, vI r, vI r', vI o, vU, vU, vU, vU, vU] h Q ↔ True := by
  refine iff_true_intro ?_
  by_cases n : r = -70008
  · simp only [s_L_chips_544, eq_true n, decide_true, decide_false, not_true_eq_false, K, z_vB1, z_vB0, if_true, if_false, not_true_eq_false, not_false_eq_true, exists_eq, qS_nop, qS_seq, qS_set, qS_setJ, qS_if, qS_brk, qS_ret, qS_retV, qS_throw, qS_inc, qS_cl, qS_ast, qS_aop, qS_fst, qS_fop, qS_sw, qT_eC, qT_eCB, qT_eL, qT_eLJ, qT_eLR, qT_eLS, qT_eSLen, qT_eSLd, qT_eLB, qT_e1, qT_e2, qT_bCmp, qT_bCmpJ, qT_bAnd, qT_bOr, qT_bNot, qT_eBI, qT_eIf, qT_eLd, qT_eLdR, qT_eLen, qT_eF, qT_eFR, qT_aN, qT_aS, qT_eCl, qT_eClR, qT_eClB, qT_some, qT_x, z_nx_N, z_nx_B, z_nx_R, z_nx_X, z_bk_N, z_bk_B, z_bk_R, z_bk_X, oAdd, oSub, oMul, oNeg, cLt, cLe, cGt, cGe, cEq, cNe, Option.some.injEq, Sum.inl.injEq, Sum.inr.injEq, Prod.mk.injEq, exists_eq_left, exists_eq_left', exists_eq_right, exists_and_left, reduceCtorEq, and_true, true_and, and_false, false_and, List.getElem?_cons_zero, List.getElem?_cons_succ, List.set_cons_zero, List.set_cons_succ, List.replicate, List.length_cons, List.length_nil, List.cons_append, List.nil_append, Nat.reduceAdd, Nat.reduceSub, decide_eq_true_eq, decide_eq_false_iff_not, Bool.true_eq_false, Bool.false_eq_true, true_implies, false_implies, implies_true, Nat.reduceLT, exists_const, z_vB_inj, and_assoc, z_in_iff, oI2L, oL2I, Int.toNat_natCast, z_toNat0, Bool.not_eq_true', Bool.not_eq_false', ne_eq, Bool.not_true, Bool.not_false, Nat.add_zero, Int.add_zero, z_sl_s]
    (repeat' (first | apply And.intro | intro _)) <;> first | omega | rfl | grind
  · by_cases n' : r' = -70008
    · simp only [s_L_chips_544, eq_false n, eq_true n', decide_true, decide_false, not_true_eq_false, not_false_eq_true, K, z_vB1, z_vB0, if_true, if_false, not_true_eq_false, not_false_eq_true, exists_eq, qS_nop, qS_seq, qS_set, qS_setJ, qS_if, qS_brk, qS_ret, qS_retV, qS_throw, qS_inc, qS_cl, qS_ast, qS_aop, qS_fst, qS_fop, qS_sw, qT_eC, qT_eCB, qT_eL, qT_eLJ, qT_eLR, qT_eLS, qT_eSLen, qT_eSLd, qT_eLB, qT_e1, qT_e2, qT_bCmp, qT_bCmpJ, qT_bAnd, qT_bOr, qT_bNot, qT_eBI, qT_eIf, qT_eLd, qT_eLdR, qT_eLen, qT_eF, qT_eFR, qT_aN, qT_aS, qT_eCl, qT_eClR, qT_eClB, qT_some, qT_x, z_nx_N, z_nx_B, z_nx_R, z_nx_X, z_bk_N, z_bk_B, z_bk_R, z_bk_X, oAdd, oSub, oMul, oNeg, cLt, cLe, cGt, cGe, cEq, cNe, Option.some.injEq, Sum.inl.injEq, Sum.inr.injEq, Prod.mk.injEq, exists_eq_left, exists_eq_left', exists_eq_right, exists_and_left, reduceCtorEq, and_true, true_and, and_false, false_and, List.getElem?_cons_zero, List.getElem?_cons_succ, List.set_cons_zero, List.set_cons_succ, List.replicate, List.length_cons, List.length_nil, List.cons_append, List.nil_append, Nat.reduceAdd, Nat.reduceSub, decide_eq_true_eq, decide_eq_false_iff_not, Bool.true_eq_false, Bool.false_eq_true, true_implies, false_implies, implies_true, Nat.reduceLT, exists_const, z_vB_inj, and_assoc, z_in_iff, oI2L, oL2I, Int.toNat_natCast, z_toNat0, Bool.not_eq_true', Bool.not_eq_false', ne_eq, Bool.not_true, Bool.not_false, Nat.add_zero, Int.add_zero, z_sl_s]
      (repeat' (first | apply And.intro | intro _)) <;> first | omega | rfl | grind
    · simp only [s_L_chips_544, eq_false n, eq_false n', eq_true (hrr n n'), decide_true, decide_false, not_true_eq_false, not_false_eq_true, K, z_vB1, z_vB0, if_true, if_false, not_true_eq_false, not_false_eq_true, exists_eq, qS_nop, qS_seq, qS_set, qS_setJ, qS_if, qS_brk, qS_ret, qS_retV, qS_throw, qS_inc, qS_cl, qS_ast, qS_aop, qS_fst, qS_fop, qS_sw, qT_eC, qT_eCB, qT_eL, qT_eLJ, qT_eLR, qT_eLS, qT_eSLen, qT_eSLd, qT_eLB, qT_e1, qT_e2, qT_bCmp, qT_bCmpJ, qT_bAnd, qT_bOr, qT_bNot, qT_eBI, qT_eIf, qT_eLd, qT_eLdR, qT_eLen, qT_eF, qT_eFR, qT_aN, qT_aS, qT_eCl, qT_eClR, qT_eClB, qT_some, qT_x, z_nx_N, z_nx_B, z_nx_R, z_nx_X, z_bk_N, z_bk_B, z_bk_R, z_bk_X, oAdd, oSub, oMul, oNeg, cLt, cLe, cGt, cGe, cEq, cNe, Option.some.injEq, Sum.inl.injEq, Sum.inr.injEq, Prod.mk.injEq, exists_eq_left, exists_eq_left', exists_eq_right, exists_and_left, reduceCtorEq, and_true, true_and, and_false, false_and, List.getElem?_cons_zero, List.getElem?_cons_succ, List.set_cons_zero, List.set_cons_succ, List.replicate, List.length_cons, List.length_nil, List.cons_append, List.nil_append, Nat.reduceAdd, Nat.reduceSub, decide_eq_true_eq, decide_eq_false_iff_not, Bool.true_eq_false, Bool.false_eq_true, true_implies, false_implies, implies_true, Nat.reduceLT, exists_const, z_vB_inj, and_assoc, z_in_iff, oI2L, oL2I, Int.toNat_natCast, z_toNat0, Bool.not_eq_true', Bool.not_eq_false', ne_eq, Bool.not_true, Bool.not_false, Nat.add_zero, Int.add_zero, z_sl_s]
      (repeat' (first | apply And.intro | intro _)) <;> first | omega | rfl | grind
theorem lc488 (bD : -1000 ≤ D ∧ D ≤ 1000) (bG : -10 ≤ G ∧ G ≤ 30000) (br : r = -70008 ∨ (-1 ≤ r ∧ r ≤ 8)) (hr : r ≠ -70008 → (-1 ≤ r ∧ D - G ≤ r) ∧ (D < 0 → r = -1) ∧ (¬ D < 0 → r ≤ D))
    (K : qS (s_L_chips_544 sc) [vR 0, vS, vI a, vI x, vB true, vI D, vI G, vB true, vI r, vI r', vI o, vU, vU, vU, vU, vU] h Q ↔ True) : qS (s_L_chips_488 sc) [vR 0, vS, vI a, vI x, vB true, vI D, vI G, vB true, vI r, vI r', vI o, vU, vU, vU, vU, vU] h Q ↔ True := by
  refine iff_true_intro ?_
  by_cases n : r = -70008
  · simp only [s_L_chips_488, eq_true n, decide_true, decide_false, not_true_eq_false, K, z_vB1, z_vB0, if_true, if_false, not_true_eq_false, not_false_eq_true, exists_eq, qS_nop, qS_seq, qS_set, qS_setJ, qS_if, qS_brk, qS_ret, qS_retV, qS_throw, qS_inc, qS_cl, qS_ast, qS_aop, qS_fst, qS_fop, qS_sw, qT_eC, qT_eCB, qT_eL, qT_eLJ, qT_eLR, qT_eLS, qT_eSLen, qT_eSLd, qT_eLB, qT_e1, qT_e2, qT_bCmp, qT_bCmpJ, qT_bAnd, qT_bOr, qT_bNot, qT_eBI, qT_eIf, qT_eLd, qT_eLdR, qT_eLen, qT_eF, qT_eFR, qT_aN, qT_aS, qT_eCl, qT_eClR, qT_eClB, qT_some, qT_x, z_nx_N, z_nx_B, z_nx_R, z_nx_X, z_bk_N, z_bk_B, z_bk_R, z_bk_X, oAdd, oSub, oMul, oNeg, cLt, cLe, cGt, cGe, cEq, cNe, Option.some.injEq, Sum.inl.injEq, Sum.inr.injEq, Prod.mk.injEq, exists_eq_left, exists_eq_left', exists_eq_right, exists_and_left, reduceCtorEq, and_true, true_and, and_false, false_and, List.getElem?_cons_zero, List.getElem?_cons_succ, List.set_cons_zero, List.set_cons_succ, List.replicate, List.length_cons, List.length_nil, List.cons_append, List.nil_append, Nat.reduceAdd, Nat.reduceSub, decide_eq_true_eq, decide_eq_false_iff_not, Bool.true_eq_false, Bool.false_eq_true, true_implies, false_implies, implies_true, Nat.reduceLT, exists_const, z_vB_inj, and_assoc, z_in_iff, oI2L, oL2I, Int.toNat_natCast, z_toNat0, Bool.not_eq_true', Bool.not_eq_false', ne_eq, Bool.not_true, Bool.not_false, Nat.add_zero, Int.add_zero, z_sl_s]
    (repeat' (first | apply And.intro | intro _)) <;> first | omega | rfl | grind
  · have w := hr n
    by_cases d : D < 0
    · simp only [s_L_chips_488, eq_false n, eq_true w.1.1, eq_true w.1.2, eq_true d, eq_true (w.2.1 d), decide_true, decide_false, not_true_eq_false, not_false_eq_true, K, z_vB1, z_vB0, if_true, if_false, not_true_eq_false, not_false_eq_true, exists_eq, qS_nop, qS_seq, qS_set, qS_setJ, qS_if, qS_brk, qS_ret, qS_retV, qS_throw, qS_inc, qS_cl, qS_ast, qS_aop, qS_fst, qS_fop, qS_sw, qT_eC, qT_eCB, qT_eL, qT_eLJ, qT_eLR, qT_eLS, qT_eSLen, qT_eSLd, qT_eLB, qT_e1, qT_e2, qT_bCmp, qT_bCmpJ, qT_bAnd, qT_bOr, qT_bNot, qT_eBI, qT_eIf, qT_eLd, qT_eLdR, qT_eLen, qT_eF, qT_eFR, qT_aN, qT_aS, qT_eCl, qT_eClR, qT_eClB, qT_some, qT_x, z_nx_N, z_nx_B, z_nx_R, z_nx_X, z_bk_N, z_bk_B, z_bk_R, z_bk_X, oAdd, oSub, oMul, oNeg, cLt, cLe, cGt, cGe, cEq, cNe, Option.some.injEq, Sum.inl.injEq, Sum.inr.injEq, Prod.mk.injEq, exists_eq_left, exists_eq_left', exists_eq_right, exists_and_left, reduceCtorEq, and_true, true_and, and_false, false_and, List.getElem?_cons_zero, List.getElem?_cons_succ, List.set_cons_zero, List.set_cons_succ, List.replicate, List.length_cons, List.length_nil, List.cons_append, List.nil_append, Nat.reduceAdd, Nat.reduceSub, decide_eq_true_eq, decide_eq_false_iff_not, Bool.true_eq_false, Bool.false_eq_true, true_implies, false_implies, implies_true, Nat.reduceLT, exists_const, z_vB_inj, and_assoc, z_in_iff, oI2L, oL2I, Int.toNat_natCast, z_toNat0, Bool.not_eq_true', Bool.not_eq_false', ne_eq, Bool.not_true, Bool.not_false, Nat.add_zero, Int.add_zero, z_sl_s]
      (repeat' (first | apply And.intro | intro _)) <;> first | omega | rfl | grind
    · simp only [s_L_chips_488, eq_false n, eq_true w.1.1, eq_true w.1.2, eq_false d, eq_true (w.2.2 d), decide_true, decide_false, not_true_eq_false, not_false_eq_true, K, z_vB1, z_vB0, if_true, if_false, not_true_eq_false, not_false_eq_true, exists_eq, qS_nop, qS_seq, qS_set, qS_setJ, qS_if, qS_brk, qS_ret, qS_retV, qS_throw, qS_inc, qS_cl, qS_ast, qS_aop, qS_fst, qS_fop, qS_sw, qT_eC, qT_eCB, qT_eL, qT_eLJ, qT_eLR, qT_eLS, qT_eSLen, qT_eSLd, qT_eLB, qT_e1, qT_e2, qT_bCmp, qT_bCmpJ, qT_bAnd, qT_bOr, qT_bNot, qT_eBI, qT_eIf, qT_eLd, qT_eLdR, qT_eLen, qT_eF, qT_eFR, qT_aN, qT_aS, qT_eCl, qT_eClR, qT_eClB, qT_some, qT_x, z_nx_N, z_nx_B, z_nx_R, z_nx_X, z_bk_N, z_bk_B, z_bk_R, z_bk_X, oAdd, oSub, oMul, oNeg, cLt, cLe, cGt, cGe, cEq, cNe, Option.some.injEq, Sum.inl.injEq, Sum.inr.injEq, Prod.mk.injEq, exists_eq_left, exists_eq_left', exists_eq_right, exists_and_left, reduceCtorEq, and_true, true_and, and_false, false_and, List.getElem?_cons_zero, List.getElem?_cons_succ, List.set_cons_zero, List.set_cons_succ, List.replicate, List.length_cons, List.length_nil, List.cons_append, List.nil_append, Nat.reduceAdd, Nat.reduceSub, decide_eq_true_eq, decide_eq_false_iff_not, Bool.true_eq_false, Bool.false_eq_true, true_implies, false_implies, implies_true, Nat.reduceLT, exists_const, z_vB_inj, and_assoc, z_in_iff, oI2L, oL2I, Int.toNat_natCast, z_toNat0, Bool.not_eq_true', Bool.not_eq_false', ne_eq, Bool.not_true, Bool.not_false, Nat.add_zero, Int.add_zero, z_sl_s]
      (repeat' (first | apply And.intro | intro _)) <;> first | omega | rfl | grind
theorem lc422 (bD : -1000 ≤ D ∧ D ≤ 1000) (bo : -100000 ≤ o ∧ o ≤ 100000) (br : r = -70008 ∨ (-1 ≤ r ∧ r ≤ 8)) (br' : r' = -70008 ∨ (-1 ≤ r' ∧ r' ≤ 8)) (hr : r = -70008 ↔ 8 < D) (hr' : r' = -70008 ↔ 8 < o)
    (K : qS (s_L_chips_488 sc) [vR 0, vS, vI a, vI x, vB true, vI D, vI G, vB true, vI r, vI r', vI o, vU, vU, vU, vU, vU] h Q ↔ True) : qS (s_L_chips_422 sc) [vR 0, vS, vI a, vI x, vB true, vI D, vI G, vB true, vI r, vI r', vI o, vU, vU, vU, vU, vU] h Q ↔ True := by
  refine iff_true_intro ?_
  have one : ((1 : Int) = 1) = True := eq_true rfl
  by_cases n : r = -70008
  · by_cases n' : r' = -70008
    · simp only [s_L_chips_422, eq_true n, eq_true (hr.mp n), eq_true n', eq_true (hr'.mp n'), if_true, one, decide_true, K, z_vB1, z_vB0, if_true, if_false, not_true_eq_false, not_false_eq_true, exists_eq, qS_nop, qS_seq, qS_set, qS_setJ, qS_if, qS_brk, qS_ret, qS_retV, qS_throw, qS_inc, qS_cl, qS_ast, qS_aop, qS_fst, qS_fop, qS_sw, qT_eC, qT_eCB, qT_eL, qT_eLJ, qT_eLR, qT_eLS, qT_eSLen, qT_eSLd, qT_eLB, qT_e1, qT_e2, qT_bCmp, qT_bCmpJ, qT_bAnd, qT_bOr, qT_bNot, qT_eBI, qT_eIf, qT_eLd, qT_eLdR, qT_eLen, qT_eF, qT_eFR, qT_aN, qT_aS, qT_eCl, qT_eClR, qT_eClB, qT_some, qT_x, z_nx_N, z_nx_B, z_nx_R, z_nx_X, z_bk_N, z_bk_B, z_bk_R, z_bk_X, oAdd, oSub, oMul, oNeg, cLt, cLe, cGt, cGe, cEq, cNe, Option.some.injEq, Sum.inl.injEq, Sum.inr.injEq, Prod.mk.injEq, exists_eq_left, exists_eq_left', exists_eq_right, exists_and_left, reduceCtorEq, and_true, true_and, and_false, false_and, List.getElem?_cons_zero, List.getElem?_cons_succ, List.set_cons_zero, List.set_cons_succ, List.replicate, List.length_cons, List.length_nil, List.cons_append, List.nil_append, Nat.reduceAdd, Nat.reduceSub, decide_eq_true_eq, decide_eq_false_iff_not, Bool.true_eq_false, Bool.false_eq_true, true_implies, false_implies, implies_true, Nat.reduceLT, exists_const, z_vB_inj, and_assoc, z_in_iff, oI2L, oL2I, Int.toNat_natCast, z_toNat0, Bool.not_eq_true', Bool.not_eq_false', ne_eq, Bool.not_true, Bool.not_false, Nat.add_zero, Int.add_zero, z_sl_s]
      (repeat' (first | apply And.intro | intro _)) <;> first | omega | rfl | grind
    · have o8 : ¬ 8 < o := fun w => n' (hr'.mpr w)
      simp only [s_L_chips_422, eq_true n, eq_true (hr.mp n), eq_false n', eq_false o8, if_true, if_false, one, eq_self, decide_true, decide_false, K, z_vB1, z_vB0, if_true, if_false, not_true_eq_false, not_false_eq_true, exists_eq, qS_nop, qS_seq, qS_set, qS_setJ, qS_if, qS_brk, qS_ret, qS_retV, qS_throw, qS_inc, qS_cl, qS_ast, qS_aop, qS_fst, qS_fop, qS_sw, qT_eC, qT_eCB, qT_eL, qT_eLJ, qT_eLR, qT_eLS, qT_eSLen, qT_eSLd, qT_eLB, qT_e1, qT_e2, qT_bCmp, qT_bCmpJ, qT_bAnd, qT_bOr, qT_bNot, qT_eBI, qT_eIf, qT_eLd, qT_eLdR, qT_eLen, qT_eF, qT_eFR, qT_aN, qT_aS, qT_eCl, qT_eClR, qT_eClB, qT_some, qT_x, z_nx_N, z_nx_B, z_nx_R, z_nx_X, z_bk_N, z_bk_B, z_bk_R, z_bk_X, oAdd, oSub, oMul, oNeg, cLt, cLe, cGt, cGe, cEq, cNe, Option.some.injEq, Sum.inl.injEq, Sum.inr.injEq, Prod.mk.injEq, exists_eq_left, exists_eq_left', exists_eq_right, exists_and_left, reduceCtorEq, and_true, true_and, and_false, false_and, List.getElem?_cons_zero, List.getElem?_cons_succ, List.set_cons_zero, List.set_cons_succ, List.replicate, List.length_cons, List.length_nil, List.cons_append, List.nil_append, Nat.reduceAdd, Nat.reduceSub, decide_eq_true_eq, decide_eq_false_iff_not, Bool.true_eq_false, Bool.false_eq_true, true_implies, false_implies, implies_true, Nat.reduceLT, exists_const, z_vB_inj, and_assoc, z_in_iff, oI2L, oL2I, Int.toNat_natCast, z_toNat0, Bool.not_eq_true', Bool.not_eq_false', ne_eq, Bool.not_true, Bool.not_false, Nat.add_zero, Int.add_zero, z_sl_s]
      (repeat' (first | apply And.intro | intro _)) <;> first | omega | rfl | grind
  · have d8 : ¬ 8 < D := fun w => n (hr.mpr w)
    by_cases n' : r' = -70008
    · simp only [s_L_chips_422, eq_false n, eq_false d8, eq_true n', eq_true (hr'.mp n'), if_true, if_false, one, eq_self, decide_true, decide_false, K, z_vB1, z_vB0, if_true, if_false, not_true_eq_false, not_false_eq_true, exists_eq, qS_nop, qS_seq, qS_set, qS_setJ, qS_if, qS_brk, qS_ret, qS_retV, qS_throw, qS_inc, qS_cl, qS_ast, qS_aop, qS_fst, qS_fop, qS_sw, qT_eC, qT_eCB, qT_eL, qT_eLJ, qT_eLR, qT_eLS, qT_eSLen, qT_eSLd, qT_eLB, qT_e1, qT_e2, qT_bCmp, qT_bCmpJ, qT_bAnd, qT_bOr, qT_bNot, qT_eBI, qT_eIf, qT_eLd, qT_eLdR, qT_eLen, qT_eF, qT_eFR, qT_aN, qT_aS, qT_eCl, qT_eClR, qT_eClB, qT_some, qT_x, z_nx_N, z_nx_B, z_nx_R, z_nx_X, z_bk_N, z_bk_B, z_bk_R, z_bk_X, oAdd, oSub, oMul, oNeg, cLt, cLe, cGt, cGe, cEq, cNe, Option.some.injEq, Sum.inl.injEq, Sum.inr.injEq, Prod.mk.injEq, exists_eq_left, exists_eq_left', exists_eq_right, exists_and_left, reduceCtorEq, and_true, true_and, and_false, false_and, List.getElem?_cons_zero, List.getElem?_cons_succ, List.set_cons_zero, List.set_cons_succ, List.replicate, List.length_cons, List.length_nil, List.cons_append, List.nil_append, Nat.reduceAdd, Nat.reduceSub, decide_eq_true_eq, decide_eq_false_iff_not, Bool.true_eq_false, Bool.false_eq_true, true_implies, false_implies, implies_true, Nat.reduceLT, exists_const, z_vB_inj, and_assoc, z_in_iff, oI2L, oL2I, Int.toNat_natCast, z_toNat0, Bool.not_eq_true', Bool.not_eq_false', ne_eq, Bool.not_true, Bool.not_false, Nat.add_zero, Int.add_zero, z_sl_s]
      (repeat' (first | apply And.intro | intro _)) <;> first | omega | rfl | grind
    · have o8 : ¬ 8 < o := fun w => n' (hr'.mpr w)
      simp only [s_L_chips_422, eq_false n, eq_false d8, eq_false n', eq_false o8, if_true, if_false, one, eq_self, decide_true, decide_false, K, z_vB1, z_vB0, if_true, if_false, not_true_eq_false, not_false_eq_true, exists_eq, qS_nop, qS_seq, qS_set, qS_setJ, qS_if, qS_brk, qS_ret, qS_retV, qS_throw, qS_inc, qS_cl, qS_ast, qS_aop, qS_fst, qS_fop, qS_sw, qT_eC, qT_eCB, qT_eL, qT_eLJ, qT_eLR, qT_eLS, qT_eSLen, qT_eSLd, qT_eLB, qT_e1, qT_e2, qT_bCmp, qT_bCmpJ, qT_bAnd, qT_bOr, qT_bNot, qT_eBI, qT_eIf, qT_eLd, qT_eLdR, qT_eLen, qT_eF, qT_eFR, qT_aN, qT_aS, qT_eCl, qT_eClR, qT_eClB, qT_some, qT_x, z_nx_N, z_nx_B, z_nx_R, z_nx_X, z_bk_N, z_bk_B, z_bk_R, z_bk_X, oAdd, oSub, oMul, oNeg, cLt, cLe, cGt, cGe, cEq, cNe, Option.some.injEq, Sum.inl.injEq, Sum.inr.injEq, Prod.mk.injEq, exists_eq_left, exists_eq_left', exists_eq_right, exists_and_left, reduceCtorEq, and_true, true_and, and_false, false_and, List.getElem?_cons_zero, List.getElem?_cons_succ, List.set_cons_zero, List.set_cons_succ, List.replicate, List.length_cons, List.length_nil, List.cons_append, List.nil_append, Nat.reduceAdd, Nat.reduceSub, decide_eq_true_eq, decide_eq_false_iff_not, Bool.true_eq_false, Bool.false_eq_true, true_implies, false_implies, implies_true, Nat.reduceLT, exists_const, z_vB_inj, and_assoc, z_in_iff, oI2L, oL2I, Int.toNat_natCast, z_toNat0, Bool.not_eq_true', Bool.not_eq_false', ne_eq, Bool.not_true, Bool.not_false, Nat.add_zero, Int.add_zero, z_sl_s]
      (repeat' (first | apply And.intro | intro _)) <;> first | omega | rfl | grind
end LCM
section LCT
theorem lc585 {sc : List Int} {U : Nat → Nat → Int} {r : Int} (I : cInv U) (q : kQ U) (hr : rkA (kQ U) (kF U 10 5) (U 15) r) {a x : Nat} {G r' o : Int} (hx : x < 1073741824) :
    qS (s_L_chips_585 sc) [vR 0, vS, vI (a : Int), vI (x : Int), vB true, vI (nDg (kF U 10 5) (U 15) 5), vI G, vB true, vI r, vI r', vI o, vU, vU, vU, vU, vU] (k_W [] U) (fun oc h1 => oc = oR (some (vB true)) ∧ ∃ W, h1 = k_W [] W) ↔ True := by
  have b6 : INF = 1000000 := rfl
  have g := I.g
  have bV : nVb (U 15) 113 := fun v hv => by have := I.2.2.2.1.2 v hv; omega
  have g1 : oDiv (x : Int) 64 = some ((x / 64 : Nat) : Int) := z_dv (m := 64) (by decide) (by omega) (by decide)
  have g2 : oRem ((x / 64 : Nat) : Int) 5 = some ((x / 64 % 5 : Nat) : Int) := z_rm (m := 5) (by decide) (by omega) (by decide)
  have g3 : oDiv (x : Int) 320 = some ((x / 320 : Nat) : Int) := z_dv (m := 320) (by decide) (by omega) (by decide)
  have g4 : oRem ((x / 320 : Nat) : Int) 5 = some ((x / 320 % 5 : Nat) : Int) := z_rm (m := 5) (by decide) (by omega) (by decide)
  obtain ⟨c, hc⟩ : ∃ c, c = x / 64 % 5 := ⟨_, rfl⟩
  obtain ⟨f, hf⟩ : ∃ f, f = x / 320 % 5 := ⟨_, rfl⟩
  rw [← hc] at g2
  rw [← hf] at g4
  have c5 : c < 5 := by omega
  have f5 : f < 5 := by omega
  obtain ⟨U1, t, fr1, e1, w1⟩ := a7 (X := []) I c5 c5 0
  obtain ⟨B1, V1, Q1⟩ := fr1.B
  have I1 := I.eq fr1
  have bt : -70008 ≤ t ∧ t ≤ 1000 := by
    rcases w1 with ⟨-, w⟩ | ⟨w, W, h1, h2, h3⟩
    · omega
    · have := red_b g c5 w.1 bV h1 h2 c c5
      omega
  obtain ⟨U2, n, fr2, e2, w2⟩ := a7 (X := []) I1 (i := 0) (j := 0) (by decide) (by decide) 0
  obtain ⟨B2, V2, Q2⟩ := fr2.B
  rw [B1, V1, Q1] at w2
  have I2 := I1.eq fr2
  have n0 : nHv (kF U 10 5) 0 := Or.inl rfl
  obtain ⟨W, u1, u2, u3⟩ : ∃ W, hEq (kF U 10 5) (U 15) W ∧ cRd (kF U 10 5) 0 W ∧ n = W 0 := by
    rcases w2 with ⟨w, -⟩ | ⟨-, w⟩
    · exact absurd ⟨n0, n0, q⟩ w
    · exact w
  have bn : -1000 ≤ n ∧ n ≤ 1000 := by
    have := red_b g (by decide) n0 bV u1 u2 0 (by decide)
    omega
  obtain ⟨U3, y, e3, I3, B3, Q3, E3, w3⟩ := a8 (X := []) I2 f5
  rw [B2, B1] at B3
  rw [Q2, Q1] at Q3
  rw [B2, B1, V2, V1] at E3
  have cy := I3.2.2.2.1.2 f f5
  have q3 : kQ U3 := by rw [Q3]; exact q
  have D3 := nDg_eq g E3
  obtain ⟨D, hD⟩ : ∃ D, D = nDg (kF U 10 5) (U 15) 5 := ⟨_, rfl⟩
  rw [← hD] at D3 ⊢
  have bD := kR_nDg (B := kF U 10 5) bV
  rw [← hD] at bD
  -- reduced, if asked
  obtain ⟨U4, fr4, e4⟩ : ∃ U4, cFr (fun _ => False) U3 U4 ∧ ((t = -70008 ∧ U4 = U3) ∨ (t ≠ -70008 ∧ m_L_isReduced [vR 0, vI (c : Int), vI D] (k_W [] U3) = some (.inl (some (vB true)), k_W [] U4))) := by
    by_cases tt : t = -70008
    · exact ⟨U3, cFr.refl _ _, Or.inl ⟨tt, rfl⟩⟩
    · rcases w1 with ⟨-, w⟩ | ⟨w, -⟩
      · exact absurd w tt
      · obtain ⟨U4, k1, k2⟩ := f_isred I3 c5 (by rw [B3]; exact w.1) q3
        rw [B3, D3] at k1
        exact ⟨U4, k2, Or.inr ⟨tt, k1⟩⟩
  obtain ⟨B4, V4, Q4⟩ := fr4.B
  have I4 := I3.eq fr4
  obtain ⟨U5, e5, fr5⟩ := f_graph4 (X := []) I4
  rw [B4, B3, V4, D3] at e5
  obtain ⟨B5, V5, Q5⟩ := fr5.B
  have I5 := I4.eq fr5
  have e6 := f_chipsAt (X := []) (S := U5) f5
  rw [V5, V4] at e6
  obtain ⟨U6, n2, fr6, e7, w6⟩ := a7 (X := []) I5 (i := 0) (j := 0) (by decide) (by decide) 0
  rw [B5, B4, B3, V5, V4, Q5, Q4, Q3] at w6
  have nn : n2 = n := by
    rcases w6 with ⟨w, -⟩ | ⟨-, W', k1, k2, k3⟩
    · exact absurd ⟨n0, n0, q⟩ w
    · rw [k3, u3]
      exact u2.un g k2 (u1.sy.tr (E3.tr k1)) (by decide) n0 0 (by decide)
  obtain ⟨B6, V6, Q6⟩ := fr6.B
  have I6 := I5.eq fr6
  obtain ⟨U7, r2, fr7, e8, w7⟩ := a5 (X := []) I6
  rw [B6, B5, B4, B3, V6, V5, V4, Q6, Q5, Q4, Q3] at w7
  have rr : r2 = r := rkA.un g (fun q => kQ.ok I q) E3 hr w7
  have br := hr.b
  subst rr
  subst nn
  obtain ⟨cf, hcf⟩ : ∃ cf, cf = U3 15 f := ⟨_, rfl⟩
  rw [← hcf] at e6 w3 cy
  have e1' : m_L_asks [vR 0, vI 7, vI (c : Int), vI (c : Int), vI 0] (k_W [] U) = some (.inl (some (vI t)), k_W [] U1) := e1
  have e2' : m_L_asks [vR 0, vI 7, vI 0, vI 0, vI 0] (k_W [] U1) = some (.inl (some (vI n2)), k_W [] U2) := e2
  have e7' : m_L_asks [vR 0, vI 7, vI 0, vI 0, vI 0] (k_W [] U5) = some (.inl (some (vI n2)), k_W [] U6) := e7
  clear e1 e2 e7 w1 w2 w6 w7 hr u1 u2 u3 E3 hD bV g B1 B2 B3 B4 B5 B6 V1 V2 V4 V5 V6 Q1 Q2 Q3 Q4 Q5 Q6 I1 I2 I3 I4 I5 I6 hc hf
  have yc : y = -70008 ∨ (y ≠ -70008 ∧ y = cf) := by omega
  rcases e4 with ⟨tt, rfl⟩ | ⟨tt, e4⟩
  · rcases yc with yc | ⟨yc, yd⟩
    · refine iff_true_intro ?_
      simp only [s_L_chips_585, s_L_chips_593, s_L_chips_602, s_L_chips_625, s_L_chips_636, s_L_chips_648, g1, g2, g3, g4, e1', e2', e3, e5, e6, e7', e8, eq_true tt, eq_true yc, eq_self, not_true_eq_false, not_false_eq_true, decide_true, decide_false, z_vB1, z_vB0, if_true, if_false, not_true_eq_false, not_false_eq_true, exists_eq, qS_nop, qS_seq, qS_set, qS_setJ, qS_if, qS_brk, qS_ret, qS_retV, qS_throw, qS_inc, qS_cl, qS_ast, qS_aop, qS_fst, qS_fop, qS_sw, qT_eC, qT_eCB, qT_eL, qT_eLJ, qT_eLR, qT_eLS, qT_eSLen, qT_eSLd, qT_eLB, qT_e1, qT_e2, qT_bCmp, qT_bCmpJ, qT_bAnd, qT_bOr, qT_bNot, qT_eBI, qT_eIf, qT_eLd, qT_eLdR, qT_eLen, qT_eF, qT_eFR, qT_aN, qT_aS, qT_eCl, qT_eClR, qT_eClB, qT_some, qT_x, z_nx_N, z_nx_B, z_nx_R, z_nx_X, z_bk_N, z_bk_B, z_bk_R, z_bk_X, oAdd, oSub, oMul, oNeg, cLt, cLe, cGt, cGe, cEq, cNe, Option.some.injEq, Sum.inl.injEq, Sum.inr.injEq, Prod.mk.injEq, exists_eq_left, exists_eq_left', exists_eq_right, exists_and_left, reduceCtorEq, and_true, true_and, and_false, false_and, List.getElem?_cons_zero, List.getElem?_cons_succ, List.set_cons_zero, List.set_cons_succ, List.replicate, List.length_cons, List.length_nil, List.cons_append, List.nil_append, Nat.reduceAdd, Nat.reduceSub, decide_eq_true_eq, decide_eq_false_iff_not, Bool.true_eq_false, Bool.false_eq_true, true_implies, false_implies, implies_true, Nat.reduceLT, exists_const, z_vB_inj, and_assoc, z_in_iff, oI2L, oL2I, Int.toNat_natCast, z_toNat0, Bool.not_eq_true', Bool.not_eq_false', ne_eq, Bool.not_true, Bool.not_false, Nat.add_zero, Int.add_zero, z_sl_s]
      (repeat' (first | apply And.intro | intro _)) <;> first | omega | rfl | grind
    · refine iff_true_intro ?_
      simp only [s_L_chips_585, s_L_chips_593, s_L_chips_602, s_L_chips_625, s_L_chips_636, s_L_chips_648, g1, g2, g3, g4, e1', e2', e3, e5, e6, e7', e8, eq_true tt, eq_false yc, eq_true yd, eq_self, not_true_eq_false, not_false_eq_true, decide_true, decide_false, z_vB1, z_vB0, if_true, if_false, not_true_eq_false, not_false_eq_true, exists_eq, qS_nop, qS_seq, qS_set, qS_setJ, qS_if, qS_brk, qS_ret, qS_retV, qS_throw, qS_inc, qS_cl, qS_ast, qS_aop, qS_fst, qS_fop, qS_sw, qT_eC, qT_eCB, qT_eL, qT_eLJ, qT_eLR, qT_eLS, qT_eSLen, qT_eSLd, qT_eLB, qT_e1, qT_e2, qT_bCmp, qT_bCmpJ, qT_bAnd, qT_bOr, qT_bNot, qT_eBI, qT_eIf, qT_eLd, qT_eLdR, qT_eLen, qT_eF, qT_eFR, qT_aN, qT_aS, qT_eCl, qT_eClR, qT_eClB, qT_some, qT_x, z_nx_N, z_nx_B, z_nx_R, z_nx_X, z_bk_N, z_bk_B, z_bk_R, z_bk_X, oAdd, oSub, oMul, oNeg, cLt, cLe, cGt, cGe, cEq, cNe, Option.some.injEq, Sum.inl.injEq, Sum.inr.injEq, Prod.mk.injEq, exists_eq_left, exists_eq_left', exists_eq_right, exists_and_left, reduceCtorEq, and_true, true_and, and_false, false_and, List.getElem?_cons_zero, List.getElem?_cons_succ, List.set_cons_zero, List.set_cons_succ, List.replicate, List.length_cons, List.length_nil, List.cons_append, List.nil_append, Nat.reduceAdd, Nat.reduceSub, decide_eq_true_eq, decide_eq_false_iff_not, Bool.true_eq_false, Bool.false_eq_true, true_implies, false_implies, implies_true, Nat.reduceLT, exists_const, z_vB_inj, and_assoc, z_in_iff, oI2L, oL2I, Int.toNat_natCast, z_toNat0, Bool.not_eq_true', Bool.not_eq_false', ne_eq, Bool.not_true, Bool.not_false, Nat.add_zero, Int.add_zero, z_sl_s]
      (repeat' (first | apply And.intro | intro _)) <;> first | omega | rfl | grind
  · rcases yc with yc | ⟨yc, yd⟩
    · refine iff_true_intro ?_
      simp only [s_L_chips_585, s_L_chips_593, s_L_chips_602, s_L_chips_625, s_L_chips_636, s_L_chips_648, g1, g2, g3, g4, e1', e2', e3, e4, e5, e6, e7', e8, eq_false tt, eq_true yc, eq_self, not_true_eq_false, not_false_eq_true, decide_true, decide_false, z_vB1, z_vB0, if_true, if_false, not_true_eq_false, not_false_eq_true, exists_eq, qS_nop, qS_seq, qS_set, qS_setJ, qS_if, qS_brk, qS_ret, qS_retV, qS_throw, qS_inc, qS_cl, qS_ast, qS_aop, qS_fst, qS_fop, qS_sw, qT_eC, qT_eCB, qT_eL, qT_eLJ, qT_eLR, qT_eLS, qT_eSLen, qT_eSLd, qT_eLB, qT_e1, qT_e2, qT_bCmp, qT_bCmpJ, qT_bAnd, qT_bOr, qT_bNot, qT_eBI, qT_eIf, qT_eLd, qT_eLdR, qT_eLen, qT_eF, qT_eFR, qT_aN, qT_aS, qT_eCl, qT_eClR, qT_eClB, qT_some, qT_x, z_nx_N, z_nx_B, z_nx_R, z_nx_X, z_bk_N, z_bk_B, z_bk_R, z_bk_X, oAdd, oSub, oMul, oNeg, cLt, cLe, cGt, cGe, cEq, cNe, Option.some.injEq, Sum.inl.injEq, Sum.inr.injEq, Prod.mk.injEq, exists_eq_left, exists_eq_left', exists_eq_right, exists_and_left, reduceCtorEq, and_true, true_and, and_false, false_and, List.getElem?_cons_zero, List.getElem?_cons_succ, List.set_cons_zero, List.set_cons_succ, List.replicate, List.length_cons, List.length_nil, List.cons_append, List.nil_append, Nat.reduceAdd, Nat.reduceSub, decide_eq_true_eq, decide_eq_false_iff_not, Bool.true_eq_false, Bool.false_eq_true, true_implies, false_implies, implies_true, Nat.reduceLT, exists_const, z_vB_inj, and_assoc, z_in_iff, oI2L, oL2I, Int.toNat_natCast, z_toNat0, Bool.not_eq_true', Bool.not_eq_false', ne_eq, Bool.not_true, Bool.not_false, Nat.add_zero, Int.add_zero, z_sl_s]
      (repeat' (first | apply And.intro | intro _)) <;> first | omega | rfl | grind
    · refine iff_true_intro ?_
      simp only [s_L_chips_585, s_L_chips_593, s_L_chips_602, s_L_chips_625, s_L_chips_636, s_L_chips_648, g1, g2, g3, g4, e1', e2', e3, e4, e5, e6, e7', e8, eq_false tt, eq_false yc, eq_true yd, eq_self, not_true_eq_false, not_false_eq_true, decide_true, decide_false, z_vB1, z_vB0, if_true, if_false, not_true_eq_false, not_false_eq_true, exists_eq, qS_nop, qS_seq, qS_set, qS_setJ, qS_if, qS_brk, qS_ret, qS_retV, qS_throw, qS_inc, qS_cl, qS_ast, qS_aop, qS_fst, qS_fop, qS_sw, qT_eC, qT_eCB, qT_eL, qT_eLJ, qT_eLR, qT_eLS, qT_eSLen, qT_eSLd, qT_eLB, qT_e1, qT_e2, qT_bCmp, qT_bCmpJ, qT_bAnd, qT_bOr, qT_bNot, qT_eBI, qT_eIf, qT_eLd, qT_eLdR, qT_eLen, qT_eF, qT_eFR, qT_aN, qT_aS, qT_eCl, qT_eClR, qT_eClB, qT_some, qT_x, z_nx_N, z_nx_B, z_nx_R, z_nx_X, z_bk_N, z_bk_B, z_bk_R, z_bk_X, oAdd, oSub, oMul, oNeg, cLt, cLe, cGt, cGe, cEq, cNe, Option.some.injEq, Sum.inl.injEq, Sum.inr.injEq, Prod.mk.injEq, exists_eq_left, exists_eq_left', exists_eq_right, exists_and_left, reduceCtorEq, and_true, true_and, and_false, false_and, List.getElem?_cons_zero, List.getElem?_cons_succ, List.set_cons_zero, List.set_cons_succ, List.replicate, List.length_cons, List.length_nil, List.cons_append, List.nil_append, Nat.reduceAdd, Nat.reduceSub, decide_eq_true_eq, decide_eq_false_iff_not, Bool.true_eq_false, Bool.false_eq_true, true_implies, false_implies, implies_true, Nat.reduceLT, exists_const, z_vB_inj, and_assoc, z_in_iff, oI2L, oL2I, Int.toNat_natCast, z_toNat0, Bool.not_eq_true', Bool.not_eq_false', ne_eq, Bool.not_true, Bool.not_false, Nat.add_zero, Int.add_zero, z_sl_s]
      (repeat' (first | apply And.intro | intro _)) <;> first | omega | rfl | grind
theorem lc260 {sc : List Int} {U : Nat → Nat → Int} (I : cInv U) {a x : Nat} (hx : x < 1073741824) {z6 z7 z8 : z_V} :
    qS (s_L_chips_260 sc) [vR 0, vS, vI (a : Int), vI (x : Int), vB true, vI 5, z6, z7, z8, vU, vU, vU, vU, vU, vU, vU] (k_W [] U) (fun oc h1 => oc = oR (some (vB true)) ∧ ∃ W, h1 = k_W [] W) ↔ True := by
  have b6 : INF = 1000000 := rfl
  have g := I.g
  have bV : nVb (U 15) 113 := fun v hv => by have := I.2.2.2.1.2 v hv; omega
  have bR : nVb (cRs (kF U 10 5) (U 15)) 113 := fun v hv => by
    rw [← kPv_t]
    exact kPv_b I true hv
  obtain ⟨U1, e1, fr1⟩ := f_graph4 (X := []) I
  obtain ⟨B1, V1, Q1⟩ := fr1.B
  have I1 := I.eq fr1
  have e2 := f_graph2 (X := []) I1
  have e3 := f_graph3 (X := []) I1
  rw [B1] at e2
  rw [Q1] at e3
  obtain ⟨U2, hU2⟩ : ∃ U2, U2 = kA1 U1 := ⟨_, rfl⟩
  have fr2 : cFr (fun _ => False) U1 U2 := by rw [hU2]; exact kA1_fr
  rw [← hU2] at e3
  obtain ⟨B2, V2, Q2⟩ := fr2.B
  have I2 := I1.eq fr2
  have e4 := f_graph1 (X := []) I2
  have e5 := f_graph0 (X := []) I2
  rw [B2, B1] at e4 e5
  obtain ⟨U3, e6, fr3⟩ := f_graph5 (X := []) I2
  rw [B2, B1] at e6
  obtain ⟨B3, V3, Q3⟩ := fr3.B
  have I3 := I2.eq fr3
  have e7 := f_graph0 (X := []) I3
  rw [B3, B2, B1] at e7
  obtain ⟨U4, r, fr4, e8, w8⟩ := a5 (X := []) I3
  obtain ⟨B4, V4, Q4⟩ := fr4.B
  have I4 := I3.eq fr4
  obtain ⟨U5, r', fr5, e9, w9⟩ := a6 (X := []) I4
  obtain ⟨B5, V5, Q5⟩ := fr5.B
  have I5 := I4.eq fr5
  rw [B3, B2, B1, V3, V2, V1, Q3, Q2, Q1] at w8
  rw [B4, B3, B2, B1, V4, V3, V2, V1, Q4, Q3, Q2, Q1] at w9
  have B5' : kF U5 10 5 = kF U 10 5 := by rw [B5, B4, B3, B2, B1]
  have V5' : U5 15 = U 15 := by rw [V5, V4, V3, V2, V1]
  have Q5' : kQ U5 = kQ U := by rw [Q5, Q4, Q3, Q2, Q1]
  have bD := kR_nDg (B := kF U 10 5) bV
  have bG := kR_nGn g
  have be := nEd_b g.bd
  have bc := z_cnt_b (fun v => z_dec (nHv (kF U 10 5) v)) 5
  have bc1 := cnt_0 (fun v => z_dec (nHv (kF U 10 5) v)) ((z_dec_iff _).mpr (Or.inl rfl)) 4
  have hG : nGn (kF U 10 5) = nEd (kF U 10 5) - z_cnt (fun v => z_dec (nHv (kF U 10 5) v)) 5 + 1 := rfl
  have dR := cRs_dg g (U 15)
  have tb : -2147483648 ≤ tD4 (tL (kF U 10 5)) ∧ tD4 (tL (kF U 10 5)) < 2147483648 := by
    have w2 := tL_tb g
    omega
  have one : ((1 : Int) = 1) = True := eq_true rfl
  have n01 : ((0 : Int) = 1) = False := eq_false (by decide)
  have br := w8.b
  have br' := w9.b
  by_cases q : kQ U
  · have c := kQ.ok I q
    have tp := tD4_pos g q
    obtain ⟨k1, k2⟩ := rkA.ok c bV w8 q
    obtain ⟨k3, -⟩ := rkA.ok c bR w9 q
    rw [dR] at k3
    have k4 := rkA.rr c bV bR w8 w9
    have K := lc585 (sc := sc) (a := a) (x := x) (G := nGn (kF U 10 5)) (r := r) (r' := r') (o := 2 * nGn (kF U 10 5) - 2 - nDg (kF U 10 5) (U 15) 5) I5 (by rw [Q5']; exact q) (by rw [B5', V5', Q5']; exact w8) hx
    rw [B5', V5'] at K
    rw [(z_dec_iff _).mpr q] at e3
    generalize nGn (kF U 10 5) = G at *
    generalize nDg (kF U 10 5) (U 15) 5 = D at *
    generalize nEd (kF U 10 5) = m at *
    generalize z_cnt (fun v => z_dec (nHv (kF U 10 5) v)) 5 = l at *
    generalize tD4 (tL (kF U 10 5)) = t at *
    have K5 := lc544 bD bG br br' k4 K
    have K4 := lc488 bD bG br k2 K5
    have K3 := lc422 bD (by omega) br br' k1 k3 K4
    clear w8 w9 dR c bV bR
    refine iff_true_intro ?_
    simp only [s_L_chips_260, s_L_chips_267, s_L_chips_274, s_L_chips_290, s_L_chips_346, s_L_chips_356, s_L_chips_367, s_L_chips_378, e1, e2, e3, e4, e5, e6, e7, e8, e9, one, eq_true hG, eq_true tp, eq_true (show 0 < l by omega), eq_self, if_true, decide_true, K3, z_vB1, z_vB0, if_true, if_false, not_true_eq_false, not_false_eq_true, exists_eq, qS_nop, qS_seq, qS_set, qS_setJ, qS_if, qS_brk, qS_ret, qS_retV, qS_throw, qS_inc, qS_cl, qS_ast, qS_aop, qS_fst, qS_fop, qS_sw, qT_eC, qT_eCB, qT_eL, qT_eLJ, qT_eLR, qT_eLS, qT_eSLen, qT_eSLd, qT_eLB, qT_e1, qT_e2, qT_bCmp, qT_bCmpJ, qT_bAnd, qT_bOr, qT_bNot, qT_eBI, qT_eIf, qT_eLd, qT_eLdR, qT_eLen, qT_eF, qT_eFR, qT_aN, qT_aS, qT_eCl, qT_eClR, qT_eClB, qT_some, qT_x, z_nx_N, z_nx_B, z_nx_R, z_nx_X, z_bk_N, z_bk_B, z_bk_R, z_bk_X, oAdd, oSub, oMul, oNeg, cLt, cLe, cGt, cGe, cEq, cNe, Option.some.injEq, Sum.inl.injEq, Sum.inr.injEq, Prod.mk.injEq, exists_eq_left, exists_eq_left', exists_eq_right, exists_and_left, reduceCtorEq, and_true, true_and, and_false, false_and, List.getElem?_cons_zero, List.getElem?_cons_succ, List.set_cons_zero, List.set_cons_succ, List.replicate, List.length_cons, List.length_nil, List.cons_append, List.nil_append, Nat.reduceAdd, Nat.reduceSub, decide_eq_true_eq, decide_eq_false_iff_not, Bool.true_eq_false, Bool.false_eq_true, true_implies, false_implies, implies_true, Nat.reduceLT, exists_const, z_vB_inj, and_assoc, z_in_iff, oI2L, oL2I, Int.toNat_natCast, z_toNat0, Bool.not_eq_true', Bool.not_eq_false', ne_eq, Bool.not_true, Bool.not_false, Nat.add_zero, Int.add_zero, z_sl_s]
    (repeat' (first | apply And.intro | intro _)) <;> first | omega | rfl | grind
  · have tz0 := tD4_0 g q
    have r0 := w8.n q
    have r0' := w9.n q
    obtain ⟨U6, t7, fr6, e10, w10⟩ := a7 (X := []) I5 (i := 0) (j := 0) (by decide) (by decide) 0
    have t70 : t7 = -70008 := by
      rcases w10 with ⟨-, w⟩ | ⟨w, -⟩
      · exact w
      · exact absurd (by rw [← Q5']; exact w.2.2) q
    have e10' : m_L_asks [vR 0, vI 7, vI 0, vI 0, vI 0] (k_W [] U5) = some (.inl (some (vI t7)), k_W [] U6) := e10
    rw [(z_dec_f _).mpr q] at e3
    have n00 : ¬ ((0 : Int) < 0) := by decide
    rw [tz0] at e6
    subst r0
    subst r0'
    subst t70
    generalize nGn (kF U 10 5) = G at *
    generalize nDg (kF U 10 5) (U 15) 5 = D at *
    generalize nEd (kF U 10 5) = m at *
    generalize z_cnt (fun v => z_dec (nHv (kF U 10 5) v)) 5 = l at *
    clear w8 w9 w10 dR bV bR tb tz0
    refine iff_true_intro ?_
    simp only [s_L_chips_260, s_L_chips_267, s_L_chips_274, s_L_chips_290, s_L_chips_346, s_L_chips_356, s_L_chips_367, s_L_chips_378, e1, e2, e3, e4, e5, e6, e7, e8, e9, e10', one, n01, n00, eq_true hG, eq_true (show 0 < l by omega), eq_self, Bool.false_ne_true, if_true, if_false, decide_true, decide_false, z_vB1, z_vB0, if_true, if_false, not_true_eq_false, not_false_eq_true, exists_eq, qS_nop, qS_seq, qS_set, qS_setJ, qS_if, qS_brk, qS_ret, qS_retV, qS_throw, qS_inc, qS_cl, qS_ast, qS_aop, qS_fst, qS_fop, qS_sw, qT_eC, qT_eCB, qT_eL, qT_eLJ, qT_eLR, qT_eLS, qT_eSLen, qT_eSLd, qT_eLB, qT_e1, qT_e2, qT_bCmp, qT_bCmpJ, qT_bAnd, qT_bOr, qT_bNot, qT_eBI, qT_eIf, qT_eLd, qT_eLdR, qT_eLen, qT_eF, qT_eFR, qT_aN, qT_aS, qT_eCl, qT_eClR, qT_eClB, qT_some, qT_x, z_nx_N, z_nx_B, z_nx_R, z_nx_X, z_bk_N, z_bk_B, z_bk_R, z_bk_X, oAdd, oSub, oMul, oNeg, cLt, cLe, cGt, cGe, cEq, cNe, Option.some.injEq, Sum.inl.injEq, Sum.inr.injEq, Prod.mk.injEq, exists_eq_left, exists_eq_left', exists_eq_right, exists_and_left, reduceCtorEq, and_true, true_and, and_false, false_and, List.getElem?_cons_zero, List.getElem?_cons_succ, List.set_cons_zero, List.set_cons_succ, List.replicate, List.length_cons, List.length_nil, List.cons_append, List.nil_append, Nat.reduceAdd, Nat.reduceSub, decide_eq_true_eq, decide_eq_false_iff_not, Bool.true_eq_false, Bool.false_eq_true, true_implies, false_implies, implies_true, Nat.reduceLT, exists_const, z_vB_inj, and_assoc, z_in_iff, oI2L, oL2I, Int.toNat_natCast, z_toNat0, Bool.not_eq_true', Bool.not_eq_false', ne_eq, Bool.not_true, Bool.not_false, Nat.add_zero, Int.add_zero, z_sl_s]
    (repeat' (first | apply And.intro | intro _)) <;> first | omega | rfl | grind
end LCT
