/-! THE FACE: mean -/
section FMr
variable {X : z_Hp} {S : Nat → Nat → Int}
theorem f_mean (I : cInv S) {i n : Nat} (hi : i < 4) (n51 : S (51 + 9 * i) 0 = (n : Int)) : ∃ S', m_X5_mean [vR 0, vI (i : Int), vI 0] (k_W X S) = some (.inl (some (vI (fRd (fSt (cM S i) n n)).1)), k_W X S') ∧ m_X5_mean [vR 0, vI (i : Int), vI 1] (k_W X S) = some (.inl (some (vI (fRd (fSt (cM S i) n n)).2)), k_W X S') ∧ cFr (fun a => 30 ≤ a ∧ a ≤ 43) S S' ∧ cInv S' := by
  have b6 : INF = 1000000 := rfl
  have c0 := s_nH1 (i := (i : Int)) (by omega)
  have c1 := s_nW1 (n := 0) (a := 0) (b := 1) (by decide) (by decide) (by decide)
  have c2 := s_nW1 (n := 1) (a := 0) (b := 1) (by decide) (by decide) (by decide)
  obtain ⟨n1, nb, n51', nB, nW⟩ := I.2.1 i hi
  have q1 : n1 = n := by omega
  subst q1
  have r2 := k_2r hi
  obtain ⟨T, x1, To, k5, f0, f1⟩ := s_meanOf (X := X) I hi nb n51 nB (fun _ _ _ _ => rfl) nW
  have h45 : z_obj (k_W X T) 45 1 = some [vI (T 45 0), vI (T 45 1)] := k_obj (by decide) rfl
  have fr : cFr (fun a => 30 ≤ a ∧ a ≤ 43) S T := fun a h1 h2 => To a h1 h2
  have n10 : ¬ ((1 : Int) = 0) := by decide
  refine ⟨T, ?_, ?_, fr, I.dr k5 fr⟩
  · rw [← f0]
    unfold m_X5_mean
    rw [k_v0]
    apply q_body
    have b6 : INF = 1000000 := rfl
    simp only [b_X5_mean, c0, c1, k_o0, k_a2, r2, x1, h45, z_vB1, z_vB0, if_true, if_false, not_true_eq_false, not_false_eq_true, exists_eq, qS_nop, qS_seq, qS_set, qS_setJ, qS_if, qS_brk, qS_ret, qS_retV, qS_throw, qS_inc, qS_cl, qS_ast, qS_aop, qS_fst, qS_fop, qS_sw, qT_eC, qT_eCB, qT_eL, qT_eLJ, qT_eLR, qT_eLS, qT_eSLen, qT_eSLd, qT_eLB, qT_e1, qT_e2, qT_bCmp, qT_bCmpJ, qT_bAnd, qT_bOr, qT_bNot, qT_eBI, qT_eIf, qT_eLd, qT_eLdR, qT_eLen, qT_eF, qT_eFR, qT_aN, qT_aS, qT_eCl, qT_eClR, qT_eClB, qT_some, qT_x, z_nx_N, z_nx_B, z_nx_R, z_nx_X, z_bk_N, z_bk_B, z_bk_R, z_bk_X, oAdd, oSub, oMul, oNeg, cLt, cLe, cGt, cGe, cEq, cNe, Option.some.injEq, Sum.inl.injEq, Sum.inr.injEq, Prod.mk.injEq, exists_eq_left, exists_eq_left', exists_eq_right, exists_and_left, reduceCtorEq, and_true, true_and, and_false, false_and, List.getElem?_cons_zero, List.getElem?_cons_succ, List.set_cons_zero, List.set_cons_succ, List.replicate, List.length_cons, List.length_nil, List.cons_append, List.nil_append, Nat.reduceAdd, Nat.reduceSub, decide_eq_true_eq, decide_eq_false_iff_not, Bool.true_eq_false, Bool.false_eq_true, true_implies, false_implies, implies_true, Nat.reduceLT, exists_const, z_vB_inj, and_assoc, z_in_iff, oI2L, oL2I, Int.toNat_natCast, z_toNat0, Bool.not_eq_true', Bool.not_eq_false', ne_eq, Bool.not_true, Bool.not_false, Nat.add_zero, Int.add_zero, z_sl_s]
    omega
  · rw [← f1]
    unfold m_X5_mean
    rw [k_v0]
    apply q_body
    have b6 : INF = 1000000 := rfl
    simp only [b_X5_mean, c0, c2, k_o0, k_a2, r2, x1, h45, n10, z_vB1, z_vB0, if_true, if_false, not_true_eq_false, not_false_eq_true, exists_eq, qS_nop, qS_seq, qS_set, qS_setJ, qS_if, qS_brk, qS_ret, qS_retV, qS_throw, qS_inc, qS_cl, qS_ast, qS_aop, qS_fst, qS_fop, qS_sw, qT_eC, qT_eCB, qT_eL, qT_eLJ, qT_eLR, qT_eLS, qT_eSLen, qT_eSLd, qT_eLB, qT_e1, qT_e2, qT_bCmp, qT_bCmpJ, qT_bAnd, qT_bOr, qT_bNot, qT_eBI, qT_eIf, qT_eLd, qT_eLdR, qT_eLen, qT_eF, qT_eFR, qT_aN, qT_aS, qT_eCl, qT_eClR, qT_eClB, qT_some, qT_x, z_nx_N, z_nx_B, z_nx_R, z_nx_X, z_bk_N, z_bk_B, z_bk_R, z_bk_X, oAdd, oSub, oMul, oNeg, cLt, cLe, cGt, cGe, cEq, cNe, Option.some.injEq, Sum.inl.injEq, Sum.inr.injEq, Prod.mk.injEq, exists_eq_left, exists_eq_left', exists_eq_right, exists_and_left, reduceCtorEq, and_true, true_and, and_false, false_and, List.getElem?_cons_zero, List.getElem?_cons_succ, List.set_cons_zero, List.set_cons_succ, List.replicate, List.length_cons, List.length_nil, List.cons_append, List.nil_append, Nat.reduceAdd, Nat.reduceSub, decide_eq_true_eq, decide_eq_false_iff_not, Bool.true_eq_false, Bool.false_eq_true, true_implies, false_implies, implies_true, Nat.reduceLT, exists_const, z_vB_inj, and_assoc, z_in_iff, oI2L, oL2I, Int.toNat_natCast, z_toNat0, Bool.not_eq_true', Bool.not_eq_false', ne_eq, Bool.not_true, Bool.not_false, Nat.add_zero, Int.add_zero, z_sl_s]
    omega
end FMr
