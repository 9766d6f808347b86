/-! Fraction -/
section FR
variable {h : z_Hp} {o : Nat}
theorem s_frNone {x y : z_V} (a : h[o]? = some (.inl (1, [x, y]))) : m_X1_becomeNone [vR o] h = some (.inl none, h.set o (.inl (1, [vI 0, vI (-1)]))) := by
  unfold m_X1_becomeNone
  rw [q_vm a]
  apply q_body
  simp only [b_X1_becomeNone, q_obj a, q_obj (z_set_get a), qS_nop, qS_seq, qS_set, qS_setJ, qS_if, qS_brk, qS_ret, qS_retV, qS_throw, qS_inc, qS_cl, qS_ast, qS_aop, qS_fst, qS_fop, qS_sw, qT_eC, qT_eCB, qT_eL, qT_eLJ, qT_eLR, qT_eLB, qT_e1, qT_e2, qT_bCmp, qT_bCmpJ, qT_bAnd, qT_bOr, qT_bNot, qT_eBI, qT_eIf, qT_eLd, qT_eLdR, qT_eLen, qT_eF, qT_eFR, qT_aN, qT_aS, qT_eCl, qT_eClR, qT_eClB, qT_some, qT_x, z_nx_N, z_nx_B, z_nx_R, z_nx_X, z_bk_N, z_bk_B, z_bk_R, z_bk_X, oAdd, oSub, oMul, oNeg, cLt, cLe, cGt, cGe, cEq, cNe, Option.some.injEq, Sum.inl.injEq, Sum.inr.injEq, Prod.mk.injEq, exists_eq_left, exists_eq_left', exists_eq_right, exists_and_left, reduceCtorEq, and_true, true_and, and_false, false_and, List.getElem?_cons_zero, List.getElem?_cons_succ, List.set_cons_zero, List.set_cons_succ, List.replicate, List.length_cons, List.length_nil, List.cons_append, List.nil_append, Nat.reduceAdd, Nat.reduceSub, decide_eq_true_eq, decide_eq_false_iff_not, Bool.true_eq_false, Bool.false_eq_true, true_implies, false_implies, implies_true, Nat.reduceLT, exists_const, z_vB_inj, and_assoc, z_in_iff, oI2L, oL2I, Int.toNat_natCast, z_toNat0, Bool.not_eq_true', Bool.not_eq_false', ne_eq, Bool.not_true, Bool.not_false, Nat.add_zero, Int.add_zero, z_sl_s]
  exact List.set_set _
/-- the last of the divisors -/
def fDv (A B : Int) : Nat → Int
  | 0 => 1
  | k + 1 => if A.tmod ((k : Int) + 2) = 0 ∧ B.tmod ((k : Int) + 2) = 0 then (k : Int) + 2 else fDv A B k
theorem fDv_b (A B : Int) : ∀ k : Nat, 1 ≤ fDv A B k ∧ fDv A B k ≤ (k : Int) + 1
  | 0 => by simp [fDv]
  | k + 1 => by
    have := fDv_b A B k
    unfold fDv
    split <;> omega
theorem z_tmod_b {A m : Int} (hm : 0 < m) : -m < A.tmod m ∧ A.tmod m < m := by
  have h1 := Int.tmod_lt_of_pos A hm
  have h2 := Int.tmod_lt_of_pos (-A) hm
  rw [Int.neg_tmod] at h2
  omega
theorem z_tdiv_b {A m b : Int} (hA : -b ≤ A ∧ A ≤ b) (hm : 0 < m) : -b ≤ A.tdiv m ∧ A.tdiv m ≤ b := by
  have h1 := Int.natAbs_tdiv_le_natAbs A m
  omega
theorem s_frBecome {x y : z_V} {A B : Int} (a : h[o]? = some (.inl (1, [x, y]))) (hA : -1000000000 ≤ A ∧ A ≤ 1000000000) (hB : 1 ≤ B ∧ B ≤ 1000) :
    m_X1_become [vR o, vI A, vI B] h = some (.inl none, h.set o (.inl (1, [vI (A.tdiv (fDv A B (B - 1).toNat)), vI (B.tdiv (fDv A B (B - 1).toNat))]))) := by
  unfold m_X1_become
  rw [q_vm a]
  apply q_body
  simp only [b_X1_become, qS_nop, qS_seq, qS_set, qS_setJ, qS_if, qS_brk, qS_ret, qS_retV, qS_throw, qS_inc, qS_cl, qS_ast, qS_aop, qS_fst, qS_fop, qS_sw, qT_eC, qT_eCB, qT_eL, qT_eLJ, qT_eLR, qT_eLB, qT_e1, qT_e2, qT_bCmp, qT_bCmpJ, qT_bAnd, qT_bOr, qT_bNot, qT_eBI, qT_eIf, qT_eLd, qT_eLdR, qT_eLen, qT_eF, qT_eFR, qT_aN, qT_aS, qT_eCl, qT_eClR, qT_eClB, qT_some, qT_x, z_nx_N, z_nx_B, z_nx_R, z_nx_X, z_bk_N, z_bk_B, z_bk_R, z_bk_X, oAdd, oSub, oMul, oNeg, cLt, cLe, cGt, cGe, cEq, cNe, Option.some.injEq, Sum.inl.injEq, Sum.inr.injEq, Prod.mk.injEq, exists_eq_left, exists_eq_left', exists_eq_right, exists_and_left, reduceCtorEq, and_true, true_and, and_false, false_and, List.getElem?_cons_zero, List.getElem?_cons_succ, List.set_cons_zero, List.set_cons_succ, List.replicate, List.length_cons, List.length_nil, List.cons_append, List.nil_append, Nat.reduceAdd, Nat.reduceSub, decide_eq_true_eq, decide_eq_false_iff_not, Bool.true_eq_false, Bool.false_eq_true, true_implies, false_implies, implies_true, Nat.reduceLT, exists_const, z_vB_inj, and_assoc, z_in_iff, oI2L, oL2I, Int.toNat_natCast, z_toNat0, Bool.not_eq_true', Bool.not_eq_false', ne_eq, Bool.not_true, Bool.not_false, Nat.add_zero, Int.add_zero, z_sl_s]
  refine qS_for (fun k => [vR o, vI A, vI B, vI (fDv A B k), vI ((k : Int) + 2)]) (fun _ => h) (fun _ => True) (B - 1).toNat rfl rfl trivial (by omega) ?_ ?_
  · intro k hk _
    have e1 : oRem A ((k : Int) + 2) = some (A.tmod ((k : Int) + 2)) := by
      unfold oRem
      rw [if_pos]
      simp only [Bool.and_eq_true, z_in_iff, decide_eq_true_eq]
      omega
    have e2 : oRem B ((k : Int) + 2) = some (B.tmod ((k : Int) + 2)) := by
      unfold oRem
      rw [if_pos]
      simp only [Bool.and_eq_true, z_in_iff, decide_eq_true_eq]
      omega
    have b1 := z_tmod_b (A := A) (show (0 : Int) < (k : Int) + 2 by omega)
    have b2 := z_tmod_b (A := B) (show (0 : Int) < (k : Int) + 2 by omega)
    simp only [e1, e2, qS_nop, qS_seq, qS_set, qS_setJ, qS_if, qS_brk, qS_ret, qS_retV, qS_throw, qS_inc, qS_cl, qS_ast, qS_aop, qS_fst, qS_fop, qS_sw, qT_eC, qT_eCB, qT_eL, qT_eLJ, qT_eLR, qT_eLB, qT_e1, qT_e2, qT_bCmp, qT_bCmpJ, qT_bAnd, qT_bOr, qT_bNot, qT_eBI, qT_eIf, qT_eLd, qT_eLdR, qT_eLen, qT_eF, qT_eFR, qT_aN, qT_aS, qT_eCl, qT_eClR, qT_eClB, qT_some, qT_x, z_nx_N, z_nx_B, z_nx_R, z_nx_X, z_bk_N, z_bk_B, z_bk_R, z_bk_X, oAdd, oSub, oMul, oNeg, cLt, cLe, cGt, cGe, cEq, cNe, Option.some.injEq, Sum.inl.injEq, Sum.inr.injEq, Prod.mk.injEq, exists_eq_left, exists_eq_left', exists_eq_right, exists_and_left, reduceCtorEq, and_true, true_and, and_false, false_and, List.getElem?_cons_zero, List.getElem?_cons_succ, List.set_cons_zero, List.set_cons_succ, List.replicate, List.length_cons, List.length_nil, List.cons_append, List.nil_append, Nat.reduceAdd, Nat.reduceSub, decide_eq_true_eq, decide_eq_false_iff_not, Bool.true_eq_false, Bool.false_eq_true, true_implies, false_implies, implies_true, Nat.reduceLT, exists_const, z_vB_inj, and_assoc, z_in_iff, oI2L, oL2I, Int.toNat_natCast, z_toNat0, Bool.not_eq_true', Bool.not_eq_false', ne_eq, Bool.not_true, Bool.not_false, Nat.add_zero, Int.add_zero, z_sl_s]
    refine ⟨by omega, by omega, by omega, by omega, by omega, by omega, by omega, by omega, by omega, fun q1 => ⟨by omega, by omega, by omega, by omega, fun q2 => ?_, fun q2 => ?_⟩, fun q1 => ?_⟩
    · rw [fDv, if_pos ⟨q1, q2⟩]
      rfl
    · rw [fDv, if_neg (fun w => q2 w.2)]
      rfl
    · rw [fDv, if_neg (fun w => q1 w.1)]
      rfl
  · intro _
    have b0 := fDv_b A B (B - 1).toNat
    have e1 : oDiv A (fDv A B (B - 1).toNat) = some (A.tdiv (fDv A B (B - 1).toNat)) := by
      unfold oDiv
      rw [if_pos]
      simp only [Bool.and_eq_true, z_in_iff, decide_eq_true_eq]
      omega
    have e2 : oDiv B (fDv A B (B - 1).toNat) = some (B.tdiv (fDv A B (B - 1).toNat)) := by
      unfold oDiv
      rw [if_pos]
      simp only [Bool.and_eq_true, z_in_iff, decide_eq_true_eq]
      omega
    simp only [q_obj a, q_obj (z_set_get a), e1, e2, qS_nop, qS_seq, qS_set, qS_setJ, qS_if, qS_brk, qS_ret, qS_retV, qS_throw, qS_inc, qS_cl, qS_ast, qS_aop, qS_fst, qS_fop, qS_sw, qT_eC, qT_eCB, qT_eL, qT_eLJ, qT_eLR, qT_eLB, qT_e1, qT_e2, qT_bCmp, qT_bCmpJ, qT_bAnd, qT_bOr, qT_bNot, qT_eBI, qT_eIf, qT_eLd, qT_eLdR, qT_eLen, qT_eF, qT_eFR, qT_aN, qT_aS, qT_eCl, qT_eClR, qT_eClB, qT_some, qT_x, z_nx_N, z_nx_B, z_nx_R, z_nx_X, z_bk_N, z_bk_B, z_bk_R, z_bk_X, oAdd, oSub, oMul, oNeg, cLt, cLe, cGt, cGe, cEq, cNe, Option.some.injEq, Sum.inl.injEq, Sum.inr.injEq, Prod.mk.injEq, exists_eq_left, exists_eq_left', exists_eq_right, exists_and_left, reduceCtorEq, and_true, true_and, and_false, false_and, List.getElem?_cons_zero, List.getElem?_cons_succ, List.set_cons_zero, List.set_cons_succ, List.replicate, List.length_cons, List.length_nil, List.cons_append, List.nil_append, Nat.reduceAdd, Nat.reduceSub, decide_eq_true_eq, decide_eq_false_iff_not, Bool.true_eq_false, Bool.false_eq_true, true_implies, false_implies, implies_true, Nat.reduceLT, exists_const, z_vB_inj, and_assoc, z_in_iff, oI2L, oL2I, Int.toNat_natCast, z_toNat0, Bool.not_eq_true', Bool.not_eq_false', ne_eq, Bool.not_true, Bool.not_false, Nat.add_zero, Int.add_zero, z_sl_s]
    exact ⟨by omega, by omega, by omega, by omega, by omega, List.set_set _⟩
theorem s_frLesser {a b : Int} (q : h[o]? = some (.inl (1, [vI a, vI b]))) {A B : Int} (hA : -1000000000 ≤ A ∧ A ≤ 1000000000) (hB : 1 ≤ B ∧ B ≤ 1000) (hb : -1 ≤ b ∧ b ≤ 1000) (h1 : -2147483648 ≤ A * b ∧ A * b < 2147483648) (h2 : -2147483648 ≤ a * B ∧ a * B < 2147483648) :
    m_X1_becomeLesser [vR o, vI A, vI B] h = some (.inl none, if b = -1 ∨ A * b < a * B then h.set o (.inl (1, [vI (A.tdiv (fDv A B (B - 1).toNat)), vI (B.tdiv (fDv A B (B - 1).toNat))])) else h) := by
  unfold m_X1_becomeLesser
  rw [q_vm q]
  apply q_body
  simp only [b_X1_becomeLesser, q_obj q, s_frBecome q hA hB, qS_nop, qS_seq, qS_set, qS_setJ, qS_if, qS_brk, qS_ret, qS_retV, qS_throw, qS_inc, qS_cl, qS_ast, qS_aop, qS_fst, qS_fop, qS_sw, qT_eC, qT_eCB, qT_eL, qT_eLJ, qT_eLR, qT_eLB, qT_e1, qT_e2, qT_bCmp, qT_bCmpJ, qT_bAnd, qT_bOr, qT_bNot, qT_eBI, qT_eIf, qT_eLd, qT_eLdR, qT_eLen, qT_eF, qT_eFR, qT_aN, qT_aS, qT_eCl, qT_eClR, qT_eClB, qT_some, qT_x, z_nx_N, z_nx_B, z_nx_R, z_nx_X, z_bk_N, z_bk_B, z_bk_R, z_bk_X, oAdd, oSub, oMul, oNeg, cLt, cLe, cGt, cGe, cEq, cNe, Option.some.injEq, Sum.inl.injEq, Sum.inr.injEq, Prod.mk.injEq, exists_eq_left, exists_eq_left', exists_eq_right, exists_and_left, reduceCtorEq, and_true, true_and, and_false, false_and, List.getElem?_cons_zero, List.getElem?_cons_succ, List.set_cons_zero, List.set_cons_succ, List.replicate, List.length_cons, List.length_nil, List.cons_append, List.nil_append, Nat.reduceAdd, Nat.reduceSub, decide_eq_true_eq, decide_eq_false_iff_not, Bool.true_eq_false, Bool.false_eq_true, true_implies, false_implies, implies_true, Nat.reduceLT, exists_const, z_vB_inj, and_assoc, z_in_iff, oI2L, oL2I, Int.toNat_natCast, z_toNat0, Bool.not_eq_true', Bool.not_eq_false', ne_eq, Bool.not_true, Bool.not_false, Nat.add_zero, Int.add_zero, z_sl_s]
  refine ⟨by omega, by omega, by omega, by omega, fun q1 => ?_, fun q1 => ⟨by omega, by omega, by omega, by omega, fun q2 => ?_, fun q2 => ?_⟩⟩
  · rw [if_pos (Or.inl q1)]
  · rw [if_pos (Or.inr q2)]
  · rw [if_neg (by rintro (w | w) <;> contradiction)]
end FR
