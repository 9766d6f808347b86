/-! Net: reducing -/
def nSt (B : Nat → Nat → Int) (X : Nat) (V : Nat → Int) : Nat → Int :=
  if nRd B V X 4 = 0 then V else fun v => if v < 5 then nFi B V (nRd B V X 4) (nTm B V (nRd B V X 4) 5) v else V v
def nIt (B : Nat → Nat → Int) (X : Nat) (V : Nat → Int) : Nat → Nat → Int
  | 0 => V
  | k + 1 => nSt B X (nIt B X V k)
theorem nIt_fix {B : Nat → Nat → Int} {X : Nat} {V : Nat → Int} {k : Nat} (h : nRd B (nIt B X V k) X 4 = 0) : ∀ j, nIt B X V (k + j) = nIt B X V k
  | 0 => rfl
  | j + 1 => by
    have := nIt_fix h j
    show nSt B X (nIt B X V (k + j)) = _
    rw [this, nSt, if_pos h]
section NX
variable {h : z_Hp} {B P D : Nat → Nat → Int} {C N : Nat → Int}
theorem s_reduce (a : nAt h B C N P D) (hB : nBd B) {i : Nat} (hi : i < 5) {R : Nat → Nat} (hR : ∀ k, k < 5 → R k < 32 ∧ N k = (R k : Int)) (hV : ∀ j, j < 4 → nVb (nPay B R (P i) j) 1000000000) (hI : ∀ k, k < 1000000 → nVb (nIt B (R 4 - (R 4 &&& R 0)) (nPay B R (P i) 4) k) 1000000000) : m_X3_reduce [vR 8, vR (18 + i)] h = some (.inl none, h.set (18 + i) (.inr (0, 5, nIt B (R 4 - (R 4 &&& R 0)) (nPay B R (P i) 4) 1000000))) := by
  unfold m_X3_reduce
  rw [q_vm a.1]
  apply q_body
  have es : ∀ (g : Nat → Int) (x : z_Cl), (h.set (18 + i) (.inr (0, 5, g))).set (18 + i) x = h.set (18 + i) x := fun g x => List.set_set _
  have ep := s_pay a hB hi hR hV
  have hX : R 4 - (R 4 &&& R 0) < 32 := Nat.lt_of_le_of_lt (Nat.sub_le _ _) (hR 4 (by omega)).1
  simp only [b_X3_reduce, ep, qS_nop, qS_seq, qS_set, qS_setJ, qS_if, qS_brk, qS_ret, qS_retV, qS_throw, qS_inc, qS_cl, qS_ast, qS_aop, qS_fst, qS_fop, qS_sw, qT_eC, qT_eCB, qT_eL, qT_eLJ, qT_eLR, qT_eLB, qT_e1, qT_e2, qT_bCmp, qT_bCmpJ, qT_bAnd, qT_bOr, qT_bNot, qT_eBI, qT_eIf, qT_eLd, qT_eLdR, qT_eLen, qT_eF, qT_eFR, qT_aN, qT_aS, qT_eCl, qT_eClR, qT_eClB, qT_some, qT_x, z_nx_N, z_nx_B, z_nx_R, z_nx_X, z_bk_N, z_bk_B, z_bk_R, z_bk_X, oAdd, oSub, oMul, oNeg, cLt, cLe, cGt, cGe, cEq, cNe, Option.some.injEq, Sum.inl.injEq, Sum.inr.injEq, Prod.mk.injEq, exists_eq_left, exists_eq_left', exists_eq_right, exists_and_left, reduceCtorEq, and_true, true_and, and_false, false_and, List.getElem?_cons_zero, List.getElem?_cons_succ, List.set_cons_zero, List.set_cons_succ, List.replicate, List.length_cons, List.length_nil, List.cons_append, List.nil_append, Nat.reduceAdd, Nat.reduceSub, decide_eq_true_eq, decide_eq_false_iff_not, Bool.true_eq_false, Bool.false_eq_true, true_implies, false_implies, implies_true, Nat.reduceLT, exists_const, z_vB_inj, and_assoc, z_in_iff, oI2L, oL2I, Int.toNat_natCast, z_toNat0, Bool.not_eq_true', Bool.not_eq_false', ne_eq, Bool.not_true, Bool.not_false, Nat.add_zero, Int.add_zero, z_sl_s]
  generalize nPay B R (P i) 4 = V0 at hI ⊢
  refine qS_loop (fun k ρ h' => h' = h.set (18 + i) (.inr (0, 5, nIt B (R 4 - (R 4 &&& R 0)) V0 k)) ∧ ∃ x, ρ = [vR 8, vR (18 + i), vI (k : Int), x]) 1000000 ?_ ?_ 1000000 0 z_fuel _ _ (by omega) (z_fuel_lt (by omega)) ⟨rfl, _, rfl⟩
  · rintro k ρ h' hk ⟨rfl, x, rfl⟩
    have a' := a.setP hi (nIt B (R 4 - (R 4 &&& R 0)) V0 k)
    have hk2 := hI k hk
    have eu := s_unburnt a' hB hi (hR 4 (by omega)).1 (hR 0 (by omega)).1 (hR 4 (by omega)).2 (hR 0 (by omega)).2 (by simpa using hk2)
    simp only [if_true] at eu
    have es' := es (nIt B (R 4 - (R 4 &&& R 0)) V0 k)
    have fx := nIt_fix (B := B) (X := R 4 - (R 4 &&& R 0)) (V := V0) (k := k)
    have w : nIt B (R 4 - (R 4 &&& R 0)) V0 (k + 1) = nSt B (R 4 - (R 4 &&& R 0)) (nIt B (R 4 - (R 4 &&& R 0)) V0 k) := rfl
    unfold nSt at w
    have bU := nRd_b (B := B) (V := nIt B (R 4 - (R 4 &&& R 0)) V0 k) hX 4
    generalize hUe : nRd B (nIt B (R 4 - (R 4 &&& R 0)) V0 k) (R 4 - (R 4 &&& R 0)) 4 = U at bU eu fx w
    have et := s_times a' hB hi (s := U) bU (by simpa using hk2)
    simp only [if_true] at et
    have ef := s_fire a' hB hi (s := U) bU (nTm B (nIt B (R 4 - (R 4 &&& R 0)) V0 k) U 5)
    simp only [if_true] at ef
    simp only [eu, et, ef, es', qS_nop, qS_seq, qS_set, qS_setJ, qS_if, qS_brk, qS_ret, qS_retV, qS_throw, qS_inc, qS_cl, qS_ast, qS_aop, qS_fst, qS_fop, qS_sw, qT_eC, qT_eCB, qT_eL, qT_eLJ, qT_eLR, qT_eLB, qT_e1, qT_e2, qT_bCmp, qT_bCmpJ, qT_bAnd, qT_bOr, qT_bNot, qT_eBI, qT_eIf, qT_eLd, qT_eLdR, qT_eLen, qT_eF, qT_eFR, qT_aN, qT_aS, qT_eCl, qT_eClR, qT_eClB, qT_some, qT_x, z_nx_N, z_nx_B, z_nx_R, z_nx_X, z_bk_N, z_bk_B, z_bk_R, z_bk_X, oAdd, oSub, oMul, oNeg, cLt, cLe, cGt, cGe, cEq, cNe, Option.some.injEq, Sum.inl.injEq, Sum.inr.injEq, Prod.mk.injEq, exists_eq_left, exists_eq_left', exists_eq_right, exists_and_left, reduceCtorEq, and_true, true_and, and_false, false_and, List.getElem?_cons_zero, List.getElem?_cons_succ, List.set_cons_zero, List.set_cons_succ, List.replicate, List.length_cons, List.length_nil, List.cons_append, List.nil_append, Nat.reduceAdd, Nat.reduceSub, decide_eq_true_eq, decide_eq_false_iff_not, Bool.true_eq_false, Bool.false_eq_true, true_implies, false_implies, implies_true, Nat.reduceLT, exists_const, z_vB_inj, and_assoc, z_in_iff, oI2L, oL2I, Int.toNat_natCast, z_toNat0, Bool.not_eq_true', Bool.not_eq_false', ne_eq, Bool.not_true, Bool.not_false, Nat.add_zero, Int.add_zero, z_sl_s]
    refine ⟨by omega, by omega, by omega, by omega, by omega, by omega, by omega, by omega, by omega, fun q => ?_, fun q => ?_⟩
    · have r := fx (by omega) (1000000 - k)
      rw [show k + (1000000 - k) = 1000000 by omega] at r
      rw [r]
    · rw [if_neg (by omega)] at w
      refine ⟨?_, _, rfl⟩
      rw [w]
  · rintro ρ h' ⟨rfl, x, rfl⟩
    simp only [qS_nop, qS_seq, qS_set, qS_setJ, qS_if, qS_brk, qS_ret, qS_retV, qS_throw, qS_inc, qS_cl, qS_ast, qS_aop, qS_fst, qS_fop, qS_sw, qT_eC, qT_eCB, qT_eL, qT_eLJ, qT_eLR, qT_eLB, qT_e1, qT_e2, qT_bCmp, qT_bCmpJ, qT_bAnd, qT_bOr, qT_bNot, qT_eBI, qT_eIf, qT_eLd, qT_eLdR, qT_eLen, qT_eF, qT_eFR, qT_aN, qT_aS, qT_eCl, qT_eClR, qT_eClB, qT_some, qT_x, z_nx_N, z_nx_B, z_nx_R, z_nx_X, z_bk_N, z_bk_B, z_bk_R, z_bk_X, oAdd, oSub, oMul, oNeg, cLt, cLe, cGt, cGe, cEq, cNe, Option.some.injEq, Sum.inl.injEq, Sum.inr.injEq, Prod.mk.injEq, exists_eq_left, exists_eq_left', exists_eq_right, exists_and_left, reduceCtorEq, and_true, true_and, and_false, false_and, List.getElem?_cons_zero, List.getElem?_cons_succ, List.set_cons_zero, List.set_cons_succ, List.replicate, List.length_cons, List.length_nil, List.cons_append, List.nil_append, Nat.reduceAdd, Nat.reduceSub, decide_eq_true_eq, decide_eq_false_iff_not, Bool.true_eq_false, Bool.false_eq_true, true_implies, false_implies, implies_true, Nat.reduceLT, exists_const, z_vB_inj, and_assoc, z_in_iff, oI2L, oL2I, Int.toNat_natCast, z_toNat0, Bool.not_eq_true', Bool.not_eq_false', ne_eq, Bool.not_true, Bool.not_false, Nat.add_zero, Int.add_zero, z_sl_s]
    omega
end NX
