/-! THE FACE: rank, restRank -/
section RK
variable {S : Nat → Nat → Int}
theorem kInv.sm (I : kInv S) : kSm (kF S 10 5) (rE S) := fun i j hi hj => by
  rw [kF_l hi]
  exact (I.2.2.2.1.2.1 i j hi hj).symm
theorem kInv.g (I : kInv S) : gOk (kF S 10 5) := I.2.2.2.1.1
theorem kInv.g' (I : kInv S) : gOk (rE S) := gOk_cg I.sm I.g
/-- connected -/
def kQ (S : Nat → Nat → Int) : Prop := ∀ v, v < 5 → nHv (kF S 10 5) v → iB ((nNr (kF S 10 5) 0 4 : Nat) : Int) v
theorem kQ.ok (I : kInv S) (h : kQ S) : cOk (kF S 10 5) 0 := kConn.ok I.g h
theorem kQ_rf (I : kInv S) : (∀ k, k < 5 → (nHv (rE S) k ↔ iB (rCr (rE S) 5 : Int) k)) ↔ kQ S := by
  rw [kConn I.g']
  unfold kQ
  rw [nNr_cg I.sm 0 4]
  refine forall_congr' (fun v => forall_congr' (fun hv => ?_))
  rw [nHv_cg I.sm hv]
theorem rE_e {T : Nat → Nat → Int} (e : T 98 = S 98) : rE T = rE S := by
  unfold rE
  rw [e]
theorem rf_cn (I : kInv S) {T : Nat → Nat → Int} (e : T 98 = S 98) : m_X6_isConnected [vR 85] (k_W T) = some (.inl (some (vB (z_dec (kQ S)))), k_W T) := by
  have w := rf_isConnected (S := T) (by rw [rE_e e]; exact I.g'.bd)
  rw [rE_e e] at w
  rw [w, z_dec_c _ _ (kQ_rf I)]
theorem s_cn (I : kInv S) : m_X3_isConnected [vR 8] (k_W S) = some (.inl (some (vB (z_dec (kQ S)))), k_W (k_u S 16 (nG (kF S 10 5) (S 16) 0 4))) := by
  rw [s_connected (k_net (S := S)) I.g.bd, k_s16]
  rfl
theorem s_nCn1 (I : kInv S) (q : kQ S) : m_X5_needConnected [vR 0] (k_W S) = some (.inl none, k_W (k_u S 16 (nG (kF S 10 5) (S 16) 0 4))) := by
  have e := s_cn I
  rw [(z_dec_iff _).mpr q] at e
  unfold m_X5_needConnected
  rw [k_v0]
  apply q_body
  have b6 : INF = 1000000 := rfl
  simp only [b_X5_needConnected, k_o0, e, z_vB1, z_vB0, if_true, if_false, not_true_eq_false, not_false_eq_true, k_t_n, k_t_1, exists_eq, qS_nop, qS_seq, qS_set, qS_setJ, qS_if, qS_brk, qS_ret, qS_retV, qS_throw, qS_inc, qS_cl, qS_ast, qS_aop, qS_fst, qS_fop, qS_sw, qT_eC, qT_eCB, qT_eL, qT_eLJ, qT_eLR, qT_eLB, qT_e1, qT_e2, qT_bCmp, qT_bCmpJ, qT_bAnd, qT_bOr, qT_bNot, qT_eBI, qT_eIf, qT_eLd, qT_eLdR, qT_eLen, qT_eF, qT_eFR, qT_aN, qT_aS, qT_eCl, qT_eClR, qT_eClB, qT_some, qT_x, z_nx_N, z_nx_B, z_nx_R, z_nx_X, z_bk_N, z_bk_B, z_bk_R, z_bk_X, oAdd, oSub, oMul, oNeg, cLt, cLe, cGt, cGe, cEq, cNe, Option.some.injEq, Sum.inl.injEq, Sum.inr.injEq, Prod.mk.injEq, exists_eq_left, exists_eq_left', exists_eq_right, exists_and_left, reduceCtorEq, and_true, true_and, and_false, false_and, List.getElem?_cons_zero, List.getElem?_cons_succ, List.set_cons_zero, List.set_cons_succ, List.replicate, List.length_cons, List.length_nil, List.cons_append, List.nil_append, Nat.reduceAdd, Nat.reduceSub, decide_eq_true_eq, decide_eq_false_iff_not, Bool.true_eq_false, Bool.false_eq_true, true_implies, false_implies, implies_true, Nat.reduceLT, exists_const, z_vB_inj, and_assoc, z_in_iff, oI2L, oL2I, Int.toNat_natCast, z_toNat0, Bool.not_eq_true', Bool.not_eq_false', ne_eq, Bool.not_true, Bool.not_false, Nat.add_zero, Int.add_zero, z_sl_s]
theorem s_nCn0 (I : kInv S) (q : ¬ kQ S) : m_X5_needConnected [vR 0] (k_W S) = some (.inr kIS, k_W (k_u S 16 (nG (kF S 10 5) (S 16) 0 4))) := by
  have e := s_cn I
  rw [(z_dec_f _).mpr q] at e
  unfold m_X5_needConnected
  rw [k_v0]
  apply q_body
  have b6 : INF = 1000000 := rfl
  simp only [b_X5_needConnected, k_o0, e, kIS, z_vB1, z_vB0, if_true, if_false, not_true_eq_false, not_false_eq_true, k_t_n, k_t_1, exists_eq, qS_nop, qS_seq, qS_set, qS_setJ, qS_if, qS_brk, qS_ret, qS_retV, qS_throw, qS_inc, qS_cl, qS_ast, qS_aop, qS_fst, qS_fop, qS_sw, qT_eC, qT_eCB, qT_eL, qT_eLJ, qT_eLR, qT_eLB, qT_e1, qT_e2, qT_bCmp, qT_bCmpJ, qT_bAnd, qT_bOr, qT_bNot, qT_eBI, qT_eIf, qT_eLd, qT_eLdR, qT_eLen, qT_eF, qT_eFR, qT_aN, qT_aS, qT_eCl, qT_eClR, qT_eClB, qT_some, qT_x, z_nx_N, z_nx_B, z_nx_R, z_nx_X, z_bk_N, z_bk_B, z_bk_R, z_bk_X, oAdd, oSub, oMul, oNeg, cLt, cLe, cGt, cGe, cEq, cNe, Option.some.injEq, Sum.inl.injEq, Sum.inr.injEq, Prod.mk.injEq, exists_eq_left, exists_eq_left', exists_eq_right, exists_and_left, reduceCtorEq, and_true, true_and, and_false, false_and, List.getElem?_cons_zero, List.getElem?_cons_succ, List.set_cons_zero, List.set_cons_succ, List.replicate, List.length_cons, List.length_nil, List.cons_append, List.nil_append, Nat.reduceAdd, Nat.reduceSub, decide_eq_true_eq, decide_eq_false_iff_not, Bool.true_eq_false, Bool.false_eq_true, true_implies, false_implies, implies_true, Nat.reduceLT, exists_const, z_vB_inj, and_assoc, z_in_iff, oI2L, oL2I, Int.toNat_natCast, z_toNat0, Bool.not_eq_true', Bool.not_eq_false', ne_eq, Bool.not_true, Bool.not_false, Nat.add_zero, Int.add_zero, z_sl_s]
theorem s_sp (S : Nat → Nat → Int) : m_X3_startPile [vR 8] (k_W S) = some (.inl (some (vR 18)), k_W S) := s_startPile (k_net (S := S))
theorem s_dg18 (hB : nBd (kF S 10 5)) (hV : nVb (S 18) 100000000) : m_X3_degree [vR 8, vR 18] (k_W S) = some (.inl (some (vI (nDg (kF S 10 5) (S 18) 5))), k_W S) := s_dg (k_net (S := S)) hB (k_get (by decide)) hV
theorem s_nRk (hB : nBd (kF S 10 5)) (hV : nVb (S 18) 1000) : m_X5_needRanked [vR 0] (k_W S) = some (if nDg (kF S 10 5) (S 18) 5 ≤ 8 then .inl none else .inr kIS, k_W S) := by
  have e := s_dg18 hB (fun v hv => by have := hV v hv; omega)
  have b := nDg_b (B := kF S 10 5) (by decide) hV 5 (by omega)
  have sp := s_sp S
  by_cases q : nDg (kF S 10 5) (S 18) 5 ≤ 8
  · rw [if_pos q]
    unfold m_X5_needRanked
    rw [k_v0]
    apply q_body
    have b6 : INF = 1000000 := rfl
    simp only [b_X5_needRanked, k_o0, sp, e, kIS, qS_nop, qS_seq, qS_set, qS_setJ, qS_if, qS_brk, qS_ret, qS_retV, qS_throw, qS_inc, qS_cl, qS_ast, qS_aop, qS_fst, qS_fop, qS_sw, qT_eC, qT_eCB, qT_eL, qT_eLJ, qT_eLR, qT_eLB, qT_e1, qT_e2, qT_bCmp, qT_bCmpJ, qT_bAnd, qT_bOr, qT_bNot, qT_eBI, qT_eIf, qT_eLd, qT_eLdR, qT_eLen, qT_eF, qT_eFR, qT_aN, qT_aS, qT_eCl, qT_eClR, qT_eClB, qT_some, qT_x, z_nx_N, z_nx_B, z_nx_R, z_nx_X, z_bk_N, z_bk_B, z_bk_R, z_bk_X, oAdd, oSub, oMul, oNeg, cLt, cLe, cGt, cGe, cEq, cNe, Option.some.injEq, Sum.inl.injEq, Sum.inr.injEq, Prod.mk.injEq, exists_eq_left, exists_eq_left', exists_eq_right, exists_and_left, reduceCtorEq, and_true, true_and, and_false, false_and, List.getElem?_cons_zero, List.getElem?_cons_succ, List.set_cons_zero, List.set_cons_succ, List.replicate, List.length_cons, List.length_nil, List.cons_append, List.nil_append, Nat.reduceAdd, Nat.reduceSub, decide_eq_true_eq, decide_eq_false_iff_not, Bool.true_eq_false, Bool.false_eq_true, true_implies, false_implies, implies_true, Nat.reduceLT, exists_const, z_vB_inj, and_assoc, z_in_iff, oI2L, oL2I, Int.toNat_natCast, z_toNat0, Bool.not_eq_true', Bool.not_eq_false', ne_eq, Bool.not_true, Bool.not_false, Nat.add_zero, Int.add_zero, z_sl_s]
    omega
  · rw [if_neg q]
    unfold m_X5_needRanked
    rw [k_v0]
    apply q_body
    have b6 : INF = 1000000 := rfl
    simp only [b_X5_needRanked, k_o0, sp, e, kIS, qS_nop, qS_seq, qS_set, qS_setJ, qS_if, qS_brk, qS_ret, qS_retV, qS_throw, qS_inc, qS_cl, qS_ast, qS_aop, qS_fst, qS_fop, qS_sw, qT_eC, qT_eCB, qT_eL, qT_eLJ, qT_eLR, qT_eLB, qT_e1, qT_e2, qT_bCmp, qT_bCmpJ, qT_bAnd, qT_bOr, qT_bNot, qT_eBI, qT_eIf, qT_eLd, qT_eLdR, qT_eLen, qT_eF, qT_eFR, qT_aN, qT_aS, qT_eCl, qT_eClR, qT_eClB, qT_some, qT_x, z_nx_N, z_nx_B, z_nx_R, z_nx_X, z_bk_N, z_bk_B, z_bk_R, z_bk_X, oAdd, oSub, oMul, oNeg, cLt, cLe, cGt, cGe, cEq, cNe, Option.some.injEq, Sum.inl.injEq, Sum.inr.injEq, Prod.mk.injEq, exists_eq_left, exists_eq_left', exists_eq_right, exists_and_left, reduceCtorEq, and_true, true_and, and_false, false_and, List.getElem?_cons_zero, List.getElem?_cons_succ, List.set_cons_zero, List.set_cons_succ, List.replicate, List.length_cons, List.length_nil, List.cons_append, List.nil_append, Nat.reduceAdd, Nat.reduceSub, decide_eq_true_eq, decide_eq_false_iff_not, Bool.true_eq_false, Bool.false_eq_true, true_implies, false_implies, implies_true, Nat.reduceLT, exists_const, z_vB_inj, and_assoc, z_in_iff, oI2L, oL2I, Int.toNat_natCast, z_toNat0, Bool.not_eq_true', Bool.not_eq_false', ne_eq, Bool.not_true, Bool.not_false, Nat.add_zero, Int.add_zero, z_sl_s]
    omega
end RK
