/-! THE FACE: tree, both -/
section FTo
variable {S : Nat → Nat → Int}
theorem op_tree (I : kInv S) {p : Int} (hp : kR p) : kOp m_X5_tree m_X6_tree kIO "" [vI p] S := by
  have b6 : INF = 1000000 := rfl
  by_cases q0 : 0 ≤ p ∧ p ≤ 3
  rotate_left
  · have c0 := s_nH0 hp q0
    have r0 := rf_one0 hp q0
    refine kOp.x1 (r := vI 0) (S1 := S) (S2 := fun g => k_t (k_u S 103 g) 1) ?_ (fun g => ?_) (fun g => I.t g 1) (fun g => k_t_103) (fun g => k_t_1)
    · unfold m_X5_tree
      rw [k_v0]
      apply q_body
      have b6 : INF = 1000000 := rfl
      simp only [b_X5_tree, c0, qS_nop, qS_seq, qS_set, qS_setJ, qS_if, qS_brk, qS_ret, qS_retV, qS_throw, qS_inc, qS_cl, qS_ast, qS_aop, qS_fst, qS_fop, qS_sw, qT_eC, qT_eCB, qT_eL, qT_eLJ, qT_eLR, qT_eLB, qT_e1, qT_e2, qT_bCmp, qT_bCmpJ, qT_bAnd, qT_bOr, qT_bNot, qT_eBI, qT_eIf, qT_eLd, qT_eLdR, qT_eLen, qT_eF, qT_eFR, qT_aN, qT_aS, qT_eCl, qT_eClR, qT_eClB, qT_some, qT_x, z_nx_N, z_nx_B, z_nx_R, z_nx_X, z_bk_N, z_bk_B, z_bk_R, z_bk_X, oAdd, oSub, oMul, oNeg, cLt, cLe, cGt, cGe, cEq, cNe, Option.some.injEq, Sum.inl.injEq, Sum.inr.injEq, Prod.mk.injEq, exists_eq_left, exists_eq_left', exists_eq_right, exists_and_left, reduceCtorEq, and_true, true_and, and_false, false_and, List.getElem?_cons_zero, List.getElem?_cons_succ, List.set_cons_zero, List.set_cons_succ, List.replicate, List.length_cons, List.length_nil, List.cons_append, List.nil_append, Nat.reduceAdd, Nat.reduceSub, decide_eq_true_eq, decide_eq_false_iff_not, Bool.true_eq_false, Bool.false_eq_true, true_implies, false_implies, implies_true, Nat.reduceLT, exists_const, z_vB_inj, and_assoc, z_in_iff, oI2L, oL2I, Int.toNat_natCast, z_toNat0, Bool.not_eq_true', Bool.not_eq_false', ne_eq, Bool.not_true, Bool.not_false, Nat.add_zero, Int.add_zero, z_sl_s]
    · unfold m_X6_tree
      rw [k_v85]
      apply q_body
      have b6 : INF = 1000000 := rfl
      simp only [b_X6_tree, r0, rf_can1, z_vB1, z_vB0, if_true, if_false, not_true_eq_false, not_false_eq_true, k_t_n, k_t_1, exists_eq, k_v85, k_o85, k_r0, k_r1, k_r2, k_r3, k_r4, k_r5, k_r6, k_r7, k_r8, k_r9, k_r10, k_r11, k_r12, k_r13, k_r14, k_r15, k_r16, k_r17, k_r18, k_rl, k_sc, k_st, k_a86, k_s86, k_a87, k_s87, k_a88, k_s88, k_a89, k_s89, k_a90, k_s90, k_a91, k_s91, k_a92, k_s92, k_a93, k_s93, k_a94, k_s94, k_a95, k_s95, k_a96, k_s96, k_a97, k_s97, k_a98, k_s98, k_a99, k_s99, k_a100, k_s100, k_a101, k_s101, k_a102, k_s102, k_u_s, k_u_n, k_u_u, Nat.reduceEqDiff, not_false_eq_true, qS_nop, qS_seq, qS_set, qS_setJ, qS_if, qS_brk, qS_ret, qS_retV, qS_throw, qS_inc, qS_cl, qS_ast, qS_aop, qS_fst, qS_fop, qS_sw, qT_eC, qT_eCB, qT_eL, qT_eLJ, qT_eLR, qT_eLB, qT_e1, qT_e2, qT_bCmp, qT_bCmpJ, qT_bAnd, qT_bOr, qT_bNot, qT_eBI, qT_eIf, qT_eLd, qT_eLdR, qT_eLen, qT_eF, qT_eFR, qT_aN, qT_aS, qT_eCl, qT_eClR, qT_eClB, qT_some, qT_x, z_nx_N, z_nx_B, z_nx_R, z_nx_X, z_bk_N, z_bk_B, z_bk_R, z_bk_X, oAdd, oSub, oMul, oNeg, cLt, cLe, cGt, cGe, cEq, cNe, Option.some.injEq, Sum.inl.injEq, Sum.inr.injEq, Prod.mk.injEq, exists_eq_left, exists_eq_left', exists_eq_right, exists_and_left, reduceCtorEq, and_true, true_and, and_false, false_and, List.getElem?_cons_zero, List.getElem?_cons_succ, List.set_cons_zero, List.set_cons_succ, List.replicate, List.length_cons, List.length_nil, List.cons_append, List.nil_append, Nat.reduceAdd, Nat.reduceSub, decide_eq_true_eq, decide_eq_false_iff_not, Bool.true_eq_false, Bool.false_eq_true, true_implies, false_implies, implies_true, Nat.reduceLT, exists_const, z_vB_inj, and_assoc, z_in_iff, oI2L, oL2I, Int.toNat_natCast, z_toNat0, Bool.not_eq_true', Bool.not_eq_false', ne_eq, Bool.not_true, Bool.not_false, Nat.add_zero, Int.add_zero, z_sl_s]
  have c0 := s_nH1 (i := p) q0
  have r0 := rf_one1 (i := p) q0
  obtain ⟨i, rfl⟩ : ∃ i : Nat, p = i := ⟨p.toNat, by omega⟩
  have h_i : i < 4 := by omega
  obtain ⟨n, nb, n51, n89, nB, nE, nW, nN⟩ := I.mm h_i
  have r2 := k_2r h_i
  have d1 := s_isOfDistances (k_mat (S := S) h_i n51) nb.2 nB
  have t1 := s_isOfTree (k_mat (S := S) h_i n51) nb.2 nB
  have e89 : ∀ g, k_t (k_u S 103 g) 0 89 i = (n : Int) := fun g => by rw [k_t_n (by decide), k_u_n (by decide)]; exact n89
  have e90 : ∀ g, k_t (k_u S 103 g) 0 90 = S 90 := fun g => by rw [k_t_n (by decide), k_u_n (by decide)]
  have d2 := fun g => rf_areDistances (S := k_t (k_u S 103 g) 0) h_i nb (e89 g) (by rw [rM_u (e90 g)]; exact I.mb h_i)
  have t2 := fun g => rf_isTree (S := k_t (k_u S 103 g) 0) h_i nb (e89 g) (by rw [rM_u (e90 g)]; exact I.mb h_i)
  have dq : ∀ g, (∀ k, k < n * n → rDs (rM (k_t (k_u S 103 g) 0) i) n k) ↔ mNum (rM S i) n ∧ mDs (rM S i) n := fun g => by rw [rM_u (e90 g)]; exact rDs_all nb.1
  have dc : (mNum (kF S (53 + 9 * i) 5) n ∧ mDs (kF S (53 + 9 * i) 5) n) ↔ mNum (rM S i) n ∧ mDs (rM S i) n := by
    have h1 : mNum (kF S (53 + 9 * i) 5) n ↔ mNum (rM S i) n := ⟨fun q x y hx hy => by rw [← nE x y hx hy]; exact q x y hx hy, fun q x y hx hy => by rw [nE x y hx hy]; exact q x y hx hy⟩
    have h2 : mDs (kF S (53 + 9 * i) 5) n ↔ mDs (rM S i) n := ⟨fun q x y hx hy => by rw [← nE x y hx (by omega), ← nE y x (by omega) hx]; exact q x y hx hy, fun q x y hx hy => by rw [nE x y hx (by omega), nE y x (by omega) hx]; exact q x y hx hy⟩
    rw [h1, h2]
  rw [z_dec_c _ _ dc] at d1
  by_cases QD : mNum (rM S i) n ∧ mDs (rM S i) n
  rotate_left
  · rw [(z_dec_f _).mpr QD] at d1
    refine kOp.ok (r := vI 0) (S1 := S) (S2 := fun g => k_t (k_u S 103 g) 0) ?_ (fun g => ?_) (fun g => I.t g 0) (fun g => k_t_103) (fun g => k_t_1)
    · unfold m_X5_tree
      rw [k_v0]
      apply q_body
      have b6 : INF = 1000000 := rfl
      simp only [b_X5_tree, c0, k_o0, k_a2, r2, d1, z_vB1, z_vB0, if_true, if_false, not_true_eq_false, not_false_eq_true, k_t_n, k_t_1, exists_eq, qS_nop, qS_seq, qS_set, qS_setJ, qS_if, qS_brk, qS_ret, qS_retV, qS_throw, qS_inc, qS_cl, qS_ast, qS_aop, qS_fst, qS_fop, qS_sw, qT_eC, qT_eCB, qT_eL, qT_eLJ, qT_eLR, qT_eLB, qT_e1, qT_e2, qT_bCmp, qT_bCmpJ, qT_bAnd, qT_bOr, qT_bNot, qT_eBI, qT_eIf, qT_eLd, qT_eLdR, qT_eLen, qT_eF, qT_eFR, qT_aN, qT_aS, qT_eCl, qT_eClR, qT_eClB, qT_some, qT_x, z_nx_N, z_nx_B, z_nx_R, z_nx_X, z_bk_N, z_bk_B, z_bk_R, z_bk_X, oAdd, oSub, oMul, oNeg, cLt, cLe, cGt, cGe, cEq, cNe, Option.some.injEq, Sum.inl.injEq, Sum.inr.injEq, Prod.mk.injEq, exists_eq_left, exists_eq_left', exists_eq_right, exists_and_left, reduceCtorEq, and_true, true_and, and_false, false_and, List.getElem?_cons_zero, List.getElem?_cons_succ, List.set_cons_zero, List.set_cons_succ, List.replicate, List.length_cons, List.length_nil, List.cons_append, List.nil_append, Nat.reduceAdd, Nat.reduceSub, decide_eq_true_eq, decide_eq_false_iff_not, Bool.true_eq_false, Bool.false_eq_true, true_implies, false_implies, implies_true, Nat.reduceLT, exists_const, z_vB_inj, and_assoc, z_in_iff, oI2L, oL2I, Int.toNat_natCast, z_toNat0, Bool.not_eq_true', Bool.not_eq_false', ne_eq, Bool.not_true, Bool.not_false, Nat.add_zero, Int.add_zero, z_sl_s]
      omega
    · have d2 := d2 g
      rw [(z_dec_f _).mpr (fun w => QD ((dq g).mp w))] at d2
      unfold m_X6_tree
      rw [k_v85]
      apply q_body
      have b6 : INF = 1000000 := rfl
      simp only [b_X6_tree, r0, rf_can0, d2, z_vB1, z_vB0, if_true, if_false, not_true_eq_false, not_false_eq_true, k_t_n, k_t_1, exists_eq, qS_nop, qS_seq, qS_set, qS_setJ, qS_if, qS_brk, qS_ret, qS_retV, qS_throw, qS_inc, qS_cl, qS_ast, qS_aop, qS_fst, qS_fop, qS_sw, qT_eC, qT_eCB, qT_eL, qT_eLJ, qT_eLR, qT_eLB, qT_e1, qT_e2, qT_bCmp, qT_bCmpJ, qT_bAnd, qT_bOr, qT_bNot, qT_eBI, qT_eIf, qT_eLd, qT_eLdR, qT_eLen, qT_eF, qT_eFR, qT_aN, qT_aS, qT_eCl, qT_eClR, qT_eClB, qT_some, qT_x, z_nx_N, z_nx_B, z_nx_R, z_nx_X, z_bk_N, z_bk_B, z_bk_R, z_bk_X, oAdd, oSub, oMul, oNeg, cLt, cLe, cGt, cGe, cEq, cNe, Option.some.injEq, Sum.inl.injEq, Sum.inr.injEq, Prod.mk.injEq, exists_eq_left, exists_eq_left', exists_eq_right, exists_and_left, reduceCtorEq, and_true, true_and, and_false, false_and, List.getElem?_cons_zero, List.getElem?_cons_succ, List.set_cons_zero, List.set_cons_succ, List.replicate, List.length_cons, List.length_nil, List.cons_append, List.nil_append, Nat.reduceAdd, Nat.reduceSub, decide_eq_true_eq, decide_eq_false_iff_not, Bool.true_eq_false, Bool.false_eq_true, true_implies, false_implies, implies_true, Nat.reduceLT, exists_const, z_vB_inj, and_assoc, z_in_iff, oI2L, oL2I, Int.toNat_natCast, z_toNat0, Bool.not_eq_true', Bool.not_eq_false', ne_eq, Bool.not_true, Bool.not_false, Nat.add_zero, Int.add_zero, z_sl_s]
      try omega
  rw [(z_dec_iff _).mpr QD] at d1
  have hs : ∀ x y, x < n → y < n → rM S i x y = rM S i y x := fun x y hx hy => by
    by_cases c : y ≤ x
    · exact (QD.2 x y hx c).1
    · exact ((QD.2 y x hy (by omega)).1).symm
  have tq : ∀ g, (∀ c, c < n * n * n * n → rTc (rM (k_t (k_u S 103 g) 0) i) n c) ↔ mTr (rM S i) n := fun g => by
    rw [rM_u (e90 g), rTc_all nb.1]
    constructor
    · intro q a b c d h1 h2 h3 h4
      exact (rT4_c _ _ _ _ _).mpr (q a b c d (by omega) (by omega) (by omega) h4)
    · intro q
      exact rT4_all hs (fun a b c d h1 h2 h3 h4 => (rT4_c _ _ _ _ _).mp (q a b c d h1 h2 h3 h4))
  have tc : mTr (kF S (53 + 9 * i) 5) n ↔ mTr (rM S i) n := by
    have h4 : ∀ a b c d, a < n → b < n → c < n → d < n → (mT4 (kF S (53 + 9 * i) 5) a b c d ↔ mT4 (rM S i) a b c d) := fun a b c d h1 h2 h3 h4 => by
      unfold mT4
      rw [nE a b h1 h2, nE c d h3 h4, nE a c h1 h3, nE b d h2 h4, nE a d h1 h4, nE b c h2 h3]
    exact ⟨fun q a b c d h1 h2 h3 h5 => (h4 a b c d (by omega) (by omega) (by omega) h5).mp (q a b c d h1 h2 h3 h5), fun q a b c d h1 h2 h3 h5 => (h4 a b c d (by omega) (by omega) (by omega) h5).mpr (q a b c d h1 h2 h3 h5)⟩
  rw [z_dec_c _ _ tc] at t1
  by_cases QT : mTr (rM S i) n
  · rw [(z_dec_iff _).mpr QT] at t1
    refine kOp.ok (r := vI 2) (S1 := S) (S2 := fun g => k_t (k_u S 103 g) 0) ?_ (fun g => ?_) (fun g => I.t g 0) (fun g => k_t_103) (fun g => k_t_1)
    · unfold m_X5_tree
      rw [k_v0]
      apply q_body
      have b6 : INF = 1000000 := rfl
      simp only [b_X5_tree, c0, k_o0, k_a2, r2, d1, t1, z_vB1, z_vB0, if_true, if_false, not_true_eq_false, not_false_eq_true, k_t_n, k_t_1, exists_eq, qS_nop, qS_seq, qS_set, qS_setJ, qS_if, qS_brk, qS_ret, qS_retV, qS_throw, qS_inc, qS_cl, qS_ast, qS_aop, qS_fst, qS_fop, qS_sw, qT_eC, qT_eCB, qT_eL, qT_eLJ, qT_eLR, qT_eLB, qT_e1, qT_e2, qT_bCmp, qT_bCmpJ, qT_bAnd, qT_bOr, qT_bNot, qT_eBI, qT_eIf, qT_eLd, qT_eLdR, qT_eLen, qT_eF, qT_eFR, qT_aN, qT_aS, qT_eCl, qT_eClR, qT_eClB, qT_some, qT_x, z_nx_N, z_nx_B, z_nx_R, z_nx_X, z_bk_N, z_bk_B, z_bk_R, z_bk_X, oAdd, oSub, oMul, oNeg, cLt, cLe, cGt, cGe, cEq, cNe, Option.some.injEq, Sum.inl.injEq, Sum.inr.injEq, Prod.mk.injEq, exists_eq_left, exists_eq_left', exists_eq_right, exists_and_left, reduceCtorEq, and_true, true_and, and_false, false_and, List.getElem?_cons_zero, List.getElem?_cons_succ, List.set_cons_zero, List.set_cons_succ, List.replicate, List.length_cons, List.length_nil, List.cons_append, List.nil_append, Nat.reduceAdd, Nat.reduceSub, decide_eq_true_eq, decide_eq_false_iff_not, Bool.true_eq_false, Bool.false_eq_true, true_implies, false_implies, implies_true, Nat.reduceLT, exists_const, z_vB_inj, and_assoc, z_in_iff, oI2L, oL2I, Int.toNat_natCast, z_toNat0, Bool.not_eq_true', Bool.not_eq_false', ne_eq, Bool.not_true, Bool.not_false, Nat.add_zero, Int.add_zero, z_sl_s]
      omega
    · have d2 := d2 g
      have t2 := t2 g
      rw [(z_dec_iff _).mpr ((dq g).mpr QD)] at d2
      rw [(z_dec_iff _).mpr ((tq g).mpr QT)] at t2
      unfold m_X6_tree
      rw [k_v85]
      apply q_body
      have b6 : INF = 1000000 := rfl
      simp only [b_X6_tree, r0, rf_can0, d2, t2, z_vB1, z_vB0, if_true, if_false, not_true_eq_false, not_false_eq_true, k_t_n, k_t_1, exists_eq, qS_nop, qS_seq, qS_set, qS_setJ, qS_if, qS_brk, qS_ret, qS_retV, qS_throw, qS_inc, qS_cl, qS_ast, qS_aop, qS_fst, qS_fop, qS_sw, qT_eC, qT_eCB, qT_eL, qT_eLJ, qT_eLR, qT_eLB, qT_e1, qT_e2, qT_bCmp, qT_bCmpJ, qT_bAnd, qT_bOr, qT_bNot, qT_eBI, qT_eIf, qT_eLd, qT_eLdR, qT_eLen, qT_eF, qT_eFR, qT_aN, qT_aS, qT_eCl, qT_eClR, qT_eClB, qT_some, qT_x, z_nx_N, z_nx_B, z_nx_R, z_nx_X, z_bk_N, z_bk_B, z_bk_R, z_bk_X, oAdd, oSub, oMul, oNeg, cLt, cLe, cGt, cGe, cEq, cNe, Option.some.injEq, Sum.inl.injEq, Sum.inr.injEq, Prod.mk.injEq, exists_eq_left, exists_eq_left', exists_eq_right, exists_and_left, reduceCtorEq, and_true, true_and, and_false, false_and, List.getElem?_cons_zero, List.getElem?_cons_succ, List.set_cons_zero, List.set_cons_succ, List.replicate, List.length_cons, List.length_nil, List.cons_append, List.nil_append, Nat.reduceAdd, Nat.reduceSub, decide_eq_true_eq, decide_eq_false_iff_not, Bool.true_eq_false, Bool.false_eq_true, true_implies, false_implies, implies_true, Nat.reduceLT, exists_const, z_vB_inj, and_assoc, z_in_iff, oI2L, oL2I, Int.toNat_natCast, z_toNat0, Bool.not_eq_true', Bool.not_eq_false', ne_eq, Bool.not_true, Bool.not_false, Nat.add_zero, Int.add_zero, z_sl_s]
      try omega
  · rw [(z_dec_f _).mpr QT] at t1
    refine kOp.ok (r := vI 1) (S1 := S) (S2 := fun g => k_t (k_u S 103 g) 0) ?_ (fun g => ?_) (fun g => I.t g 0) (fun g => k_t_103) (fun g => k_t_1)
    · unfold m_X5_tree
      rw [k_v0]
      apply q_body
      have b6 : INF = 1000000 := rfl
      simp only [b_X5_tree, c0, k_o0, k_a2, r2, d1, t1, z_vB1, z_vB0, if_true, if_false, not_true_eq_false, not_false_eq_true, k_t_n, k_t_1, exists_eq, qS_nop, qS_seq, qS_set, qS_setJ, qS_if, qS_brk, qS_ret, qS_retV, qS_throw, qS_inc, qS_cl, qS_ast, qS_aop, qS_fst, qS_fop, qS_sw, qT_eC, qT_eCB, qT_eL, qT_eLJ, qT_eLR, qT_eLB, qT_e1, qT_e2, qT_bCmp, qT_bCmpJ, qT_bAnd, qT_bOr, qT_bNot, qT_eBI, qT_eIf, qT_eLd, qT_eLdR, qT_eLen, qT_eF, qT_eFR, qT_aN, qT_aS, qT_eCl, qT_eClR, qT_eClB, qT_some, qT_x, z_nx_N, z_nx_B, z_nx_R, z_nx_X, z_bk_N, z_bk_B, z_bk_R, z_bk_X, oAdd, oSub, oMul, oNeg, cLt, cLe, cGt, cGe, cEq, cNe, Option.some.injEq, Sum.inl.injEq, Sum.inr.injEq, Prod.mk.injEq, exists_eq_left, exists_eq_left', exists_eq_right, exists_and_left, reduceCtorEq, and_true, true_and, and_false, false_and, List.getElem?_cons_zero, List.getElem?_cons_succ, List.set_cons_zero, List.set_cons_succ, List.replicate, List.length_cons, List.length_nil, List.cons_append, List.nil_append, Nat.reduceAdd, Nat.reduceSub, decide_eq_true_eq, decide_eq_false_iff_not, Bool.true_eq_false, Bool.false_eq_true, true_implies, false_implies, implies_true, Nat.reduceLT, exists_const, z_vB_inj, and_assoc, z_in_iff, oI2L, oL2I, Int.toNat_natCast, z_toNat0, Bool.not_eq_true', Bool.not_eq_false', ne_eq, Bool.not_true, Bool.not_false, Nat.add_zero, Int.add_zero, z_sl_s]
      omega
    · have d2 := d2 g
      have t2 := t2 g
      rw [(z_dec_iff _).mpr ((dq g).mpr QD)] at d2
      rw [(z_dec_f _).mpr (fun w => QT ((tq g).mp w))] at t2
      unfold m_X6_tree
      rw [k_v85]
      apply q_body
      have b6 : INF = 1000000 := rfl
      simp only [b_X6_tree, r0, rf_can0, d2, t2, z_vB1, z_vB0, if_true, if_false, not_true_eq_false, not_false_eq_true, k_t_n, k_t_1, exists_eq, qS_nop, qS_seq, qS_set, qS_setJ, qS_if, qS_brk, qS_ret, qS_retV, qS_throw, qS_inc, qS_cl, qS_ast, qS_aop, qS_fst, qS_fop, qS_sw, qT_eC, qT_eCB, qT_eL, qT_eLJ, qT_eLR, qT_eLB, qT_e1, qT_e2, qT_bCmp, qT_bCmpJ, qT_bAnd, qT_bOr, qT_bNot, qT_eBI, qT_eIf, qT_eLd, qT_eLdR, qT_eLen, qT_eF, qT_eFR, qT_aN, qT_aS, qT_eCl, qT_eClR, qT_eClB, qT_some, qT_x, z_nx_N, z_nx_B, z_nx_R, z_nx_X, z_bk_N, z_bk_B, z_bk_R, z_bk_X, oAdd, oSub, oMul, oNeg, cLt, cLe, cGt, cGe, cEq, cNe, Option.some.injEq, Sum.inl.injEq, Sum.inr.injEq, Prod.mk.injEq, exists_eq_left, exists_eq_left', exists_eq_right, exists_and_left, reduceCtorEq, and_true, true_and, and_false, false_and, List.getElem?_cons_zero, List.getElem?_cons_succ, List.set_cons_zero, List.set_cons_succ, List.replicate, List.length_cons, List.length_nil, List.cons_append, List.nil_append, Nat.reduceAdd, Nat.reduceSub, decide_eq_true_eq, decide_eq_false_iff_not, Bool.true_eq_false, Bool.false_eq_true, true_implies, false_implies, implies_true, Nat.reduceLT, exists_const, z_vB_inj, and_assoc, z_in_iff, oI2L, oL2I, Int.toNat_natCast, z_toNat0, Bool.not_eq_true', Bool.not_eq_false', ne_eq, Bool.not_true, Bool.not_false, Nat.add_zero, Int.add_zero, z_sl_s]
      try omega
end FTo
