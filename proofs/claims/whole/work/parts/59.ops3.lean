/-! THE FACE: vectors, chips, edges -/
section FV
variable {S : Nat → Nat → Int}
theorem kInv.of3 {S S' : Nat → Nat → Int} (h : kInv S) (k3 : kI3 S') (e : ∀ a, ¬ kFree a → ¬ (4 ≤ a ∧ a ≤ 7) → a ≠ 94 → S' a = S a) : kInv S' :=
  ⟨h.1.eq (fun i hi => e _ (by unfold kFree; omega) (by omega) (by omega)) (e _ (by unfold kFree; omega) (by omega) (by omega)), h.2.1.eq (fun i hi => e _ (by unfold kFree; omega) (by omega) (by omega)) (fun i x hi hx => e _ (by unfold kFree; omega) (by omega) (by omega)) (e _ (by unfold kFree; omega) (by omega) (by omega)) (e _ (by unfold kFree; omega) (by omega) (by omega)), k3, h.2.2.2.1.eq (fun i hi => e _ (by unfold kFree; omega) (by omega) (by omega)) (e _ (by unfold kFree; omega) (by omega) (by omega)) (e _ (by unfold kFree; omega) (by omega) (by omega)) (e _ (by unfold kFree; omega) (by omega) (by omega)), h.2.2.2.2.eq (e _ (by unfold kFree; omega) (by omega) (by omega)) (e _ (by unfold kFree; omega) (by omega) (by omega)) (fun x hx => e _ (by unfold kFree; omega) (by omega) (by omega)) (fun x hx => e _ (by unfold kFree; omega) (by omega) (by omega))⟩
theorem kInv.of4 {S S' : Nat → Nat → Int} (h : kInv S) (k4 : kI4 S') (e : ∀ a, ¬ kFree a → ¬ (10 ≤ a ∧ a ≤ 15) → a ≠ 98 → a ≠ 99 → S' a = S a) : kInv S' :=
  ⟨h.1.eq (fun i hi => e _ (by unfold kFree; omega) (by omega) (by omega) (by omega)) (e _ (by unfold kFree; omega) (by omega) (by omega) (by omega)), h.2.1.eq (fun i hi => e _ (by unfold kFree; omega) (by omega) (by omega) (by omega)) (fun i x hi hx => e _ (by unfold kFree; omega) (by omega) (by omega) (by omega)) (e _ (by unfold kFree; omega) (by omega) (by omega) (by omega)) (e _ (by unfold kFree; omega) (by omega) (by omega) (by omega)), h.2.2.1.eq (fun i hi => e _ (by unfold kFree; omega) (by omega) (by omega) (by omega)) (e _ (by unfold kFree; omega) (by omega) (by omega) (by omega)), k4, h.2.2.2.2.eq (e _ (by unfold kFree; omega) (by omega) (by omega) (by omega)) (e _ (by unfold kFree; omega) (by omega) (by omega) (by omega)) (fun x hx => e _ (by unfold kFree; omega) (by omega) (by omega) (by omega)) (fun x hx => e _ (by unfold kFree; omega) (by omega) (by omega) (by omega))⟩
theorem k_vs {i : Nat} (hi : i < 4) (g : Nat → Int) : (k_W S).set (4 + i) (.inr (0, 5, g)) = k_W (k_u S (4 + i) g) := k_set (k_vC hi g).symm
theorem k_bC {i : Nat} (hi : i < 5) (f : Nat → Int) : k_C (10 + i) f = .inr (0, 5, f) := by
  rcases (by omega : i = 0 ∨ i = 1 ∨ i = 2 ∨ i = 3 ∨ i = 4) with rfl | rfl | rfl | rfl | rfl <;> rfl
theorem k_bc {i : Nat} (hi : i < 5) : (k_W S)[10 + i]? = some (.inr (0, 5, S (10 + i))) := (k_get (by omega)).trans (congrArg some (k_bC hi _))
theorem k_ba {i : Nat} (hi : i < 5) : z_arr (k_W S) (10 + i) 0 = some (5, S (10 + i)) := k_arr (by omega) (k_bC hi _) (by decide)
theorem k_bs {i : Nat} (hi : i < 5) (g : Nat → Int) : (k_W S).set (10 + i) (.inr (0, 5, g)) = k_W (k_u S (10 + i) g) := k_set (k_bC hi g).symm
theorem k_4r {i : Nat} (hi : i < 5) : (if i < 5 then ((10 + 1 * i : Nat) : Int) else -1) = ((10 + i : Nat) : Int) := by rw [if_pos hi, Nat.one_mul]
theorem op_part (I : kInv S) {p : Int} {k : Int} {n : Int} (hp : kR p) (hk : kR k) (hn : kR n) : kOp m_X5_part m_X6_part kIO kIA [vI p, vI k, vI n] S := by
  have b6 : INF = 1000000 := rfl
  by_cases q0 : 0 ≤ p ∧ p ≤ 3
  rotate_left
  · have c0 := s_nH0 hp q0
    have r0 := rf_one0 hp q0
    have rp := rf_part0 hp hk (by omega)
    refine kOp.x1 (r := vI 0) (S1 := S) (S2 := fun g => k_t (k_u S 103 g) 1) ?_ (fun g => ?_) (fun g => I.t g 1) (fun g => k_t_103) (fun g => k_t_1)
    · unfold m_X5_part
      rw [k_v0]
      apply q_body
      have b6 : INF = 1000000 := rfl
      simp only [b_X5_part, c0, qS_nop, qS_seq, qS_set, qS_setJ, qS_if, qS_brk, qS_ret, qS_retV, qS_throw, qS_inc, qS_cl, qS_ast, qS_aop, qS_fst, qS_fop, qS_sw, qT_eC, qT_eCB, qT_eL, qT_eLJ, qT_eLR, qT_eLB, qT_e1, qT_e2, qT_bCmp, qT_bCmpJ, qT_bAnd, qT_bOr, qT_bNot, qT_eBI, qT_eIf, qT_eLd, qT_eLdR, qT_eLen, qT_eF, qT_eFR, qT_aN, qT_aS, qT_eCl, qT_eClR, qT_eClB, qT_some, qT_x, z_nx_N, z_nx_B, z_nx_R, z_nx_X, z_bk_N, z_bk_B, z_bk_R, z_bk_X, oAdd, oSub, oMul, oNeg, cLt, cLe, cGt, cGe, cEq, cNe, Option.some.injEq, Sum.inl.injEq, Sum.inr.injEq, Prod.mk.injEq, exists_eq_left, exists_eq_left', exists_eq_right, exists_and_left, reduceCtorEq, and_true, true_and, and_false, false_and, List.getElem?_cons_zero, List.getElem?_cons_succ, List.set_cons_zero, List.set_cons_succ, List.replicate, List.length_cons, List.length_nil, List.cons_append, List.nil_append, Nat.reduceAdd, Nat.reduceSub, decide_eq_true_eq, decide_eq_false_iff_not, Bool.true_eq_false, Bool.false_eq_true, true_implies, false_implies, implies_true, Nat.reduceLT, exists_const, z_vB_inj, and_assoc, z_in_iff, oI2L, oL2I, Int.toNat_natCast, z_toNat0, Bool.not_eq_true', Bool.not_eq_false', ne_eq, Bool.not_true, Bool.not_false, Nat.add_zero, Int.add_zero, z_sl_s]
    · unfold m_X6_part
      rw [k_v85]
      apply q_body
      have b6 : INF = 1000000 := rfl
      simp only [b_X6_part, r0, rp, rf_can1, z_vB1, z_vB0, if_true, if_false, not_true_eq_false, not_false_eq_true, k_t_n, k_t_1, exists_eq, k_v85, k_o85, k_r0, k_r1, k_r2, k_r3, k_r4, k_r5, k_r6, k_r7, k_r8, k_r9, k_r10, k_r11, k_r12, k_r13, k_r14, k_r15, k_r16, k_r17, k_r18, k_rl, k_sc, k_st, k_a86, k_s86, k_a87, k_s87, k_a88, k_s88, k_a89, k_s89, k_a90, k_s90, k_a91, k_s91, k_a92, k_s92, k_a93, k_s93, k_a94, k_s94, k_a95, k_s95, k_a96, k_s96, k_a97, k_s97, k_a98, k_s98, k_a99, k_s99, k_a100, k_s100, k_a101, k_s101, k_a102, k_s102, k_u_s, k_u_n, k_u_u, Nat.reduceEqDiff, not_false_eq_true, qS_nop, qS_seq, qS_set, qS_setJ, qS_if, qS_brk, qS_ret, qS_retV, qS_throw, qS_inc, qS_cl, qS_ast, qS_aop, qS_fst, qS_fop, qS_sw, qT_eC, qT_eCB, qT_eL, qT_eLJ, qT_eLR, qT_eLB, qT_e1, qT_e2, qT_bCmp, qT_bCmpJ, qT_bAnd, qT_bOr, qT_bNot, qT_eBI, qT_eIf, qT_eLd, qT_eLdR, qT_eLen, qT_eF, qT_eFR, qT_aN, qT_aS, qT_eCl, qT_eClR, qT_eClB, qT_some, qT_x, z_nx_N, z_nx_B, z_nx_R, z_nx_X, z_bk_N, z_bk_B, z_bk_R, z_bk_X, oAdd, oSub, oMul, oNeg, cLt, cLe, cGt, cGe, cEq, cNe, Option.some.injEq, Sum.inl.injEq, Sum.inr.injEq, Prod.mk.injEq, exists_eq_left, exists_eq_left', exists_eq_right, exists_and_left, reduceCtorEq, and_true, true_and, and_false, false_and, List.getElem?_cons_zero, List.getElem?_cons_succ, List.set_cons_zero, List.set_cons_succ, List.replicate, List.length_cons, List.length_nil, List.cons_append, List.nil_append, Nat.reduceAdd, Nat.reduceSub, decide_eq_true_eq, decide_eq_false_iff_not, Bool.true_eq_false, Bool.false_eq_true, true_implies, false_implies, implies_true, Nat.reduceLT, exists_const, z_vB_inj, and_assoc, z_in_iff, oI2L, oL2I, Int.toNat_natCast, z_toNat0, Bool.not_eq_true', Bool.not_eq_false', ne_eq, Bool.not_true, Bool.not_false, Nat.add_zero, Int.add_zero, z_sl_s]
  by_cases q1 : 0 ≤ k ∧ k < 5
  rotate_left
  · have c0 := s_nH1 (i := p) q0
    have r0 := rf_one1 (i := p) q0
    have c1 := s_nI0 hk (c := 5) (by decide) q1
    have r1 := rf_in0 (n := k) (a := 0) (b := 4) hk (by decide) (by decide) (by omega)
    have rp := rf_part0 hp hk (by omega)
    refine kOp.x1 (r := vI 0) (S1 := S) (S2 := fun g => k_t (k_u S 103 g) 1) ?_ (fun g => ?_) (fun g => I.t g 1) (fun g => k_t_103) (fun g => k_t_1)
    · unfold m_X5_part
      rw [k_v0]
      apply q_body
      have b6 : INF = 1000000 := rfl
      simp only [b_X5_part, c0, c1, qS_nop, qS_seq, qS_set, qS_setJ, qS_if, qS_brk, qS_ret, qS_retV, qS_throw, qS_inc, qS_cl, qS_ast, qS_aop, qS_fst, qS_fop, qS_sw, qT_eC, qT_eCB, qT_eL, qT_eLJ, qT_eLR, qT_eLB, qT_e1, qT_e2, qT_bCmp, qT_bCmpJ, qT_bAnd, qT_bOr, qT_bNot, qT_eBI, qT_eIf, qT_eLd, qT_eLdR, qT_eLen, qT_eF, qT_eFR, qT_aN, qT_aS, qT_eCl, qT_eClR, qT_eClB, qT_some, qT_x, z_nx_N, z_nx_B, z_nx_R, z_nx_X, z_bk_N, z_bk_B, z_bk_R, z_bk_X, oAdd, oSub, oMul, oNeg, cLt, cLe, cGt, cGe, cEq, cNe, Option.some.injEq, Sum.inl.injEq, Sum.inr.injEq, Prod.mk.injEq, exists_eq_left, exists_eq_left', exists_eq_right, exists_and_left, reduceCtorEq, and_true, true_and, and_false, false_and, List.getElem?_cons_zero, List.getElem?_cons_succ, List.set_cons_zero, List.set_cons_succ, List.replicate, List.length_cons, List.length_nil, List.cons_append, List.nil_append, Nat.reduceAdd, Nat.reduceSub, decide_eq_true_eq, decide_eq_false_iff_not, Bool.true_eq_false, Bool.false_eq_true, true_implies, false_implies, implies_true, Nat.reduceLT, exists_const, z_vB_inj, and_assoc, z_in_iff, oI2L, oL2I, Int.toNat_natCast, z_toNat0, Bool.not_eq_true', Bool.not_eq_false', ne_eq, Bool.not_true, Bool.not_false, Nat.add_zero, Int.add_zero, z_sl_s]
    · unfold m_X6_part
      rw [k_v85]
      apply q_body
      have b6 : INF = 1000000 := rfl
      simp only [b_X6_part, r0, r1, rp, rf_can1, z_vB1, z_vB0, if_true, if_false, not_true_eq_false, not_false_eq_true, k_t_n, k_t_1, exists_eq, k_v85, k_o85, k_r0, k_r1, k_r2, k_r3, k_r4, k_r5, k_r6, k_r7, k_r8, k_r9, k_r10, k_r11, k_r12, k_r13, k_r14, k_r15, k_r16, k_r17, k_r18, k_rl, k_sc, k_st, k_a86, k_s86, k_a87, k_s87, k_a88, k_s88, k_a89, k_s89, k_a90, k_s90, k_a91, k_s91, k_a92, k_s92, k_a93, k_s93, k_a94, k_s94, k_a95, k_s95, k_a96, k_s96, k_a97, k_s97, k_a98, k_s98, k_a99, k_s99, k_a100, k_s100, k_a101, k_s101, k_a102, k_s102, k_u_s, k_u_n, k_u_u, Nat.reduceEqDiff, not_false_eq_true, qS_nop, qS_seq, qS_set, qS_setJ, qS_if, qS_brk, qS_ret, qS_retV, qS_throw, qS_inc, qS_cl, qS_ast, qS_aop, qS_fst, qS_fop, qS_sw, qT_eC, qT_eCB, qT_eL, qT_eLJ, qT_eLR, qT_eLB, qT_e1, qT_e2, qT_bCmp, qT_bCmpJ, qT_bAnd, qT_bOr, qT_bNot, qT_eBI, qT_eIf, qT_eLd, qT_eLdR, qT_eLen, qT_eF, qT_eFR, qT_aN, qT_aS, qT_eCl, qT_eClR, qT_eClB, qT_some, qT_x, z_nx_N, z_nx_B, z_nx_R, z_nx_X, z_bk_N, z_bk_B, z_bk_R, z_bk_X, oAdd, oSub, oMul, oNeg, cLt, cLe, cGt, cGe, cEq, cNe, Option.some.injEq, Sum.inl.injEq, Sum.inr.injEq, Prod.mk.injEq, exists_eq_left, exists_eq_left', exists_eq_right, exists_and_left, reduceCtorEq, and_true, true_and, and_false, false_and, List.getElem?_cons_zero, List.getElem?_cons_succ, List.set_cons_zero, List.set_cons_succ, List.replicate, List.length_cons, List.length_nil, List.cons_append, List.nil_append, Nat.reduceAdd, Nat.reduceSub, decide_eq_true_eq, decide_eq_false_iff_not, Bool.true_eq_false, Bool.false_eq_true, true_implies, false_implies, implies_true, Nat.reduceLT, exists_const, z_vB_inj, and_assoc, z_in_iff, oI2L, oL2I, Int.toNat_natCast, z_toNat0, Bool.not_eq_true', Bool.not_eq_false', ne_eq, Bool.not_true, Bool.not_false, Nat.add_zero, Int.add_zero, z_sl_s]
  by_cases q2 : (-999 ≤ n ∧ n ≤ 999) ∨ n = INF
  rotate_left
  · have c0 := s_nH1 (i := p) q0
    have r0 := rf_one1 (i := p) q0
    have c1 := s_nI1 (i := k) (c := 5) (by decide) q1
    have r1 := rf_in1 (n := k) (a := 0) (b := 4) (by decide) (by decide) (by omega)
    have c2 := s_nG0 hn q2
    have r2 := rf_num0 hn q2
    have rp := rf_part1 (v := p) (k := k) (by omega)
    refine kOp.x2 (r := vI 0) (S1 := S) (S2 := fun g => k_t (k_u S 103 g) 2) ?_ (fun g => ?_) (fun g => I.t g 2) (fun g => k_t_103) (fun g => k_t_1)
    · unfold m_X5_part
      rw [k_v0]
      apply q_body
      have b6 : INF = 1000000 := rfl
      simp only [b_X5_part, c0, c1, c2, qS_nop, qS_seq, qS_set, qS_setJ, qS_if, qS_brk, qS_ret, qS_retV, qS_throw, qS_inc, qS_cl, qS_ast, qS_aop, qS_fst, qS_fop, qS_sw, qT_eC, qT_eCB, qT_eL, qT_eLJ, qT_eLR, qT_eLB, qT_e1, qT_e2, qT_bCmp, qT_bCmpJ, qT_bAnd, qT_bOr, qT_bNot, qT_eBI, qT_eIf, qT_eLd, qT_eLdR, qT_eLen, qT_eF, qT_eFR, qT_aN, qT_aS, qT_eCl, qT_eClR, qT_eClB, qT_some, qT_x, z_nx_N, z_nx_B, z_nx_R, z_nx_X, z_bk_N, z_bk_B, z_bk_R, z_bk_X, oAdd, oSub, oMul, oNeg, cLt, cLe, cGt, cGe, cEq, cNe, Option.some.injEq, Sum.inl.injEq, Sum.inr.injEq, Prod.mk.injEq, exists_eq_left, exists_eq_left', exists_eq_right, exists_and_left, reduceCtorEq, and_true, true_and, and_false, false_and, List.getElem?_cons_zero, List.getElem?_cons_succ, List.set_cons_zero, List.set_cons_succ, List.replicate, List.length_cons, List.length_nil, List.cons_append, List.nil_append, Nat.reduceAdd, Nat.reduceSub, decide_eq_true_eq, decide_eq_false_iff_not, Bool.true_eq_false, Bool.false_eq_true, true_implies, false_implies, implies_true, Nat.reduceLT, exists_const, z_vB_inj, and_assoc, z_in_iff, oI2L, oL2I, Int.toNat_natCast, z_toNat0, Bool.not_eq_true', Bool.not_eq_false', ne_eq, Bool.not_true, Bool.not_false, Nat.add_zero, Int.add_zero, z_sl_s]
    · unfold m_X6_part
      rw [k_v85]
      apply q_body
      have b6 : INF = 1000000 := rfl
      simp only [b_X6_part, r0, r1, r2, rp, rf_can2, z_vB1, z_vB0, if_true, if_false, not_true_eq_false, not_false_eq_true, k_t_n, k_t_1, exists_eq, k_v85, k_o85, k_r0, k_r1, k_r2, k_r3, k_r4, k_r5, k_r6, k_r7, k_r8, k_r9, k_r10, k_r11, k_r12, k_r13, k_r14, k_r15, k_r16, k_r17, k_r18, k_rl, k_sc, k_st, k_a86, k_s86, k_a87, k_s87, k_a88, k_s88, k_a89, k_s89, k_a90, k_s90, k_a91, k_s91, k_a92, k_s92, k_a93, k_s93, k_a94, k_s94, k_a95, k_s95, k_a96, k_s96, k_a97, k_s97, k_a98, k_s98, k_a99, k_s99, k_a100, k_s100, k_a101, k_s101, k_a102, k_s102, k_u_s, k_u_n, k_u_u, Nat.reduceEqDiff, not_false_eq_true, qS_nop, qS_seq, qS_set, qS_setJ, qS_if, qS_brk, qS_ret, qS_retV, qS_throw, qS_inc, qS_cl, qS_ast, qS_aop, qS_fst, qS_fop, qS_sw, qT_eC, qT_eCB, qT_eL, qT_eLJ, qT_eLR, qT_eLB, qT_e1, qT_e2, qT_bCmp, qT_bCmpJ, qT_bAnd, qT_bOr, qT_bNot, qT_eBI, qT_eIf, qT_eLd, qT_eLdR, qT_eLen, qT_eF, qT_eFR, qT_aN, qT_aS, qT_eCl, qT_eClR, qT_eClB, qT_some, qT_x, z_nx_N, z_nx_B, z_nx_R, z_nx_X, z_bk_N, z_bk_B, z_bk_R, z_bk_X, oAdd, oSub, oMul, oNeg, cLt, cLe, cGt, cGe, cEq, cNe, Option.some.injEq, Sum.inl.injEq, Sum.inr.injEq, Prod.mk.injEq, exists_eq_left, exists_eq_left', exists_eq_right, exists_and_left, reduceCtorEq, and_true, true_and, and_false, false_and, List.getElem?_cons_zero, List.getElem?_cons_succ, List.set_cons_zero, List.set_cons_succ, List.replicate, List.length_cons, List.length_nil, List.cons_append, List.nil_append, Nat.reduceAdd, Nat.reduceSub, decide_eq_true_eq, decide_eq_false_iff_not, Bool.true_eq_false, Bool.false_eq_true, true_implies, false_implies, implies_true, Nat.reduceLT, exists_const, z_vB_inj, and_assoc, z_in_iff, oI2L, oL2I, Int.toNat_natCast, z_toNat0, Bool.not_eq_true', Bool.not_eq_false', ne_eq, Bool.not_true, Bool.not_false, Nat.add_zero, Int.add_zero, z_sl_s]
  have c0 := s_nH1 (i := p) q0
  have r0 := rf_one1 (i := p) q0
  have c1 := s_nI1 (i := k) (c := 5) (by decide) q1
  have r1 := rf_in1 (n := k) (a := 0) (b := 4) (by decide) (by decide) (by omega)
  have c2 := s_nG1 (n := n) q2
  have r2 := rf_num1 (n := n) q2
  obtain ⟨i, rfl⟩ : ∃ i : Nat, p = i := ⟨p.toNat, by omega⟩
  have h_i : i < 4 := by omega
  obtain ⟨j, rfl⟩ : ∃ j : Nat, k = j := ⟨k.toNat, by omega⟩
  have h_j : j < 5 := by omega
  have rp := rf_part1 (v := (i : Int)) (k := (j : Int)) (by omega)
  have a3 := k_3r h_i
  refine kOp.ok (r := vI (S (4 + i) j)) (S1 := k_u S (4 + i) (z_up (S (4 + i)) j n)) (S2 := fun g => k_u (k_t (k_u (k_u S (4 + i) (z_up (S (4 + i)) j n)) 103 g) 0) 94 (z_up (S 94) (5 * i + j) n)) ?_ (fun g => ?_) (fun g => ?_) (fun g => ?_) (fun g => ?_)
  · unfold m_X5_part
    rw [k_v0]
    apply q_body
    have b6 : INF = 1000000 := rfl
    simp only [b_X5_part, c0, c1, c2, k_o0, k_a3, a3, q_arr (k_vc (S := S) h_i) (by decide : 5 < 2147483648), k_vs h_i, qS_nop, qS_seq, qS_set, qS_setJ, qS_if, qS_brk, qS_ret, qS_retV, qS_throw, qS_inc, qS_cl, qS_ast, qS_aop, qS_fst, qS_fop, qS_sw, qT_eC, qT_eCB, qT_eL, qT_eLJ, qT_eLR, qT_eLB, qT_e1, qT_e2, qT_bCmp, qT_bCmpJ, qT_bAnd, qT_bOr, qT_bNot, qT_eBI, qT_eIf, qT_eLd, qT_eLdR, qT_eLen, qT_eF, qT_eFR, qT_aN, qT_aS, qT_eCl, qT_eClR, qT_eClB, qT_some, qT_x, z_nx_N, z_nx_B, z_nx_R, z_nx_X, z_bk_N, z_bk_B, z_bk_R, z_bk_X, oAdd, oSub, oMul, oNeg, cLt, cLe, cGt, cGe, cEq, cNe, Option.some.injEq, Sum.inl.injEq, Sum.inr.injEq, Prod.mk.injEq, exists_eq_left, exists_eq_left', exists_eq_right, exists_and_left, reduceCtorEq, and_true, true_and, and_false, false_and, List.getElem?_cons_zero, List.getElem?_cons_succ, List.set_cons_zero, List.set_cons_succ, List.replicate, List.length_cons, List.length_nil, List.cons_append, List.nil_append, Nat.reduceAdd, Nat.reduceSub, decide_eq_true_eq, decide_eq_false_iff_not, Bool.true_eq_false, Bool.false_eq_true, true_implies, false_implies, implies_true, Nat.reduceLT, exists_const, z_vB_inj, and_assoc, z_in_iff, oI2L, oL2I, Int.toNat_natCast, z_toNat0, Bool.not_eq_true', Bool.not_eq_false', ne_eq, Bool.not_true, Bool.not_false, Nat.add_zero, Int.add_zero, z_sl_s]
    omega
  · have s94 : k_u S (4 + i) (z_up (S (4 + i)) j n) 94 = S 94 := k_u_n (by omega)
    have er : S 94 (5 * i + j) = S (4 + i) j := (I.2.2.1 i h_i j h_j).1
    have t : (5 * (i : Int) + (j : Int)).toNat = 5 * i + j := by omega
    unfold m_X6_part
    rw [k_v85]
    apply q_body
    have b6 : INF = 1000000 := rfl
    simp only [b_X6_part, r0, r1, r2, rp, rf_can0, t, s94, er, z_vB1, z_vB0, if_true, if_false, not_true_eq_false, not_false_eq_true, k_t_n, k_t_1, exists_eq, k_v85, k_o85, k_r0, k_r1, k_r2, k_r3, k_r4, k_r5, k_r6, k_r7, k_r8, k_r9, k_r10, k_r11, k_r12, k_r13, k_r14, k_r15, k_r16, k_r17, k_r18, k_rl, k_sc, k_st, k_a86, k_s86, k_a87, k_s87, k_a88, k_s88, k_a89, k_s89, k_a90, k_s90, k_a91, k_s91, k_a92, k_s92, k_a93, k_s93, k_a94, k_s94, k_a95, k_s95, k_a96, k_s96, k_a97, k_s97, k_a98, k_s98, k_a99, k_s99, k_a100, k_s100, k_a101, k_s101, k_a102, k_s102, k_u_s, k_u_n, k_u_u, Nat.reduceEqDiff, not_false_eq_true, qS_nop, qS_seq, qS_set, qS_setJ, qS_if, qS_brk, qS_ret, qS_retV, qS_throw, qS_inc, qS_cl, qS_ast, qS_aop, qS_fst, qS_fop, qS_sw, qT_eC, qT_eCB, qT_eL, qT_eLJ, qT_eLR, qT_eLB, qT_e1, qT_e2, qT_bCmp, qT_bCmpJ, qT_bAnd, qT_bOr, qT_bNot, qT_eBI, qT_eIf, qT_eLd, qT_eLdR, qT_eLen, qT_eF, qT_eFR, qT_aN, qT_aS, qT_eCl, qT_eClR, qT_eClB, qT_some, qT_x, z_nx_N, z_nx_B, z_nx_R, z_nx_X, z_bk_N, z_bk_B, z_bk_R, z_bk_X, oAdd, oSub, oMul, oNeg, cLt, cLe, cGt, cGe, cEq, cNe, Option.some.injEq, Sum.inl.injEq, Sum.inr.injEq, Prod.mk.injEq, exists_eq_left, exists_eq_left', exists_eq_right, exists_and_left, reduceCtorEq, and_true, true_and, and_false, false_and, List.getElem?_cons_zero, List.getElem?_cons_succ, List.set_cons_zero, List.set_cons_succ, List.replicate, List.length_cons, List.length_nil, List.cons_append, List.nil_append, Nat.reduceAdd, Nat.reduceSub, decide_eq_true_eq, decide_eq_false_iff_not, Bool.true_eq_false, Bool.false_eq_true, true_implies, false_implies, implies_true, Nat.reduceLT, exists_const, z_vB_inj, and_assoc, z_in_iff, oI2L, oL2I, Int.toNat_natCast, z_toNat0, Bool.not_eq_true', Bool.not_eq_false', ne_eq, Bool.not_true, Bool.not_false, Nat.add_zero, Int.add_zero, z_sl_s]
    omega
  · refine I.of3 (fun x hx y hy => ?_) (fun a ha h1 h2 => ?_)
    · have e := I.2.2.1 x hx y hy
      have z1 : rV (k_u (k_t (k_u (k_u S (4 + i) (z_up (S (4 + i)) j n)) 103 g) 0) 94 (z_up (S 94) (5 * i + j) n)) x y = z_up (S 94) (5 * i + j) n (5 * x + y) := by unfold rV; rw [k_u_s]
      have z2 : k_u (k_t (k_u (k_u S (4 + i) (z_up (S (4 + i)) j n)) 103 g) 0) 94 (z_up (S 94) (5 * i + j) n) (4 + x) y = k_u S (4 + i) (z_up (S (4 + i)) j n) (4 + x) y := by rw [k_u_n (by omega), k_t_n (by omega), k_u_n (by omega)]
      rw [z1, z2]
      unfold z_up k_u
      by_cases c : x = i ∧ y = j
      · rw [if_pos (by omega), if_pos (by omega), if_pos c.2]
        exact ⟨rfl, by omega⟩
      · rw [if_neg (by omega)]
        refine ⟨?_, e.2⟩
        by_cases d : x = i
        · rw [if_pos (by omega), if_neg (by omega)]
          subst d
          exact e.1
        · rw [if_neg (by omega)]
          exact e.1
    · rw [k_u_n h2, k_t_n (fun e => ha (by subst e; unfold kFree; omega)), k_u_n (fun e => ha (by subst e; unfold kFree; omega)), k_u_n (by omega)]
  · rw [k_u_n (by decide), k_t_103]
  · rw [k_u_n (by decide), k_t_1]
theorem op_partAt (I : kInv S) {p : Int} {k : Int} (hp : kR p) (hk : kR k) : kOp m_X5_partAt m_X6_partAt kIO "" [vI p, vI k] S := by
  have b6 : INF = 1000000 := rfl
  by_cases q0 : 0 ≤ p ∧ p ≤ 3
  rotate_left
  · have c0 := s_nH0 hp q0
    have r0 := rf_one0 hp q0
    have rp := rf_part0 hp hk (by omega)
    refine kOp.x1 (r := vI 0) (S1 := S) (S2 := fun g => k_t (k_u S 103 g) 1) ?_ (fun g => ?_) (fun g => I.t g 1) (fun g => k_t_103) (fun g => k_t_1)
    · unfold m_X5_partAt
      rw [k_v0]
      apply q_body
      have b6 : INF = 1000000 := rfl
      simp only [b_X5_partAt, c0, qS_nop, qS_seq, qS_set, qS_setJ, qS_if, qS_brk, qS_ret, qS_retV, qS_throw, qS_inc, qS_cl, qS_ast, qS_aop, qS_fst, qS_fop, qS_sw, qT_eC, qT_eCB, qT_eL, qT_eLJ, qT_eLR, qT_eLB, qT_e1, qT_e2, qT_bCmp, qT_bCmpJ, qT_bAnd, qT_bOr, qT_bNot, qT_eBI, qT_eIf, qT_eLd, qT_eLdR, qT_eLen, qT_eF, qT_eFR, qT_aN, qT_aS, qT_eCl, qT_eClR, qT_eClB, qT_some, qT_x, z_nx_N, z_nx_B, z_nx_R, z_nx_X, z_bk_N, z_bk_B, z_bk_R, z_bk_X, oAdd, oSub, oMul, oNeg, cLt, cLe, cGt, cGe, cEq, cNe, Option.some.injEq, Sum.inl.injEq, Sum.inr.injEq, Prod.mk.injEq, exists_eq_left, exists_eq_left', exists_eq_right, exists_and_left, reduceCtorEq, and_true, true_and, and_false, false_and, List.getElem?_cons_zero, List.getElem?_cons_succ, List.set_cons_zero, List.set_cons_succ, List.replicate, List.length_cons, List.length_nil, List.cons_append, List.nil_append, Nat.reduceAdd, Nat.reduceSub, decide_eq_true_eq, decide_eq_false_iff_not, Bool.true_eq_false, Bool.false_eq_true, true_implies, false_implies, implies_true, Nat.reduceLT, exists_const, z_vB_inj, and_assoc, z_in_iff, oI2L, oL2I, Int.toNat_natCast, z_toNat0, Bool.not_eq_true', Bool.not_eq_false', ne_eq, Bool.not_true, Bool.not_false, Nat.add_zero, Int.add_zero, z_sl_s]
    · unfold m_X6_partAt
      rw [k_v85]
      apply q_body
      have b6 : INF = 1000000 := rfl
      simp only [b_X6_partAt, r0, rp, rf_can1, z_vB1, z_vB0, if_true, if_false, not_true_eq_false, not_false_eq_true, k_t_n, k_t_1, exists_eq, k_v85, k_o85, k_r0, k_r1, k_r2, k_r3, k_r4, k_r5, k_r6, k_r7, k_r8, k_r9, k_r10, k_r11, k_r12, k_r13, k_r14, k_r15, k_r16, k_r17, k_r18, k_rl, k_sc, k_st, k_a86, k_s86, k_a87, k_s87, k_a88, k_s88, k_a89, k_s89, k_a90, k_s90, k_a91, k_s91, k_a92, k_s92, k_a93, k_s93, k_a94, k_s94, k_a95, k_s95, k_a96, k_s96, k_a97, k_s97, k_a98, k_s98, k_a99, k_s99, k_a100, k_s100, k_a101, k_s101, k_a102, k_s102, k_u_s, k_u_n, k_u_u, Nat.reduceEqDiff, not_false_eq_true, qS_nop, qS_seq, qS_set, qS_setJ, qS_if, qS_brk, qS_ret, qS_retV, qS_throw, qS_inc, qS_cl, qS_ast, qS_aop, qS_fst, qS_fop, qS_sw, qT_eC, qT_eCB, qT_eL, qT_eLJ, qT_eLR, qT_eLB, qT_e1, qT_e2, qT_bCmp, qT_bCmpJ, qT_bAnd, qT_bOr, qT_bNot, qT_eBI, qT_eIf, qT_eLd, qT_eLdR, qT_eLen, qT_eF, qT_eFR, qT_aN, qT_aS, qT_eCl, qT_eClR, qT_eClB, qT_some, qT_x, z_nx_N, z_nx_B, z_nx_R, z_nx_X, z_bk_N, z_bk_B, z_bk_R, z_bk_X, oAdd, oSub, oMul, oNeg, cLt, cLe, cGt, cGe, cEq, cNe, Option.some.injEq, Sum.inl.injEq, Sum.inr.injEq, Prod.mk.injEq, exists_eq_left, exists_eq_left', exists_eq_right, exists_and_left, reduceCtorEq, and_true, true_and, and_false, false_and, List.getElem?_cons_zero, List.getElem?_cons_succ, List.set_cons_zero, List.set_cons_succ, List.replicate, List.length_cons, List.length_nil, List.cons_append, List.nil_append, Nat.reduceAdd, Nat.reduceSub, decide_eq_true_eq, decide_eq_false_iff_not, Bool.true_eq_false, Bool.false_eq_true, true_implies, false_implies, implies_true, Nat.reduceLT, exists_const, z_vB_inj, and_assoc, z_in_iff, oI2L, oL2I, Int.toNat_natCast, z_toNat0, Bool.not_eq_true', Bool.not_eq_false', ne_eq, Bool.not_true, Bool.not_false, Nat.add_zero, Int.add_zero, z_sl_s]
  by_cases q1 : 0 ≤ k ∧ k < 5
  rotate_left
  · have c0 := s_nH1 (i := p) q0
    have r0 := rf_one1 (i := p) q0
    have c1 := s_nI0 hk (c := 5) (by decide) q1
    have r1 := rf_in0 (n := k) (a := 0) (b := 4) hk (by decide) (by decide) (by omega)
    have rp := rf_part0 hp hk (by omega)
    refine kOp.x1 (r := vI 0) (S1 := S) (S2 := fun g => k_t (k_u S 103 g) 1) ?_ (fun g => ?_) (fun g => I.t g 1) (fun g => k_t_103) (fun g => k_t_1)
    · unfold m_X5_partAt
      rw [k_v0]
      apply q_body
      have b6 : INF = 1000000 := rfl
      simp only [b_X5_partAt, c0, c1, qS_nop, qS_seq, qS_set, qS_setJ, qS_if, qS_brk, qS_ret, qS_retV, qS_throw, qS_inc, qS_cl, qS_ast, qS_aop, qS_fst, qS_fop, qS_sw, qT_eC, qT_eCB, qT_eL, qT_eLJ, qT_eLR, qT_eLB, qT_e1, qT_e2, qT_bCmp, qT_bCmpJ, qT_bAnd, qT_bOr, qT_bNot, qT_eBI, qT_eIf, qT_eLd, qT_eLdR, qT_eLen, qT_eF, qT_eFR, qT_aN, qT_aS, qT_eCl, qT_eClR, qT_eClB, qT_some, qT_x, z_nx_N, z_nx_B, z_nx_R, z_nx_X, z_bk_N, z_bk_B, z_bk_R, z_bk_X, oAdd, oSub, oMul, oNeg, cLt, cLe, cGt, cGe, cEq, cNe, Option.some.injEq, Sum.inl.injEq, Sum.inr.injEq, Prod.mk.injEq, exists_eq_left, exists_eq_left', exists_eq_right, exists_and_left, reduceCtorEq, and_true, true_and, and_false, false_and, List.getElem?_cons_zero, List.getElem?_cons_succ, List.set_cons_zero, List.set_cons_succ, List.replicate, List.length_cons, List.length_nil, List.cons_append, List.nil_append, Nat.reduceAdd, Nat.reduceSub, decide_eq_true_eq, decide_eq_false_iff_not, Bool.true_eq_false, Bool.false_eq_true, true_implies, false_implies, implies_true, Nat.reduceLT, exists_const, z_vB_inj, and_assoc, z_in_iff, oI2L, oL2I, Int.toNat_natCast, z_toNat0, Bool.not_eq_true', Bool.not_eq_false', ne_eq, Bool.not_true, Bool.not_false, Nat.add_zero, Int.add_zero, z_sl_s]
    · unfold m_X6_partAt
      rw [k_v85]
      apply q_body
      have b6 : INF = 1000000 := rfl
      simp only [b_X6_partAt, r0, r1, rp, rf_can1, z_vB1, z_vB0, if_true, if_false, not_true_eq_false, not_false_eq_true, k_t_n, k_t_1, exists_eq, k_v85, k_o85, k_r0, k_r1, k_r2, k_r3, k_r4, k_r5, k_r6, k_r7, k_r8, k_r9, k_r10, k_r11, k_r12, k_r13, k_r14, k_r15, k_r16, k_r17, k_r18, k_rl, k_sc, k_st, k_a86, k_s86, k_a87, k_s87, k_a88, k_s88, k_a89, k_s89, k_a90, k_s90, k_a91, k_s91, k_a92, k_s92, k_a93, k_s93, k_a94, k_s94, k_a95, k_s95, k_a96, k_s96, k_a97, k_s97, k_a98, k_s98, k_a99, k_s99, k_a100, k_s100, k_a101, k_s101, k_a102, k_s102, k_u_s, k_u_n, k_u_u, Nat.reduceEqDiff, not_false_eq_true, qS_nop, qS_seq, qS_set, qS_setJ, qS_if, qS_brk, qS_ret, qS_retV, qS_throw, qS_inc, qS_cl, qS_ast, qS_aop, qS_fst, qS_fop, qS_sw, qT_eC, qT_eCB, qT_eL, qT_eLJ, qT_eLR, qT_eLB, qT_e1, qT_e2, qT_bCmp, qT_bCmpJ, qT_bAnd, qT_bOr, qT_bNot, qT_eBI, qT_eIf, qT_eLd, qT_eLdR, qT_eLen, qT_eF, qT_eFR, qT_aN, qT_aS, qT_eCl, qT_eClR, qT_eClB, qT_some, qT_x, z_nx_N, z_nx_B, z_nx_R, z_nx_X, z_bk_N, z_bk_B, z_bk_R, z_bk_X, oAdd, oSub, oMul, oNeg, cLt, cLe, cGt, cGe, cEq, cNe, Option.some.injEq, Sum.inl.injEq, Sum.inr.injEq, Prod.mk.injEq, exists_eq_left, exists_eq_left', exists_eq_right, exists_and_left, reduceCtorEq, and_true, true_and, and_false, false_and, List.getElem?_cons_zero, List.getElem?_cons_succ, List.set_cons_zero, List.set_cons_succ, List.replicate, List.length_cons, List.length_nil, List.cons_append, List.nil_append, Nat.reduceAdd, Nat.reduceSub, decide_eq_true_eq, decide_eq_false_iff_not, Bool.true_eq_false, Bool.false_eq_true, true_implies, false_implies, implies_true, Nat.reduceLT, exists_const, z_vB_inj, and_assoc, z_in_iff, oI2L, oL2I, Int.toNat_natCast, z_toNat0, Bool.not_eq_true', Bool.not_eq_false', ne_eq, Bool.not_true, Bool.not_false, Nat.add_zero, Int.add_zero, z_sl_s]
  have c0 := s_nH1 (i := p) q0
  have r0 := rf_one1 (i := p) q0
  have c1 := s_nI1 (i := k) (c := 5) (by decide) q1
  have r1 := rf_in1 (n := k) (a := 0) (b := 4) (by decide) (by decide) (by omega)
  obtain ⟨i, rfl⟩ : ∃ i : Nat, p = i := ⟨p.toNat, by omega⟩
  have h_i : i < 4 := by omega
  obtain ⟨j, rfl⟩ : ∃ j : Nat, k = j := ⟨k.toNat, by omega⟩
  have h_j : j < 5 := by omega
  have rp := rf_part1 (v := (i : Int)) (k := (j : Int)) (by omega)
  have a3 := k_3r h_i
  refine kOp.ok (r := vI (S (4 + i) j)) (S1 := S) (S2 := fun g => k_t (k_u S 103 g) 0) ?_ (fun g => ?_) (fun g => I.t g 0) (fun g => k_t_103) (fun g => k_t_1)
  · unfold m_X5_partAt
    rw [k_v0]
    apply q_body
    have b6 : INF = 1000000 := rfl
    simp only [b_X5_partAt, c0, c1, k_o0, k_a3, a3, q_arr (k_vc (S := S) h_i) (by decide : 5 < 2147483648), qS_nop, qS_seq, qS_set, qS_setJ, qS_if, qS_brk, qS_ret, qS_retV, qS_throw, qS_inc, qS_cl, qS_ast, qS_aop, qS_fst, qS_fop, qS_sw, qT_eC, qT_eCB, qT_eL, qT_eLJ, qT_eLR, qT_eLB, qT_e1, qT_e2, qT_bCmp, qT_bCmpJ, qT_bAnd, qT_bOr, qT_bNot, qT_eBI, qT_eIf, qT_eLd, qT_eLdR, qT_eLen, qT_eF, qT_eFR, qT_aN, qT_aS, qT_eCl, qT_eClR, qT_eClB, qT_some, qT_x, z_nx_N, z_nx_B, z_nx_R, z_nx_X, z_bk_N, z_bk_B, z_bk_R, z_bk_X, oAdd, oSub, oMul, oNeg, cLt, cLe, cGt, cGe, cEq, cNe, Option.some.injEq, Sum.inl.injEq, Sum.inr.injEq, Prod.mk.injEq, exists_eq_left, exists_eq_left', exists_eq_right, exists_and_left, reduceCtorEq, and_true, true_and, and_false, false_and, List.getElem?_cons_zero, List.getElem?_cons_succ, List.set_cons_zero, List.set_cons_succ, List.replicate, List.length_cons, List.length_nil, List.cons_append, List.nil_append, Nat.reduceAdd, Nat.reduceSub, decide_eq_true_eq, decide_eq_false_iff_not, Bool.true_eq_false, Bool.false_eq_true, true_implies, false_implies, implies_true, Nat.reduceLT, exists_const, z_vB_inj, and_assoc, z_in_iff, oI2L, oL2I, Int.toNat_natCast, z_toNat0, Bool.not_eq_true', Bool.not_eq_false', ne_eq, Bool.not_true, Bool.not_false, Nat.add_zero, Int.add_zero, z_sl_s]
    omega
  · have er : S 94 (5 * i + j) = S (4 + i) j := (I.2.2.1 i h_i j h_j).1
    have er2 : k_u S 103 g 94 (5 * i + j) = S (4 + i) j := by rw [k_u_n (by decide)]; exact er
    have er3 : k_t (k_u S 103 g) 0 94 (5 * i + j) = S (4 + i) j := by rw [k_t_n (by decide), k_u_n (by decide)]; exact er
    have t : (5 * (i : Int) + (j : Int)).toNat = 5 * i + j := by omega
    unfold m_X6_partAt
    rw [k_v85]
    apply q_body
    have b6 : INF = 1000000 := rfl
    simp only [b_X6_partAt, r0, r1, rp, rf_can0, t, er, er2, er3, z_vB1, z_vB0, if_true, if_false, not_true_eq_false, not_false_eq_true, k_t_n, k_t_1, exists_eq, k_v85, k_o85, k_r0, k_r1, k_r2, k_r3, k_r4, k_r5, k_r6, k_r7, k_r8, k_r9, k_r10, k_r11, k_r12, k_r13, k_r14, k_r15, k_r16, k_r17, k_r18, k_rl, k_sc, k_st, k_a86, k_s86, k_a87, k_s87, k_a88, k_s88, k_a89, k_s89, k_a90, k_s90, k_a91, k_s91, k_a92, k_s92, k_a93, k_s93, k_a94, k_s94, k_a95, k_s95, k_a96, k_s96, k_a97, k_s97, k_a98, k_s98, k_a99, k_s99, k_a100, k_s100, k_a101, k_s101, k_a102, k_s102, k_u_s, k_u_n, k_u_u, Nat.reduceEqDiff, not_false_eq_true, qS_nop, qS_seq, qS_set, qS_setJ, qS_if, qS_brk, qS_ret, qS_retV, qS_throw, qS_inc, qS_cl, qS_ast, qS_aop, qS_fst, qS_fop, qS_sw, qT_eC, qT_eCB, qT_eL, qT_eLJ, qT_eLR, qT_eLB, qT_e1, qT_e2, qT_bCmp, qT_bCmpJ, qT_bAnd, qT_bOr, qT_bNot, qT_eBI, qT_eIf, qT_eLd, qT_eLdR, qT_eLen, qT_eF, qT_eFR, qT_aN, qT_aS, qT_eCl, qT_eClR, qT_eClB, qT_some, qT_x, z_nx_N, z_nx_B, z_nx_R, z_nx_X, z_bk_N, z_bk_B, z_bk_R, z_bk_X, oAdd, oSub, oMul, oNeg, cLt, cLe, cGt, cGe, cEq, cNe, Option.some.injEq, Sum.inl.injEq, Sum.inr.injEq, Prod.mk.injEq, exists_eq_left, exists_eq_left', exists_eq_right, exists_and_left, reduceCtorEq, and_true, true_and, and_false, false_and, List.getElem?_cons_zero, List.getElem?_cons_succ, List.set_cons_zero, List.set_cons_succ, List.replicate, List.length_cons, List.length_nil, List.cons_append, List.nil_append, Nat.reduceAdd, Nat.reduceSub, decide_eq_true_eq, decide_eq_false_iff_not, Bool.true_eq_false, Bool.false_eq_true, true_implies, false_implies, implies_true, Nat.reduceLT, exists_const, z_vB_inj, and_assoc, z_in_iff, oI2L, oL2I, Int.toNat_natCast, z_toNat0, Bool.not_eq_true', Bool.not_eq_false', ne_eq, Bool.not_true, Bool.not_false, Nat.add_zero, Int.add_zero, z_sl_s]
    omega
theorem op_chips (I : kInv S) {v : Int} {n : Int} (hv : kR v) (hn : kR n) : kOp m_X5_chips m_X6_chips kIO kIA [vI v, vI n] S := by
  have b6 : INF = 1000000 := rfl
  by_cases q0 : 0 ≤ v ∧ v < 5
  rotate_left
  · have c0 := s_nI0 hv (c := 5) (by decide) q0
    have r0 := rf_ver0 (n := v) hv (by omega)
    refine kOp.x1 (r := vI 0) (S1 := S) (S2 := fun g => k_t (k_u S 103 g) 1) ?_ (fun g => ?_) (fun g => I.t g 1) (fun g => k_t_103) (fun g => k_t_1)
    · unfold m_X5_chips
      rw [k_v0]
      apply q_body
      have b6 : INF = 1000000 := rfl
      simp only [b_X5_chips, c0, qS_nop, qS_seq, qS_set, qS_setJ, qS_if, qS_brk, qS_ret, qS_retV, qS_throw, qS_inc, qS_cl, qS_ast, qS_aop, qS_fst, qS_fop, qS_sw, qT_eC, qT_eCB, qT_eL, qT_eLJ, qT_eLR, qT_eLB, qT_e1, qT_e2, qT_bCmp, qT_bCmpJ, qT_bAnd, qT_bOr, qT_bNot, qT_eBI, qT_eIf, qT_eLd, qT_eLdR, qT_eLen, qT_eF, qT_eFR, qT_aN, qT_aS, qT_eCl, qT_eClR, qT_eClB, qT_some, qT_x, z_nx_N, z_nx_B, z_nx_R, z_nx_X, z_bk_N, z_bk_B, z_bk_R, z_bk_X, oAdd, oSub, oMul, oNeg, cLt, cLe, cGt, cGe, cEq, cNe, Option.some.injEq, Sum.inl.injEq, Sum.inr.injEq, Prod.mk.injEq, exists_eq_left, exists_eq_left', exists_eq_right, exists_and_left, reduceCtorEq, and_true, true_and, and_false, false_and, List.getElem?_cons_zero, List.getElem?_cons_succ, List.set_cons_zero, List.set_cons_succ, List.replicate, List.length_cons, List.length_nil, List.cons_append, List.nil_append, Nat.reduceAdd, Nat.reduceSub, decide_eq_true_eq, decide_eq_false_iff_not, Bool.true_eq_false, Bool.false_eq_true, true_implies, false_implies, implies_true, Nat.reduceLT, exists_const, z_vB_inj, and_assoc, z_in_iff, oI2L, oL2I, Int.toNat_natCast, z_toNat0, Bool.not_eq_true', Bool.not_eq_false', ne_eq, Bool.not_true, Bool.not_false, Nat.add_zero, Int.add_zero, z_sl_s]
    · unfold m_X6_chips
      rw [k_v85]
      apply q_body
      have b6 : INF = 1000000 := rfl
      simp only [b_X6_chips, r0, rf_can1, z_vB1, z_vB0, if_true, if_false, not_true_eq_false, not_false_eq_true, k_t_n, k_t_1, exists_eq, k_v85, k_o85, k_r0, k_r1, k_r2, k_r3, k_r4, k_r5, k_r6, k_r7, k_r8, k_r9, k_r10, k_r11, k_r12, k_r13, k_r14, k_r15, k_r16, k_r17, k_r18, k_rl, k_sc, k_st, k_a86, k_s86, k_a87, k_s87, k_a88, k_s88, k_a89, k_s89, k_a90, k_s90, k_a91, k_s91, k_a92, k_s92, k_a93, k_s93, k_a94, k_s94, k_a95, k_s95, k_a96, k_s96, k_a97, k_s97, k_a98, k_s98, k_a99, k_s99, k_a100, k_s100, k_a101, k_s101, k_a102, k_s102, k_u_s, k_u_n, k_u_u, Nat.reduceEqDiff, not_false_eq_true, qS_nop, qS_seq, qS_set, qS_setJ, qS_if, qS_brk, qS_ret, qS_retV, qS_throw, qS_inc, qS_cl, qS_ast, qS_aop, qS_fst, qS_fop, qS_sw, qT_eC, qT_eCB, qT_eL, qT_eLJ, qT_eLR, qT_eLB, qT_e1, qT_e2, qT_bCmp, qT_bCmpJ, qT_bAnd, qT_bOr, qT_bNot, qT_eBI, qT_eIf, qT_eLd, qT_eLdR, qT_eLen, qT_eF, qT_eFR, qT_aN, qT_aS, qT_eCl, qT_eClR, qT_eClB, qT_some, qT_x, z_nx_N, z_nx_B, z_nx_R, z_nx_X, z_bk_N, z_bk_B, z_bk_R, z_bk_X, oAdd, oSub, oMul, oNeg, cLt, cLe, cGt, cGe, cEq, cNe, Option.some.injEq, Sum.inl.injEq, Sum.inr.injEq, Prod.mk.injEq, exists_eq_left, exists_eq_left', exists_eq_right, exists_and_left, reduceCtorEq, and_true, true_and, and_false, false_and, List.getElem?_cons_zero, List.getElem?_cons_succ, List.set_cons_zero, List.set_cons_succ, List.replicate, List.length_cons, List.length_nil, List.cons_append, List.nil_append, Nat.reduceAdd, Nat.reduceSub, decide_eq_true_eq, decide_eq_false_iff_not, Bool.true_eq_false, Bool.false_eq_true, true_implies, false_implies, implies_true, Nat.reduceLT, exists_const, z_vB_inj, and_assoc, z_in_iff, oI2L, oL2I, Int.toNat_natCast, z_toNat0, Bool.not_eq_true', Bool.not_eq_false', ne_eq, Bool.not_true, Bool.not_false, Nat.add_zero, Int.add_zero, z_sl_s]
  by_cases q1 : -99 ≤ n ∧ n ≤ 99
  rotate_left
  · have c0 := s_nI1 (i := v) (c := 5) (by decide) q0
    have r0 := rf_ver1 (n := v) (by omega)
    have c1 := s_nW0 (n := n) (a := -99) (b := 99) hn (by decide) (by decide) q1
    have r1 := rf_in0 (n := n) (a := -99) (b := 99) hn (by decide) (by decide) q1
    refine kOp.x2 (r := vI 0) (S1 := S) (S2 := fun g => k_t (k_u S 103 g) 2) ?_ (fun g => ?_) (fun g => I.t g 2) (fun g => k_t_103) (fun g => k_t_1)
    · unfold m_X5_chips
      rw [k_v0]
      apply q_body
      have b6 : INF = 1000000 := rfl
      simp only [b_X5_chips, c0, c1, qS_nop, qS_seq, qS_set, qS_setJ, qS_if, qS_brk, qS_ret, qS_retV, qS_throw, qS_inc, qS_cl, qS_ast, qS_aop, qS_fst, qS_fop, qS_sw, qT_eC, qT_eCB, qT_eL, qT_eLJ, qT_eLR, qT_eLB, qT_e1, qT_e2, qT_bCmp, qT_bCmpJ, qT_bAnd, qT_bOr, qT_bNot, qT_eBI, qT_eIf, qT_eLd, qT_eLdR, qT_eLen, qT_eF, qT_eFR, qT_aN, qT_aS, qT_eCl, qT_eClR, qT_eClB, qT_some, qT_x, z_nx_N, z_nx_B, z_nx_R, z_nx_X, z_bk_N, z_bk_B, z_bk_R, z_bk_X, oAdd, oSub, oMul, oNeg, cLt, cLe, cGt, cGe, cEq, cNe, Option.some.injEq, Sum.inl.injEq, Sum.inr.injEq, Prod.mk.injEq, exists_eq_left, exists_eq_left', exists_eq_right, exists_and_left, reduceCtorEq, and_true, true_and, and_false, false_and, List.getElem?_cons_zero, List.getElem?_cons_succ, List.set_cons_zero, List.set_cons_succ, List.replicate, List.length_cons, List.length_nil, List.cons_append, List.nil_append, Nat.reduceAdd, Nat.reduceSub, decide_eq_true_eq, decide_eq_false_iff_not, Bool.true_eq_false, Bool.false_eq_true, true_implies, false_implies, implies_true, Nat.reduceLT, exists_const, z_vB_inj, and_assoc, z_in_iff, oI2L, oL2I, Int.toNat_natCast, z_toNat0, Bool.not_eq_true', Bool.not_eq_false', ne_eq, Bool.not_true, Bool.not_false, Nat.add_zero, Int.add_zero, z_sl_s]
    · unfold m_X6_chips
      rw [k_v85]
      apply q_body
      have b6 : INF = 1000000 := rfl
      simp only [b_X6_chips, r0, r1, rf_can2, z_vB1, z_vB0, if_true, if_false, not_true_eq_false, not_false_eq_true, k_t_n, k_t_1, exists_eq, k_v85, k_o85, k_r0, k_r1, k_r2, k_r3, k_r4, k_r5, k_r6, k_r7, k_r8, k_r9, k_r10, k_r11, k_r12, k_r13, k_r14, k_r15, k_r16, k_r17, k_r18, k_rl, k_sc, k_st, k_a86, k_s86, k_a87, k_s87, k_a88, k_s88, k_a89, k_s89, k_a90, k_s90, k_a91, k_s91, k_a92, k_s92, k_a93, k_s93, k_a94, k_s94, k_a95, k_s95, k_a96, k_s96, k_a97, k_s97, k_a98, k_s98, k_a99, k_s99, k_a100, k_s100, k_a101, k_s101, k_a102, k_s102, k_u_s, k_u_n, k_u_u, Nat.reduceEqDiff, not_false_eq_true, qS_nop, qS_seq, qS_set, qS_setJ, qS_if, qS_brk, qS_ret, qS_retV, qS_throw, qS_inc, qS_cl, qS_ast, qS_aop, qS_fst, qS_fop, qS_sw, qT_eC, qT_eCB, qT_eL, qT_eLJ, qT_eLR, qT_eLB, qT_e1, qT_e2, qT_bCmp, qT_bCmpJ, qT_bAnd, qT_bOr, qT_bNot, qT_eBI, qT_eIf, qT_eLd, qT_eLdR, qT_eLen, qT_eF, qT_eFR, qT_aN, qT_aS, qT_eCl, qT_eClR, qT_eClB, qT_some, qT_x, z_nx_N, z_nx_B, z_nx_R, z_nx_X, z_bk_N, z_bk_B, z_bk_R, z_bk_X, oAdd, oSub, oMul, oNeg, cLt, cLe, cGt, cGe, cEq, cNe, Option.some.injEq, Sum.inl.injEq, Sum.inr.injEq, Prod.mk.injEq, exists_eq_left, exists_eq_left', exists_eq_right, exists_and_left, reduceCtorEq, and_true, true_and, and_false, false_and, List.getElem?_cons_zero, List.getElem?_cons_succ, List.set_cons_zero, List.set_cons_succ, List.replicate, List.length_cons, List.length_nil, List.cons_append, List.nil_append, Nat.reduceAdd, Nat.reduceSub, decide_eq_true_eq, decide_eq_false_iff_not, Bool.true_eq_false, Bool.false_eq_true, true_implies, false_implies, implies_true, Nat.reduceLT, exists_const, z_vB_inj, and_assoc, z_in_iff, oI2L, oL2I, Int.toNat_natCast, z_toNat0, Bool.not_eq_true', Bool.not_eq_false', ne_eq, Bool.not_true, Bool.not_false, Nat.add_zero, Int.add_zero, z_sl_s]
  have c0 := s_nI1 (i := v) (c := 5) (by decide) q0
  have r0 := rf_ver1 (n := v) (by omega)
  have c1 := s_nW1 (n := n) (a := -99) (b := 99) (by decide) (by decide) q1
  have r1 := rf_in1 (n := n) (a := -99) (b := 99) (by decide) (by decide) q1
  obtain ⟨i, rfl⟩ : ∃ i : Nat, v = i := ⟨v.toNat, by omega⟩
  have h_i : i < 5 := by omega
  refine kOp.ok (r := vI (S 15 i)) (S1 := k_u S 15 (z_up (S 15) i n)) (S2 := fun g => k_u (k_t (k_u (k_u S 15 (z_up (S 15) i n)) 103 g) 0) 99 (z_up (S 99) i n)) ?_ (fun g => ?_) (fun g => ?_) (fun g => ?_) (fun g => ?_)
  · unfold m_X5_chips
    rw [k_v0]
    apply q_body
    have b6 : INF = 1000000 := rfl
    simp only [b_X5_chips, c0, c1, k_o0, k_o8, k_a15, k_s15, qS_nop, qS_seq, qS_set, qS_setJ, qS_if, qS_brk, qS_ret, qS_retV, qS_throw, qS_inc, qS_cl, qS_ast, qS_aop, qS_fst, qS_fop, qS_sw, qT_eC, qT_eCB, qT_eL, qT_eLJ, qT_eLR, qT_eLB, qT_e1, qT_e2, qT_bCmp, qT_bCmpJ, qT_bAnd, qT_bOr, qT_bNot, qT_eBI, qT_eIf, qT_eLd, qT_eLdR, qT_eLen, qT_eF, qT_eFR, qT_aN, qT_aS, qT_eCl, qT_eClR, qT_eClB, qT_some, qT_x, z_nx_N, z_nx_B, z_nx_R, z_nx_X, z_bk_N, z_bk_B, z_bk_R, z_bk_X, oAdd, oSub, oMul, oNeg, cLt, cLe, cGt, cGe, cEq, cNe, Option.some.injEq, Sum.inl.injEq, Sum.inr.injEq, Prod.mk.injEq, exists_eq_left, exists_eq_left', exists_eq_right, exists_and_left, reduceCtorEq, and_true, true_and, and_false, false_and, List.getElem?_cons_zero, List.getElem?_cons_succ, List.set_cons_zero, List.set_cons_succ, List.replicate, List.length_cons, List.length_nil, List.cons_append, List.nil_append, Nat.reduceAdd, Nat.reduceSub, decide_eq_true_eq, decide_eq_false_iff_not, Bool.true_eq_false, Bool.false_eq_true, true_implies, false_implies, implies_true, Nat.reduceLT, exists_const, z_vB_inj, and_assoc, z_in_iff, oI2L, oL2I, Int.toNat_natCast, z_toNat0, Bool.not_eq_true', Bool.not_eq_false', ne_eq, Bool.not_true, Bool.not_false, Nat.add_zero, Int.add_zero, z_sl_s]
    omega
  · have s99 : k_u S 15 (z_up (S 15) i n) 99 = S 99 := k_u_n (by omega)
    have er : S 99 i = S 15 i := (I.2.2.2.1.2.2 i h_i).1
    unfold m_X6_chips
    rw [k_v85]
    apply q_body
    have b6 : INF = 1000000 := rfl
    simp only [b_X6_chips, r0, r1, rf_can0, s99, er, z_vB1, z_vB0, if_true, if_false, not_true_eq_false, not_false_eq_true, k_t_n, k_t_1, exists_eq, k_v85, k_o85, k_r0, k_r1, k_r2, k_r3, k_r4, k_r5, k_r6, k_r7, k_r8, k_r9, k_r10, k_r11, k_r12, k_r13, k_r14, k_r15, k_r16, k_r17, k_r18, k_rl, k_sc, k_st, k_a86, k_s86, k_a87, k_s87, k_a88, k_s88, k_a89, k_s89, k_a90, k_s90, k_a91, k_s91, k_a92, k_s92, k_a93, k_s93, k_a94, k_s94, k_a95, k_s95, k_a96, k_s96, k_a97, k_s97, k_a98, k_s98, k_a99, k_s99, k_a100, k_s100, k_a101, k_s101, k_a102, k_s102, k_u_s, k_u_n, k_u_u, Nat.reduceEqDiff, not_false_eq_true, qS_nop, qS_seq, qS_set, qS_setJ, qS_if, qS_brk, qS_ret, qS_retV, qS_throw, qS_inc, qS_cl, qS_ast, qS_aop, qS_fst, qS_fop, qS_sw, qT_eC, qT_eCB, qT_eL, qT_eLJ, qT_eLR, qT_eLB, qT_e1, qT_e2, qT_bCmp, qT_bCmpJ, qT_bAnd, qT_bOr, qT_bNot, qT_eBI, qT_eIf, qT_eLd, qT_eLdR, qT_eLen, qT_eF, qT_eFR, qT_aN, qT_aS, qT_eCl, qT_eClR, qT_eClB, qT_some, qT_x, z_nx_N, z_nx_B, z_nx_R, z_nx_X, z_bk_N, z_bk_B, z_bk_R, z_bk_X, oAdd, oSub, oMul, oNeg, cLt, cLe, cGt, cGe, cEq, cNe, Option.some.injEq, Sum.inl.injEq, Sum.inr.injEq, Prod.mk.injEq, exists_eq_left, exists_eq_left', exists_eq_right, exists_and_left, reduceCtorEq, and_true, true_and, and_false, false_and, List.getElem?_cons_zero, List.getElem?_cons_succ, List.set_cons_zero, List.set_cons_succ, List.replicate, List.length_cons, List.length_nil, List.cons_append, List.nil_append, Nat.reduceAdd, Nat.reduceSub, decide_eq_true_eq, decide_eq_false_iff_not, Bool.true_eq_false, Bool.false_eq_true, true_implies, false_implies, implies_true, Nat.reduceLT, exists_const, z_vB_inj, and_assoc, z_in_iff, oI2L, oL2I, Int.toNat_natCast, z_toNat0, Bool.not_eq_true', Bool.not_eq_false', ne_eq, Bool.not_true, Bool.not_false, Nat.add_zero, Int.add_zero, z_sl_s]
    omega
  · refine I.of4 ⟨?_, fun x y hx hy => ?_, fun x hx => ?_⟩ (fun a ha h1 h2 h3 => ?_)
    · rw [kF_u (by omega)]
      show gOk (kF (k_t _ _) 10 5)
      unfold k_t
      rw [kF_u (by omega), kF_u (by omega), kF_u (by omega)]
      exact I.2.2.2.1.1
    · have e := I.2.2.2.1.2.1 x y hx hy
      have z1 : rE (k_u (k_t (k_u (k_u S 15 (z_up (S 15) i n)) 103 g) 0) 99 (z_up (S 99) i n)) x y = rE S x y := by unfold rE; rw [k_u_n (by omega), k_t_n (by omega), k_u_n (by omega), k_u_n (by omega)]
      rw [z1, e, k_u_n (by omega), k_t_n (by omega), k_u_n (by omega), k_u_n (by omega)]
    · have e := I.2.2.2.1.2.2 x hx
      rw [k_u_s, k_u_n (by omega), k_t_n (by omega), k_u_n (by omega), k_u_s]
      unfold z_up
      by_cases c : x = i
      · rw [if_pos c, if_pos c]
        omega
      · rw [if_neg c, if_neg c]
        exact e
    · rw [k_u_n h3, k_t_n (fun e => ha (by subst e; unfold kFree; omega)), k_u_n (fun e => ha (by subst e; unfold kFree; omega)), k_u_n (by omega)]
  · rw [k_u_n (by decide), k_t_103]
  · rw [k_u_n (by decide), k_t_1]
end FV
