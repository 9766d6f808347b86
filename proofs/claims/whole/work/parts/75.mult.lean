/-! THE FACE: multiply -/
section FMu
variable {S : Nat → Nat → Int}
theorem rM_u {S T : Nat → Nat → Int} (h : T 90 = S 90) (m : Nat) : rM T m = rM S m := by
  unfold rM
  rw [h]
/-- a matrix, in both -/
theorem kInv.mm (I : kInv S) {i : Nat} (hi : i < 4) : ∃ n : Nat, (1 ≤ n ∧ n ≤ 5) ∧ S (51 + 9 * i) 0 = (n : Int) ∧ S 89 i = (n : Int) ∧ mBd (kF S (53 + 9 * i) 5) 1000000000 ∧ (∀ x y, x < n → y < n → kF S (53 + 9 * i) 5 x y = rM S i x y) ∧ mWi (rM S i) n ∧ (∀ x y, x < 5 → y < 5 → ¬ (x < n ∧ y < n) → rM S i x y = INF) := by
  obtain ⟨n, a1, a2, a3, a4, a5, a6, a7⟩ := I.2.1 i hi
  refine ⟨n, ⟨a1, a2⟩, a3, a4, a5, fun x y hx hy => ?_, fun x y hx hy => (a6 x y hx hy).2, a7⟩
  rw [kF_l (by omega)]
  exact ((a6 x y hx hy).1).symm
theorem kInv.mb (I : kInv S) {i : Nat} (hi : i < 4) : mBd (rM S i) 100000 := fun x y hx hy => by
  have b6 : INF = 1000000 := rfl
  obtain ⟨n, -, -, -, -, -, a6, a7⟩ := I.mm hi
  by_cases c : x < n ∧ y < n
  · have := a6 x y c.1 c.2
    omega
  · have := a7 x y hx hy c
    omega
theorem k_C30 (f : Nat → Int) : k_C 30 f = .inl (2, [vR 31, vI (f 0)]) := rfl
theorem k_C32 : ∀ j, j < 5 → ∀ f, k_C (32 + j) f = .inr (0, 5, f) := fun j hj f => by
  obtain rfl | rfl | rfl | rfl | rfl : j = 0 ∨ j = 1 ∨ j = 2 ∨ j = 3 ∨ j = 4 := by omega
  all_goals rfl
theorem mMul_cg {A B A' B' : Nat → Nat → Int} {n i j : Nat} (h1 : ∀ k, k < n → A i k = A' i k) (h2 : ∀ k, k < n → B k j = B' k j) : mMul A B n i j = mMul A' B' n i j := by
  unfold mMul
  exact z_mn_eq (fun k hk => by rw [h1 k hk, h2 k hk])
/-- far, as the reference asks it -/
theorem mWi_25 {f : Nat → Int} {R : Nat → Nat → Int} {n : Nat} (hn : n ≤ 5) (h : ∀ k, k < 25 → f k = if k / 5 < n ∧ k % 5 < n then R (k / 5) (k % 5) else INF) : (∀ k, k < 25 → ¬ (f k ≠ INF ∧ (f k < -99999 ∨ 99999 < f k))) ↔ mWi R n := by
  have b6 : INF = 1000000 := rfl
  constructor
  · intro q i j hi hj
    have w := q (5 * i + j) (by omega)
    have e := h (5 * i + j) (by omega)
    rw [show (5 * i + j) / 5 = i by omega, show (5 * i + j) % 5 = j by omega, if_pos ⟨hi, hj⟩] at e
    rw [e] at w
    omega
  · intro q k hk
    rw [h k hk]
    split
    · next c => have := q _ _ c.1 c.2; omega
    · omega
/-- drafts alone have changed -/
theorem kInv.d {X : Nat → Nat → Int} (I : kInv S) (Xo : ∀ a, ¬ kFree a → ¬ (30 ≤ a ∧ a ≤ 43) → X a = S a) (k5 : kI5 X) : kInv X :=
  ⟨I.1.eq (fun i hi => Xo _ (by unfold kFree; omega) (by omega)) (Xo _ (by unfold kFree; omega) (by omega)), I.2.1.eq (fun i hi => Xo _ (by unfold kFree; omega) (by omega)) (fun i x hi hx => Xo _ (by unfold kFree; omega) (by omega)) (Xo _ (by unfold kFree; omega) (by omega)) (Xo _ (by unfold kFree; omega) (by omega)), I.2.2.1.eq (fun i hi => Xo _ (by unfold kFree; omega) (by omega)) (Xo _ (by unfold kFree; omega) (by omega)), I.2.2.2.1.eq (fun i hi => Xo _ (by unfold kFree; omega) (by omega)) (Xo _ (by unfold kFree; omega) (by omega)) (Xo _ (by unfold kFree; omega) (by omega)) (Xo _ (by unfold kFree; omega) (by omega)), k5⟩
theorem op_multiply (I : kInv S) {p : Int} {k : Int} {t : Int} (hp : kR p) (hk : kR k) (ht : kR t) : kOp m_X5_multiply m_X6_multiply kIO kIS [vI p, vI k, vI t] S := by
  have b6 : INF = 1000000 := rfl
  by_cases q0 : 0 ≤ p ∧ p ≤ 3
  rotate_left
  · have c0 := s_nH0 hp q0
    have r0 := rf_one0 hp q0
    refine kOp.x1 (r := vI 0) (S1 := S) (S2 := fun g => k_t (k_u S 103 g) 1) ?_ (fun g => ?_) (fun g => I.t g 1) (fun g => k_t_103) (fun g => k_t_1)
    · unfold m_X5_multiply
      rw [k_v0]
      apply q_body
      have b6 : INF = 1000000 := rfl
      simp only [b_X5_multiply, c0, qS_nop, qS_seq, qS_set, qS_setJ, qS_if, qS_brk, qS_ret, qS_retV, qS_throw, qS_inc, qS_cl, qS_ast, qS_aop, qS_fst, qS_fop, qS_sw, qT_eC, qT_eCB, qT_eL, qT_eLJ, qT_eLR, qT_eLB, qT_e1, qT_e2, qT_bCmp, qT_bCmpJ, qT_bAnd, qT_bOr, qT_bNot, qT_eBI, qT_eIf, qT_eLd, qT_eLdR, qT_eLen, qT_eF, qT_eFR, qT_aN, qT_aS, qT_eCl, qT_eClR, qT_eClB, qT_some, qT_x, z_nx_N, z_nx_B, z_nx_R, z_nx_X, z_bk_N, z_bk_B, z_bk_R, z_bk_X, oAdd, oSub, oMul, oNeg, cLt, cLe, cGt, cGe, cEq, cNe, Option.some.injEq, Sum.inl.injEq, Sum.inr.injEq, Prod.mk.injEq, exists_eq_left, exists_eq_left', exists_eq_right, exists_and_left, reduceCtorEq, and_true, true_and, and_false, false_and, List.getElem?_cons_zero, List.getElem?_cons_succ, List.set_cons_zero, List.set_cons_succ, List.replicate, List.length_cons, List.length_nil, List.cons_append, List.nil_append, Nat.reduceAdd, Nat.reduceSub, decide_eq_true_eq, decide_eq_false_iff_not, Bool.true_eq_false, Bool.false_eq_true, true_implies, false_implies, implies_true, Nat.reduceLT, exists_const, z_vB_inj, and_assoc, z_in_iff, oI2L, oL2I, Int.toNat_natCast, z_toNat0, Bool.not_eq_true', Bool.not_eq_false', ne_eq, Bool.not_true, Bool.not_false, Nat.add_zero, Int.add_zero, z_sl_s]
    · unfold m_X6_multiply
      rw [k_v85]
      apply q_body
      have b6 : INF = 1000000 := rfl
      simp only [b_X6_multiply, r0, rf_can1, z_vB1, z_vB0, if_true, if_false, not_true_eq_false, not_false_eq_true, k_t_n, k_t_1, exists_eq, k_v85, k_o85, k_r0, k_r1, k_r2, k_r3, k_r4, k_r5, k_r6, k_r7, k_r8, k_r9, k_r10, k_r11, k_r12, k_r13, k_r14, k_r15, k_r16, k_r17, k_r18, k_rl, k_sc, k_st, k_a86, k_s86, k_a87, k_s87, k_a88, k_s88, k_a89, k_s89, k_a90, k_s90, k_a91, k_s91, k_a92, k_s92, k_a93, k_s93, k_a94, k_s94, k_a95, k_s95, k_a96, k_s96, k_a97, k_s97, k_a98, k_s98, k_a99, k_s99, k_a100, k_s100, k_a101, k_s101, k_a102, k_s102, k_u_s, k_u_n, k_u_u, Nat.reduceEqDiff, not_false_eq_true, qS_nop, qS_seq, qS_set, qS_setJ, qS_if, qS_brk, qS_ret, qS_retV, qS_throw, qS_inc, qS_cl, qS_ast, qS_aop, qS_fst, qS_fop, qS_sw, qT_eC, qT_eCB, qT_eL, qT_eLJ, qT_eLR, qT_eLB, qT_e1, qT_e2, qT_bCmp, qT_bCmpJ, qT_bAnd, qT_bOr, qT_bNot, qT_eBI, qT_eIf, qT_eLd, qT_eLdR, qT_eLen, qT_eF, qT_eFR, qT_aN, qT_aS, qT_eCl, qT_eClR, qT_eClB, qT_some, qT_x, z_nx_N, z_nx_B, z_nx_R, z_nx_X, z_bk_N, z_bk_B, z_bk_R, z_bk_X, oAdd, oSub, oMul, oNeg, cLt, cLe, cGt, cGe, cEq, cNe, Option.some.injEq, Sum.inl.injEq, Sum.inr.injEq, Prod.mk.injEq, exists_eq_left, exists_eq_left', exists_eq_right, exists_and_left, reduceCtorEq, and_true, true_and, and_false, false_and, List.getElem?_cons_zero, List.getElem?_cons_succ, List.set_cons_zero, List.set_cons_succ, List.replicate, List.length_cons, List.length_nil, List.cons_append, List.nil_append, Nat.reduceAdd, Nat.reduceSub, decide_eq_true_eq, decide_eq_false_iff_not, Bool.true_eq_false, Bool.false_eq_true, true_implies, false_implies, implies_true, Nat.reduceLT, exists_const, z_vB_inj, and_assoc, z_in_iff, oI2L, oL2I, Int.toNat_natCast, z_toNat0, Bool.not_eq_true', Bool.not_eq_false', ne_eq, Bool.not_true, Bool.not_false, Nat.add_zero, Int.add_zero, z_sl_s]
  by_cases q1 : 0 ≤ k ∧ k ≤ 3
  rotate_left
  · have c0 := s_nH1 (i := p) q0
    have r0 := rf_one1 (i := p) q0
    have c1 := s_nH0 hk q1
    have r1 := rf_one0 hk q1
    refine kOp.x1 (r := vI 0) (S1 := S) (S2 := fun g => k_t (k_u S 103 g) 1) ?_ (fun g => ?_) (fun g => I.t g 1) (fun g => k_t_103) (fun g => k_t_1)
    · unfold m_X5_multiply
      rw [k_v0]
      apply q_body
      have b6 : INF = 1000000 := rfl
      simp only [b_X5_multiply, c0, c1, qS_nop, qS_seq, qS_set, qS_setJ, qS_if, qS_brk, qS_ret, qS_retV, qS_throw, qS_inc, qS_cl, qS_ast, qS_aop, qS_fst, qS_fop, qS_sw, qT_eC, qT_eCB, qT_eL, qT_eLJ, qT_eLR, qT_eLB, qT_e1, qT_e2, qT_bCmp, qT_bCmpJ, qT_bAnd, qT_bOr, qT_bNot, qT_eBI, qT_eIf, qT_eLd, qT_eLdR, qT_eLen, qT_eF, qT_eFR, qT_aN, qT_aS, qT_eCl, qT_eClR, qT_eClB, qT_some, qT_x, z_nx_N, z_nx_B, z_nx_R, z_nx_X, z_bk_N, z_bk_B, z_bk_R, z_bk_X, oAdd, oSub, oMul, oNeg, cLt, cLe, cGt, cGe, cEq, cNe, Option.some.injEq, Sum.inl.injEq, Sum.inr.injEq, Prod.mk.injEq, exists_eq_left, exists_eq_left', exists_eq_right, exists_and_left, reduceCtorEq, and_true, true_and, and_false, false_and, List.getElem?_cons_zero, List.getElem?_cons_succ, List.set_cons_zero, List.set_cons_succ, List.replicate, List.length_cons, List.length_nil, List.cons_append, List.nil_append, Nat.reduceAdd, Nat.reduceSub, decide_eq_true_eq, decide_eq_false_iff_not, Bool.true_eq_false, Bool.false_eq_true, true_implies, false_implies, implies_true, Nat.reduceLT, exists_const, z_vB_inj, and_assoc, z_in_iff, oI2L, oL2I, Int.toNat_natCast, z_toNat0, Bool.not_eq_true', Bool.not_eq_false', ne_eq, Bool.not_true, Bool.not_false, Nat.add_zero, Int.add_zero, z_sl_s]
    · unfold m_X6_multiply
      rw [k_v85]
      apply q_body
      have b6 : INF = 1000000 := rfl
      simp only [b_X6_multiply, r0, r1, rf_can1, z_vB1, z_vB0, if_true, if_false, not_true_eq_false, not_false_eq_true, k_t_n, k_t_1, exists_eq, k_v85, k_o85, k_r0, k_r1, k_r2, k_r3, k_r4, k_r5, k_r6, k_r7, k_r8, k_r9, k_r10, k_r11, k_r12, k_r13, k_r14, k_r15, k_r16, k_r17, k_r18, k_rl, k_sc, k_st, k_a86, k_s86, k_a87, k_s87, k_a88, k_s88, k_a89, k_s89, k_a90, k_s90, k_a91, k_s91, k_a92, k_s92, k_a93, k_s93, k_a94, k_s94, k_a95, k_s95, k_a96, k_s96, k_a97, k_s97, k_a98, k_s98, k_a99, k_s99, k_a100, k_s100, k_a101, k_s101, k_a102, k_s102, k_u_s, k_u_n, k_u_u, Nat.reduceEqDiff, not_false_eq_true, qS_nop, qS_seq, qS_set, qS_setJ, qS_if, qS_brk, qS_ret, qS_retV, qS_throw, qS_inc, qS_cl, qS_ast, qS_aop, qS_fst, qS_fop, qS_sw, qT_eC, qT_eCB, qT_eL, qT_eLJ, qT_eLR, qT_eLB, qT_e1, qT_e2, qT_bCmp, qT_bCmpJ, qT_bAnd, qT_bOr, qT_bNot, qT_eBI, qT_eIf, qT_eLd, qT_eLdR, qT_eLen, qT_eF, qT_eFR, qT_aN, qT_aS, qT_eCl, qT_eClR, qT_eClB, qT_some, qT_x, z_nx_N, z_nx_B, z_nx_R, z_nx_X, z_bk_N, z_bk_B, z_bk_R, z_bk_X, oAdd, oSub, oMul, oNeg, cLt, cLe, cGt, cGe, cEq, cNe, Option.some.injEq, Sum.inl.injEq, Sum.inr.injEq, Prod.mk.injEq, exists_eq_left, exists_eq_left', exists_eq_right, exists_and_left, reduceCtorEq, and_true, true_and, and_false, false_and, List.getElem?_cons_zero, List.getElem?_cons_succ, List.set_cons_zero, List.set_cons_succ, List.replicate, List.length_cons, List.length_nil, List.cons_append, List.nil_append, Nat.reduceAdd, Nat.reduceSub, decide_eq_true_eq, decide_eq_false_iff_not, Bool.true_eq_false, Bool.false_eq_true, true_implies, false_implies, implies_true, Nat.reduceLT, exists_const, z_vB_inj, and_assoc, z_in_iff, oI2L, oL2I, Int.toNat_natCast, z_toNat0, Bool.not_eq_true', Bool.not_eq_false', ne_eq, Bool.not_true, Bool.not_false, Nat.add_zero, Int.add_zero, z_sl_s]
  by_cases q2 : 0 ≤ t ∧ t ≤ 3
  rotate_left
  · have c0 := s_nH1 (i := p) q0
    have r0 := rf_one1 (i := p) q0
    have c1 := s_nH1 (i := k) q1
    have r1 := rf_one1 (i := k) q1
    have c2 := s_nH0 ht q2
    have r2 := rf_one0 ht q2
    refine kOp.x1 (r := vI 0) (S1 := S) (S2 := fun g => k_t (k_u S 103 g) 1) ?_ (fun g => ?_) (fun g => I.t g 1) (fun g => k_t_103) (fun g => k_t_1)
    · unfold m_X5_multiply
      rw [k_v0]
      apply q_body
      have b6 : INF = 1000000 := rfl
      simp only [b_X5_multiply, c0, c1, c2, qS_nop, qS_seq, qS_set, qS_setJ, qS_if, qS_brk, qS_ret, qS_retV, qS_throw, qS_inc, qS_cl, qS_ast, qS_aop, qS_fst, qS_fop, qS_sw, qT_eC, qT_eCB, qT_eL, qT_eLJ, qT_eLR, qT_eLB, qT_e1, qT_e2, qT_bCmp, qT_bCmpJ, qT_bAnd, qT_bOr, qT_bNot, qT_eBI, qT_eIf, qT_eLd, qT_eLdR, qT_eLen, qT_eF, qT_eFR, qT_aN, qT_aS, qT_eCl, qT_eClR, qT_eClB, qT_some, qT_x, z_nx_N, z_nx_B, z_nx_R, z_nx_X, z_bk_N, z_bk_B, z_bk_R, z_bk_X, oAdd, oSub, oMul, oNeg, cLt, cLe, cGt, cGe, cEq, cNe, Option.some.injEq, Sum.inl.injEq, Sum.inr.injEq, Prod.mk.injEq, exists_eq_left, exists_eq_left', exists_eq_right, exists_and_left, reduceCtorEq, and_true, true_and, and_false, false_and, List.getElem?_cons_zero, List.getElem?_cons_succ, List.set_cons_zero, List.set_cons_succ, List.replicate, List.length_cons, List.length_nil, List.cons_append, List.nil_append, Nat.reduceAdd, Nat.reduceSub, decide_eq_true_eq, decide_eq_false_iff_not, Bool.true_eq_false, Bool.false_eq_true, true_implies, false_implies, implies_true, Nat.reduceLT, exists_const, z_vB_inj, and_assoc, z_in_iff, oI2L, oL2I, Int.toNat_natCast, z_toNat0, Bool.not_eq_true', Bool.not_eq_false', ne_eq, Bool.not_true, Bool.not_false, Nat.add_zero, Int.add_zero, z_sl_s]
    · unfold m_X6_multiply
      rw [k_v85]
      apply q_body
      have b6 : INF = 1000000 := rfl
      simp only [b_X6_multiply, r0, r1, r2, rf_can1, z_vB1, z_vB0, if_true, if_false, not_true_eq_false, not_false_eq_true, k_t_n, k_t_1, exists_eq, k_v85, k_o85, k_r0, k_r1, k_r2, k_r3, k_r4, k_r5, k_r6, k_r7, k_r8, k_r9, k_r10, k_r11, k_r12, k_r13, k_r14, k_r15, k_r16, k_r17, k_r18, k_rl, k_sc, k_st, k_a86, k_s86, k_a87, k_s87, k_a88, k_s88, k_a89, k_s89, k_a90, k_s90, k_a91, k_s91, k_a92, k_s92, k_a93, k_s93, k_a94, k_s94, k_a95, k_s95, k_a96, k_s96, k_a97, k_s97, k_a98, k_s98, k_a99, k_s99, k_a100, k_s100, k_a101, k_s101, k_a102, k_s102, k_u_s, k_u_n, k_u_u, Nat.reduceEqDiff, not_false_eq_true, qS_nop, qS_seq, qS_set, qS_setJ, qS_if, qS_brk, qS_ret, qS_retV, qS_throw, qS_inc, qS_cl, qS_ast, qS_aop, qS_fst, qS_fop, qS_sw, qT_eC, qT_eCB, qT_eL, qT_eLJ, qT_eLR, qT_eLB, qT_e1, qT_e2, qT_bCmp, qT_bCmpJ, qT_bAnd, qT_bOr, qT_bNot, qT_eBI, qT_eIf, qT_eLd, qT_eLdR, qT_eLen, qT_eF, qT_eFR, qT_aN, qT_aS, qT_eCl, qT_eClR, qT_eClB, qT_some, qT_x, z_nx_N, z_nx_B, z_nx_R, z_nx_X, z_bk_N, z_bk_B, z_bk_R, z_bk_X, oAdd, oSub, oMul, oNeg, cLt, cLe, cGt, cGe, cEq, cNe, Option.some.injEq, Sum.inl.injEq, Sum.inr.injEq, Prod.mk.injEq, exists_eq_left, exists_eq_left', exists_eq_right, exists_and_left, reduceCtorEq, and_true, true_and, and_false, false_and, List.getElem?_cons_zero, List.getElem?_cons_succ, List.set_cons_zero, List.set_cons_succ, List.replicate, List.length_cons, List.length_nil, List.cons_append, List.nil_append, Nat.reduceAdd, Nat.reduceSub, decide_eq_true_eq, decide_eq_false_iff_not, Bool.true_eq_false, Bool.false_eq_true, true_implies, false_implies, implies_true, Nat.reduceLT, exists_const, z_vB_inj, and_assoc, z_in_iff, oI2L, oL2I, Int.toNat_natCast, z_toNat0, Bool.not_eq_true', Bool.not_eq_false', ne_eq, Bool.not_true, Bool.not_false, Nat.add_zero, Int.add_zero, z_sl_s]
  have c0 := s_nH1 (i := p) q0
  have r0 := rf_one1 (i := p) q0
  have c1 := s_nH1 (i := k) q1
  have r1 := rf_one1 (i := k) q1
  have c2 := s_nH1 (i := t) q2
  have r2 := rf_one1 (i := t) q2
  obtain ⟨i, rfl⟩ : ∃ i : Nat, p = i := ⟨p.toNat, by omega⟩
  have h_i : i < 4 := by omega
  obtain ⟨j, rfl⟩ : ∃ j : Nat, k = j := ⟨k.toNat, by omega⟩
  have h_j : j < 4 := by omega
  obtain ⟨l, rfl⟩ : ∃ l : Nat, t = l := ⟨t.toNat, by omega⟩
  have h_l : l < 4 := by omega
  have rt2 := r2
  obtain ⟨n, nb, n51, n89, nB, nE, nW, nN⟩ := I.mm h_i
  obtain ⟨n', nb', n51', n89', nB', nE', nW', nN'⟩ := I.mm h_j
  obtain ⟨nt, nbt, n51t, -, -, -, -, -⟩ := I.mm h_l
  have r2 := k_2r h_i
  have r3 := k_2r h_j
  have Mb := fun m (hm : m < 4) => I.mb hm
  have cm := fun (T : Nat → Nat → Int) (e89 : T 89 = S 89) (e90 : T 90 = S 90) => rf_canMultiply (S := T) (n := n) h_i h_j (by rw [e89]; exact I.r) (by rw [e89]; exact n89) (fun m hm => by rw [rM_u e90]; exact Mb m hm)
  by_cases Q : n = n'
  rotate_left
  · refine ⟨_, S, (?_ : _ = some (.inr kIS, k_W S)), fun g => ?_⟩
    · unfold m_X5_multiply
      rw [k_v0]
      apply q_body
      have b6 : INF = 1000000 := rfl
      simp only [b_X5_multiply, c0, c1, c2, k_o0, k_a2, r2, r3, k_mo h_i, k_mo h_j, n51, n51', kIS, z_vB1, z_vB0, if_true, if_false, not_true_eq_false, not_false_eq_true, k_t_n, k_t_1, exists_eq, qS_nop, qS_seq, qS_set, qS_setJ, qS_if, qS_brk, qS_ret, qS_retV, qS_throw, qS_inc, qS_cl, qS_ast, qS_aop, qS_fst, qS_fop, qS_sw, qT_eC, qT_eCB, qT_eL, qT_eLJ, qT_eLR, qT_eLB, qT_e1, qT_e2, qT_bCmp, qT_bCmpJ, qT_bAnd, qT_bOr, qT_bNot, qT_eBI, qT_eIf, qT_eLd, qT_eLdR, qT_eLen, qT_eF, qT_eFR, qT_aN, qT_aS, qT_eCl, qT_eClR, qT_eClB, qT_some, qT_x, z_nx_N, z_nx_B, z_nx_R, z_nx_X, z_bk_N, z_bk_B, z_bk_R, z_bk_X, oAdd, oSub, oMul, oNeg, cLt, cLe, cGt, cGe, cEq, cNe, Option.some.injEq, Sum.inl.injEq, Sum.inr.injEq, Prod.mk.injEq, exists_eq_left, exists_eq_left', exists_eq_right, exists_and_left, reduceCtorEq, and_true, true_and, and_false, false_and, List.getElem?_cons_zero, List.getElem?_cons_succ, List.set_cons_zero, List.set_cons_succ, List.replicate, List.length_cons, List.length_nil, List.cons_append, List.nil_append, Nat.reduceAdd, Nat.reduceSub, decide_eq_true_eq, decide_eq_false_iff_not, Bool.true_eq_false, Bool.false_eq_true, true_implies, false_implies, implies_true, Nat.reduceLT, exists_const, z_vB_inj, and_assoc, z_in_iff, oI2L, oL2I, Int.toNat_natCast, z_toNat0, Bool.not_eq_true', Bool.not_eq_false', ne_eq, Bool.not_true, Bool.not_false, Nat.add_zero, Int.add_zero, z_sl_s]
      omega
    · obtain ⟨V, w1, w2, -⟩ := cm (k_u S 103 g) (k_u_n (by decide)) (k_u_n (by decide))
      rw [k_u_n (by decide), n89, n89', (z_dec_f _).mpr (fun w => Q (by have := w.1; omega))] at w1
      refine ⟨vI 0, k_t V 2, ?_, I.eq (fun a ha => ?_), ?_, Or.inr (Or.inr ⟨by decide, rfl, k_t_1⟩)⟩
      · unfold m_X6_multiply
        rw [k_v85]
        apply q_body
        have b6 : INF = 1000000 := rfl
        simp only [b_X6_multiply, r0, r1, rt2, w1, rf_can2, z_vB1, z_vB0, if_true, if_false, not_true_eq_false, not_false_eq_true, k_t_n, k_t_1, exists_eq, qS_nop, qS_seq, qS_set, qS_setJ, qS_if, qS_brk, qS_ret, qS_retV, qS_throw, qS_inc, qS_cl, qS_ast, qS_aop, qS_fst, qS_fop, qS_sw, qT_eC, qT_eCB, qT_eL, qT_eLJ, qT_eLR, qT_eLB, qT_e1, qT_e2, qT_bCmp, qT_bCmpJ, qT_bAnd, qT_bOr, qT_bNot, qT_eBI, qT_eIf, qT_eLd, qT_eLdR, qT_eLen, qT_eF, qT_eFR, qT_aN, qT_aS, qT_eCl, qT_eClR, qT_eClB, qT_some, qT_x, z_nx_N, z_nx_B, z_nx_R, z_nx_X, z_bk_N, z_bk_B, z_bk_R, z_bk_X, oAdd, oSub, oMul, oNeg, cLt, cLe, cGt, cGe, cEq, cNe, Option.some.injEq, Sum.inl.injEq, Sum.inr.injEq, Prod.mk.injEq, exists_eq_left, exists_eq_left', exists_eq_right, exists_and_left, reduceCtorEq, and_true, true_and, and_false, false_and, List.getElem?_cons_zero, List.getElem?_cons_succ, List.set_cons_zero, List.set_cons_succ, List.replicate, List.length_cons, List.length_nil, List.cons_append, List.nil_append, Nat.reduceAdd, Nat.reduceSub, decide_eq_true_eq, decide_eq_false_iff_not, Bool.true_eq_false, Bool.false_eq_true, true_implies, false_implies, implies_true, Nat.reduceLT, exists_const, z_vB_inj, and_assoc, z_in_iff, oI2L, oL2I, Int.toNat_natCast, z_toNat0, Bool.not_eq_true', Bool.not_eq_false', ne_eq, Bool.not_true, Bool.not_false, Nat.add_zero, Int.add_zero, z_sl_s]
      · rw [k_t_n (fun e => ha (by subst e; unfold kFree; omega)), w2 a (fun e => ha (by subst e; unfold kFree; omega)) (fun e => ha (by subst e; unfold kFree; omega)) (fun e => ha (by subst e; unfold kFree; omega)), k_u_n (fun e => ha (by subst e; unfold kFree; omega))]
      · rw [k_t_n (by decide), w2 _ (by decide) (by decide) (by decide), k_u_s]
  subst Q
  obtain ⟨p30, hp30, e30⟩ := I.2.2.2.2.1
  obtain ⟨h', x1, x2, x3⟩ := s_prodM (k_mat30 (S := S) e30) (k_mat (S := S) h_i n51) (k_mat (S := S) h_j n51') ⟨by omega, fun x y hx hy => by omega⟩ ⟨by omega, fun x y hx hy => by omega⟩ nb.2 nB nB'
  have x4 := k_back k_C30 k_C32 (by decide) (by decide) (by decide) x2 x3
  rw [x4] at x1
  obtain ⟨X, hX⟩ : ∃ X, X = k_mt S 30 32 n (fun x y => if x < n ∧ y < n then mMul (kF S (53 + 9 * i) 5) (kF S (53 + 9 * j) 5) n x y else kF S 32 5 x y) := ⟨_, rfl⟩
  rw [← hX] at x1
  have Xo : ∀ a, ¬ kFree a → ¬ (30 ≤ a ∧ a ≤ 43) → X a = S a := fun a h1 h2 => by rw [hX, k_mt_n (by omega) (by omega)]
  have X30 : X 30 0 = (n : Int) := by rw [hX, k_mt_o]
  have X51 : X (51 + 9 * l) 0 = (nt : Int) := by rw [Xo _ (by unfold kFree; omega) (by omega)]; exact n51t
  have XF : ∀ x y, x < 5 → kF X 32 5 x y = if x < n ∧ y < n then mMul (rM S i) (rM S j) n x y else kF S 32 5 x y := fun x y hx => by
    rw [kF_l hx, hX, k_mt_r (by omega) hx]
    by_cases c : x < n ∧ y < n
    · rw [if_pos c, if_pos c]
      exact mMul_cg (fun k hk => nE x k c.1 hk) (fun k hk => nE' k y hk c.2)
    · rw [if_neg c, if_neg c]
  have k5 : kI5 X := by
    refine ⟨⟨n, nb.2, X30⟩, ?_, fun x y hx hy => ?_, ?_⟩
    · rw [hX, k_mt_n (by omega) (by omega)]
      exact I.2.2.2.2.2.1
    · rw [XF x y hx]
      split
      · have w := mMul_b (Mb i h_i) (Mb j h_j) (by decide) (by decide) (n := n) (i := x) (j := y) (by omega) (by omega) (by omega)
        omega
      · exact I.2.2.2.2.2.2.1 x y hx hy
    · rw [kF_e (S := S) (fun x hx => by rw [hX, k_mt_n (by omega) (by omega)])]
      exact I.2.2.2.2.2.2.2
  have rc : ∀ k, k < 25 → rCo (rM S i) (rM S j) n k = if k / 5 < n ∧ k % 5 < n then kF X 32 5 (k / 5) (k % 5) else INF := fun k hk => by
    unfold rCo
    split
    · next c => rw [XF _ _ (by omega), if_pos c]
    · rfl
  have wi := mWi_25 nb.2 rc
  by_cases Q : mWi (kF X 32 5) n
  rotate_left
  · have kp := s_kp0 (t := l) nb X30 k5.b Q
    refine ⟨_, X, (?_ : _ = some (.inr kIS, k_W X)), fun g => ?_⟩
    · unfold m_X5_multiply
      rw [k_v0]
      apply q_body
      have b6 : INF = 1000000 := rfl
      simp only [b_X5_multiply, c0, c1, c2, k_o0, k_a2, r2, r3, k_mo h_i, k_mo h_j, n51, n51', x1, kp, z_vB1, z_vB0, if_true, if_false, not_true_eq_false, not_false_eq_true, k_t_n, k_t_1, exists_eq, qS_nop, qS_seq, qS_set, qS_setJ, qS_if, qS_brk, qS_ret, qS_retV, qS_throw, qS_inc, qS_cl, qS_ast, qS_aop, qS_fst, qS_fop, qS_sw, qT_eC, qT_eCB, qT_eL, qT_eLJ, qT_eLR, qT_eLB, qT_e1, qT_e2, qT_bCmp, qT_bCmpJ, qT_bAnd, qT_bOr, qT_bNot, qT_eBI, qT_eIf, qT_eLd, qT_eLdR, qT_eLen, qT_eF, qT_eFR, qT_aN, qT_aS, qT_eCl, qT_eClR, qT_eClB, qT_some, qT_x, z_nx_N, z_nx_B, z_nx_R, z_nx_X, z_bk_N, z_bk_B, z_bk_R, z_bk_X, oAdd, oSub, oMul, oNeg, cLt, cLe, cGt, cGe, cEq, cNe, Option.some.injEq, Sum.inl.injEq, Sum.inr.injEq, Prod.mk.injEq, exists_eq_left, exists_eq_left', exists_eq_right, exists_and_left, reduceCtorEq, and_true, true_and, and_false, false_and, List.getElem?_cons_zero, List.getElem?_cons_succ, List.set_cons_zero, List.set_cons_succ, List.replicate, List.length_cons, List.length_nil, List.cons_append, List.nil_append, Nat.reduceAdd, Nat.reduceSub, decide_eq_true_eq, decide_eq_false_iff_not, Bool.true_eq_false, Bool.false_eq_true, true_implies, false_implies, implies_true, Nat.reduceLT, exists_const, z_vB_inj, and_assoc, z_in_iff, oI2L, oL2I, Int.toNat_natCast, z_toNat0, Bool.not_eq_true', Bool.not_eq_false', ne_eq, Bool.not_true, Bool.not_false, Nat.add_zero, Int.add_zero, z_sl_s]
      omega
    · obtain ⟨V, w1, w2, -⟩ := cm (k_u X 103 g) (by rw [k_u_n (by decide), Xo 89 (by unfold kFree; omega) (by omega)]) (by rw [k_u_n (by decide), Xo 90 (by unfold kFree; omega) (by omega)])
      have e90 : (k_u X 103 g) 90 = S 90 := by rw [k_u_n (by decide), Xo 90 (by unfold kFree; omega) (by omega)]
      rw [rM_u e90, rM_u e90, (z_dec_f _).mpr (fun w => Q (wi.mp w.2))] at w1
      refine ⟨vI 0, k_t V 2, ?_, (kInv.d I Xo k5).eq (fun a ha => ?_), ?_, Or.inr (Or.inr ⟨by decide, rfl, k_t_1⟩)⟩
      · unfold m_X6_multiply
        rw [k_v85]
        apply q_body
        have b6 : INF = 1000000 := rfl
        simp only [b_X6_multiply, r0, r1, rt2, w1, rf_can2, z_vB1, z_vB0, if_true, if_false, not_true_eq_false, not_false_eq_true, k_t_n, k_t_1, exists_eq, qS_nop, qS_seq, qS_set, qS_setJ, qS_if, qS_brk, qS_ret, qS_retV, qS_throw, qS_inc, qS_cl, qS_ast, qS_aop, qS_fst, qS_fop, qS_sw, qT_eC, qT_eCB, qT_eL, qT_eLJ, qT_eLR, qT_eLB, qT_e1, qT_e2, qT_bCmp, qT_bCmpJ, qT_bAnd, qT_bOr, qT_bNot, qT_eBI, qT_eIf, qT_eLd, qT_eLdR, qT_eLen, qT_eF, qT_eFR, qT_aN, qT_aS, qT_eCl, qT_eClR, qT_eClB, qT_some, qT_x, z_nx_N, z_nx_B, z_nx_R, z_nx_X, z_bk_N, z_bk_B, z_bk_R, z_bk_X, oAdd, oSub, oMul, oNeg, cLt, cLe, cGt, cGe, cEq, cNe, Option.some.injEq, Sum.inl.injEq, Sum.inr.injEq, Prod.mk.injEq, exists_eq_left, exists_eq_left', exists_eq_right, exists_and_left, reduceCtorEq, and_true, true_and, and_false, false_and, List.getElem?_cons_zero, List.getElem?_cons_succ, List.set_cons_zero, List.set_cons_succ, List.replicate, List.length_cons, List.length_nil, List.cons_append, List.nil_append, Nat.reduceAdd, Nat.reduceSub, decide_eq_true_eq, decide_eq_false_iff_not, Bool.true_eq_false, Bool.false_eq_true, true_implies, false_implies, implies_true, Nat.reduceLT, exists_const, z_vB_inj, and_assoc, z_in_iff, oI2L, oL2I, Int.toNat_natCast, z_toNat0, Bool.not_eq_true', Bool.not_eq_false', ne_eq, Bool.not_true, Bool.not_false, Nat.add_zero, Int.add_zero, z_sl_s]
      · rw [k_t_n (fun e => ha (by subst e; unfold kFree; omega)), w2 a (fun e => ha (by subst e; unfold kFree; omega)) (fun e => ha (by subst e; unfold kFree; omega)) (fun e => ha (by subst e; unfold kFree; omega)), k_u_n (fun e => ha (by subst e; unfold kFree; omega))]
      · rw [k_t_n (by decide), w2 _ (by decide) (by decide) (by decide), k_u_s]
  have kp := s_kp1 (t := l) h_l nb X51 X30 k5.b Q
  refine ⟨_, kKp X l n, (?_ : _ = some (.inl (some (vI (mC (kF X 32 5) n n))), k_W (kKp X l n))), fun g => ?_⟩
  · unfold m_X5_multiply
    rw [k_v0]
    apply q_body
    have b6 : INF = 1000000 := rfl
    simp only [b_X5_multiply, c0, c1, c2, k_o0, k_a2, r2, r3, k_mo h_i, k_mo h_j, n51, n51', x1, kp, z_vB1, z_vB0, if_true, if_false, not_true_eq_false, not_false_eq_true, k_t_n, k_t_1, exists_eq, qS_nop, qS_seq, qS_set, qS_setJ, qS_if, qS_brk, qS_ret, qS_retV, qS_throw, qS_inc, qS_cl, qS_ast, qS_aop, qS_fst, qS_fop, qS_sw, qT_eC, qT_eCB, qT_eL, qT_eLJ, qT_eLR, qT_eLB, qT_e1, qT_e2, qT_bCmp, qT_bCmpJ, qT_bAnd, qT_bOr, qT_bNot, qT_eBI, qT_eIf, qT_eLd, qT_eLdR, qT_eLen, qT_eF, qT_eFR, qT_aN, qT_aS, qT_eCl, qT_eClR, qT_eClB, qT_some, qT_x, z_nx_N, z_nx_B, z_nx_R, z_nx_X, z_bk_N, z_bk_B, z_bk_R, z_bk_X, oAdd, oSub, oMul, oNeg, cLt, cLe, cGt, cGe, cEq, cNe, Option.some.injEq, Sum.inl.injEq, Sum.inr.injEq, Prod.mk.injEq, exists_eq_left, exists_eq_left', exists_eq_right, exists_and_left, reduceCtorEq, and_true, true_and, and_false, false_and, List.getElem?_cons_zero, List.getElem?_cons_succ, List.set_cons_zero, List.set_cons_succ, List.replicate, List.length_cons, List.length_nil, List.cons_append, List.nil_append, Nat.reduceAdd, Nat.reduceSub, decide_eq_true_eq, decide_eq_false_iff_not, Bool.true_eq_false, Bool.false_eq_true, true_implies, false_implies, implies_true, Nat.reduceLT, exists_const, z_vB_inj, and_assoc, z_in_iff, oI2L, oL2I, Int.toNat_natCast, z_toNat0, Bool.not_eq_true', Bool.not_eq_false', ne_eq, Bool.not_true, Bool.not_false, Nat.add_zero, Int.add_zero, z_sl_s]
    omega
  · have Y : ∀ a, 85 ≤ a → a ≠ 103 → k_u (kKp X l n) 103 g a = S a := fun a h1 h2 => by
      rw [k_u_n h2]
      unfold kKp
      rw [k_mt_n (by omega) (by omega), hX, k_mt_n (by omega) (by omega)]
    obtain ⟨V, w1, w2, w3⟩ := cm (k_u (kKp X l n) 103 g) (Y 89 (by decide) (by decide)) (Y 90 (by decide) (by decide))
    have e90 := Y 90 (by decide) (by decide)
    rw [rM_u e90, rM_u e90] at w1 w3
    rw [Y 89 (by decide) (by decide), (z_dec_iff _).mpr ⟨by omega, wi.mpr Q⟩] at w1
    have V93 : ∀ k, k < 25 → k_t V 0 93 k = if k / 5 < n ∧ k % 5 < n then kF X 32 5 (k / 5) (k % 5) else INF := fun k hk => by
      rw [k_t_n (by decide), w3 (by rw [Y 89 (by decide) (by decide)]; omega) k hk, rc k hk]
    have rk := rf_keep (V := k_t V 0) h_l nb Q V93
    have v89 : V 89 i = (n : Int) := by rw [w2 _ (by decide) (by decide) (by decide), Y 89 (by decide) (by decide)]; exact n89
    refine ⟨vI (mC (kF X 32 5) n n), kKr (k_t V 0) l n, ?_, I.keep h_l nb Xo k5 Q (fun a ha => ?_) V93, ?_, Or.inl ⟨rfl, ?_⟩⟩
    · unfold m_X6_multiply
      rw [k_v85]
      apply q_body
      have b6 : INF = 1000000 := rfl
      simp only [b_X6_multiply, r0, r1, rt2, w1, rf_can0, v89, rk, z_vB1, z_vB0, if_true, if_false, not_true_eq_false, not_false_eq_true, k_t_n, k_t_1, exists_eq, k_v85, k_o85, k_r0, k_r1, k_r2, k_r3, k_r4, k_r5, k_r6, k_r7, k_r8, k_r9, k_r10, k_r11, k_r12, k_r13, k_r14, k_r15, k_r16, k_r17, k_r18, k_rl, k_sc, k_st, k_a86, k_s86, k_a87, k_s87, k_a88, k_s88, k_a89, k_s89, k_a90, k_s90, k_a91, k_s91, k_a92, k_s92, k_a93, k_s93, k_a94, k_s94, k_a95, k_s95, k_a96, k_s96, k_a97, k_s97, k_a98, k_s98, k_a99, k_s99, k_a100, k_s100, k_a101, k_s101, k_a102, k_s102, k_u_s, k_u_n, k_u_u, Nat.reduceEqDiff, not_false_eq_true, qS_nop, qS_seq, qS_set, qS_setJ, qS_if, qS_brk, qS_ret, qS_retV, qS_throw, qS_inc, qS_cl, qS_ast, qS_aop, qS_fst, qS_fop, qS_sw, qT_eC, qT_eCB, qT_eL, qT_eLJ, qT_eLR, qT_eLB, qT_e1, qT_e2, qT_bCmp, qT_bCmpJ, qT_bAnd, qT_bOr, qT_bNot, qT_eBI, qT_eIf, qT_eLd, qT_eLdR, qT_eLen, qT_eF, qT_eFR, qT_aN, qT_aS, qT_eCl, qT_eClR, qT_eClB, qT_some, qT_x, z_nx_N, z_nx_B, z_nx_R, z_nx_X, z_bk_N, z_bk_B, z_bk_R, z_bk_X, oAdd, oSub, oMul, oNeg, cLt, cLe, cGt, cGe, cEq, cNe, Option.some.injEq, Sum.inl.injEq, Sum.inr.injEq, Prod.mk.injEq, exists_eq_left, exists_eq_left', exists_eq_right, exists_and_left, reduceCtorEq, and_true, true_and, and_false, false_and, List.getElem?_cons_zero, List.getElem?_cons_succ, List.set_cons_zero, List.set_cons_succ, List.replicate, List.length_cons, List.length_nil, List.cons_append, List.nil_append, Nat.reduceAdd, Nat.reduceSub, decide_eq_true_eq, decide_eq_false_iff_not, Bool.true_eq_false, Bool.false_eq_true, true_implies, false_implies, implies_true, Nat.reduceLT, exists_const, z_vB_inj, and_assoc, z_in_iff, oI2L, oL2I, Int.toNat_natCast, z_toNat0, Bool.not_eq_true', Bool.not_eq_false', ne_eq, Bool.not_true, Bool.not_false, Nat.add_zero, Int.add_zero, z_sl_s]
      omega
    · rw [k_t_n (fun e => ha (by subst e; unfold kFree; omega)), w2 a (fun e => ha (by subst e; unfold kFree; omega)) (fun e => ha (by subst e; unfold kFree; omega)) (fun e => ha (by subst e; unfold kFree; omega)), k_u_n (fun e => ha (by subst e; unfold kFree; omega))]
    · unfold kKr
      rw [k_u_n (by decide), k_u_n (by decide), k_t_n (by decide), w2 _ (by decide) (by decide) (by decide), k_u_s]
    · unfold kKr
      rw [k_u_n (by decide), k_u_n (by decide), k_t_1]
end FMu
