/-! THE FACE: project, both -/
section FPk
variable {S : Nat → Nat → Int}
theorem mNum_nn {M : Nat → Nat → Int} {n : Nat} (hn : 1 ≤ n) : (∀ k, k < n * n → M (k / n) (k % n) ≠ INF) ↔ ∀ x y, x < n → y < n → M x y ≠ INF := by
  constructor
  · intro q x y hx hy
    have w := q (n * x + y) (Nat.lt_of_lt_of_le (show n * x + y < n * (x + 1) by rw [Nat.mul_succ]; omega) (Nat.mul_le_mul_left n (by omega)))
    rw [Nat.mul_add_div (by omega), Nat.div_eq_of_lt hy, Nat.add_zero, Nat.mul_add_mod, Nat.mod_eq_of_lt hy] at w
    exact w
  · intro q k hk
    exact q _ _ (Nat.div_lt_of_lt_mul hk) (Nat.mod_lt _ (by omega))
theorem op_project (I : kInv S) {p : Int} {k : Int} {t : Int} (hp : kR p) (hk : kR k) (ht : kR t) : kOp m_X5_project m_X6_project kIO kIS [vI p, vI k, vI t] S := by
  have b6 : INF = 1000000 := rfl
  by_cases q0 : 0 ≤ p ∧ p ≤ 3
  rotate_left
  · have c0 := s_nH0 hp q0
    have r0 := rf_one0 hp q0
    refine kOp.x1 (r := vB false) (S1 := S) (S2 := fun g => k_t (k_u S 103 g) 1) ?_ (fun g => ?_) (fun g => I.t g 1) (fun g => k_t_103) (fun g => k_t_1)
    · unfold m_X5_project
      rw [k_v0]
      apply q_body
      have b6 : INF = 1000000 := rfl
      simp only [b_X5_project, c0, qS_nop, qS_seq, qS_set, qS_setJ, qS_if, qS_brk, qS_ret, qS_retV, qS_throw, qS_inc, qS_cl, qS_ast, qS_aop, qS_fst, qS_fop, qS_sw, qT_eC, qT_eCB, qT_eL, qT_eLJ, qT_eLR, qT_eLB, qT_e1, qT_e2, qT_bCmp, qT_bCmpJ, qT_bAnd, qT_bOr, qT_bNot, qT_eBI, qT_eIf, qT_eLd, qT_eLdR, qT_eLen, qT_eF, qT_eFR, qT_aN, qT_aS, qT_eCl, qT_eClR, qT_eClB, qT_some, qT_x, z_nx_N, z_nx_B, z_nx_R, z_nx_X, z_bk_N, z_bk_B, z_bk_R, z_bk_X, oAdd, oSub, oMul, oNeg, cLt, cLe, cGt, cGe, cEq, cNe, Option.some.injEq, Sum.inl.injEq, Sum.inr.injEq, Prod.mk.injEq, exists_eq_left, exists_eq_left', exists_eq_right, exists_and_left, reduceCtorEq, and_true, true_and, and_false, false_and, List.getElem?_cons_zero, List.getElem?_cons_succ, List.set_cons_zero, List.set_cons_succ, List.replicate, List.length_cons, List.length_nil, List.cons_append, List.nil_append, Nat.reduceAdd, Nat.reduceSub, decide_eq_true_eq, decide_eq_false_iff_not, Bool.true_eq_false, Bool.false_eq_true, true_implies, false_implies, implies_true, Nat.reduceLT, exists_const, z_vB_inj, and_assoc, z_in_iff, oI2L, oL2I, Int.toNat_natCast, z_toNat0, Bool.not_eq_true', Bool.not_eq_false', ne_eq, Bool.not_true, Bool.not_false, Nat.add_zero, Int.add_zero, z_sl_s]
    · unfold m_X6_project
      rw [k_v85]
      apply q_body
      have b6 : INF = 1000000 := rfl
      simp only [b_X6_project, r0, rf_can1, z_vB1, z_vB0, if_true, if_false, not_true_eq_false, not_false_eq_true, k_t_n, k_t_1, exists_eq, k_v85, k_o85, k_r0, k_r1, k_r2, k_r3, k_r4, k_r5, k_r6, k_r7, k_r8, k_r9, k_r10, k_r11, k_r12, k_r13, k_r14, k_r15, k_r16, k_r17, k_r18, k_rl, k_sc, k_st, k_a86, k_s86, k_a87, k_s87, k_a88, k_s88, k_a89, k_s89, k_a90, k_s90, k_a91, k_s91, k_a92, k_s92, k_a93, k_s93, k_a94, k_s94, k_a95, k_s95, k_a96, k_s96, k_a97, k_s97, k_a98, k_s98, k_a99, k_s99, k_a100, k_s100, k_a101, k_s101, k_a102, k_s102, k_u_s, k_u_n, k_u_u, Nat.reduceEqDiff, not_false_eq_true, qS_nop, qS_seq, qS_set, qS_setJ, qS_if, qS_brk, qS_ret, qS_retV, qS_throw, qS_inc, qS_cl, qS_ast, qS_aop, qS_fst, qS_fop, qS_sw, qT_eC, qT_eCB, qT_eL, qT_eLJ, qT_eLR, qT_eLB, qT_e1, qT_e2, qT_bCmp, qT_bCmpJ, qT_bAnd, qT_bOr, qT_bNot, qT_eBI, qT_eIf, qT_eLd, qT_eLdR, qT_eLen, qT_eF, qT_eFR, qT_aN, qT_aS, qT_eCl, qT_eClR, qT_eClB, qT_some, qT_x, z_nx_N, z_nx_B, z_nx_R, z_nx_X, z_bk_N, z_bk_B, z_bk_R, z_bk_X, oAdd, oSub, oMul, oNeg, cLt, cLe, cGt, cGe, cEq, cNe, Option.some.injEq, Sum.inl.injEq, Sum.inr.injEq, Prod.mk.injEq, exists_eq_left, exists_eq_left', exists_eq_right, exists_and_left, reduceCtorEq, and_true, true_and, and_false, false_and, List.getElem?_cons_zero, List.getElem?_cons_succ, List.set_cons_zero, List.set_cons_succ, List.replicate, List.length_cons, List.length_nil, List.cons_append, List.nil_append, Nat.reduceAdd, Nat.reduceSub, decide_eq_true_eq, decide_eq_false_iff_not, Bool.true_eq_false, Bool.false_eq_true, true_implies, false_implies, implies_true, Nat.reduceLT, exists_const, z_vB_inj, and_assoc, z_in_iff, oI2L, oL2I, Int.toNat_natCast, z_toNat0, Bool.not_eq_true', Bool.not_eq_false', ne_eq, Bool.not_true, Bool.not_false, Nat.add_zero, Int.add_zero, z_sl_s]
  by_cases q1 : 0 ≤ k ∧ k ≤ 3
  rotate_left
  · have c0 := s_nH1 (i := p) q0
    have r0 := rf_one1 (i := p) q0
    have c1 := s_nH0 hk q1
    have r1 := rf_one0 hk q1
    refine kOp.x1 (r := vB false) (S1 := S) (S2 := fun g => k_t (k_u S 103 g) 1) ?_ (fun g => ?_) (fun g => I.t g 1) (fun g => k_t_103) (fun g => k_t_1)
    · unfold m_X5_project
      rw [k_v0]
      apply q_body
      have b6 : INF = 1000000 := rfl
      simp only [b_X5_project, c0, c1, qS_nop, qS_seq, qS_set, qS_setJ, qS_if, qS_brk, qS_ret, qS_retV, qS_throw, qS_inc, qS_cl, qS_ast, qS_aop, qS_fst, qS_fop, qS_sw, qT_eC, qT_eCB, qT_eL, qT_eLJ, qT_eLR, qT_eLB, qT_e1, qT_e2, qT_bCmp, qT_bCmpJ, qT_bAnd, qT_bOr, qT_bNot, qT_eBI, qT_eIf, qT_eLd, qT_eLdR, qT_eLen, qT_eF, qT_eFR, qT_aN, qT_aS, qT_eCl, qT_eClR, qT_eClB, qT_some, qT_x, z_nx_N, z_nx_B, z_nx_R, z_nx_X, z_bk_N, z_bk_B, z_bk_R, z_bk_X, oAdd, oSub, oMul, oNeg, cLt, cLe, cGt, cGe, cEq, cNe, Option.some.injEq, Sum.inl.injEq, Sum.inr.injEq, Prod.mk.injEq, exists_eq_left, exists_eq_left', exists_eq_right, exists_and_left, reduceCtorEq, and_true, true_and, and_false, false_and, List.getElem?_cons_zero, List.getElem?_cons_succ, List.set_cons_zero, List.set_cons_succ, List.replicate, List.length_cons, List.length_nil, List.cons_append, List.nil_append, Nat.reduceAdd, Nat.reduceSub, decide_eq_true_eq, decide_eq_false_iff_not, Bool.true_eq_false, Bool.false_eq_true, true_implies, false_implies, implies_true, Nat.reduceLT, exists_const, z_vB_inj, and_assoc, z_in_iff, oI2L, oL2I, Int.toNat_natCast, z_toNat0, Bool.not_eq_true', Bool.not_eq_false', ne_eq, Bool.not_true, Bool.not_false, Nat.add_zero, Int.add_zero, z_sl_s]
    · unfold m_X6_project
      rw [k_v85]
      apply q_body
      have b6 : INF = 1000000 := rfl
      simp only [b_X6_project, r0, r1, rf_can1, z_vB1, z_vB0, if_true, if_false, not_true_eq_false, not_false_eq_true, k_t_n, k_t_1, exists_eq, k_v85, k_o85, k_r0, k_r1, k_r2, k_r3, k_r4, k_r5, k_r6, k_r7, k_r8, k_r9, k_r10, k_r11, k_r12, k_r13, k_r14, k_r15, k_r16, k_r17, k_r18, k_rl, k_sc, k_st, k_a86, k_s86, k_a87, k_s87, k_a88, k_s88, k_a89, k_s89, k_a90, k_s90, k_a91, k_s91, k_a92, k_s92, k_a93, k_s93, k_a94, k_s94, k_a95, k_s95, k_a96, k_s96, k_a97, k_s97, k_a98, k_s98, k_a99, k_s99, k_a100, k_s100, k_a101, k_s101, k_a102, k_s102, k_u_s, k_u_n, k_u_u, Nat.reduceEqDiff, not_false_eq_true, qS_nop, qS_seq, qS_set, qS_setJ, qS_if, qS_brk, qS_ret, qS_retV, qS_throw, qS_inc, qS_cl, qS_ast, qS_aop, qS_fst, qS_fop, qS_sw, qT_eC, qT_eCB, qT_eL, qT_eLJ, qT_eLR, qT_eLB, qT_e1, qT_e2, qT_bCmp, qT_bCmpJ, qT_bAnd, qT_bOr, qT_bNot, qT_eBI, qT_eIf, qT_eLd, qT_eLdR, qT_eLen, qT_eF, qT_eFR, qT_aN, qT_aS, qT_eCl, qT_eClR, qT_eClB, qT_some, qT_x, z_nx_N, z_nx_B, z_nx_R, z_nx_X, z_bk_N, z_bk_B, z_bk_R, z_bk_X, oAdd, oSub, oMul, oNeg, cLt, cLe, cGt, cGe, cEq, cNe, Option.some.injEq, Sum.inl.injEq, Sum.inr.injEq, Prod.mk.injEq, exists_eq_left, exists_eq_left', exists_eq_right, exists_and_left, reduceCtorEq, and_true, true_and, and_false, false_and, List.getElem?_cons_zero, List.getElem?_cons_succ, List.set_cons_zero, List.set_cons_succ, List.replicate, List.length_cons, List.length_nil, List.cons_append, List.nil_append, Nat.reduceAdd, Nat.reduceSub, decide_eq_true_eq, decide_eq_false_iff_not, Bool.true_eq_false, Bool.false_eq_true, true_implies, false_implies, implies_true, Nat.reduceLT, exists_const, z_vB_inj, and_assoc, z_in_iff, oI2L, oL2I, Int.toNat_natCast, z_toNat0, Bool.not_eq_true', Bool.not_eq_false', ne_eq, Bool.not_true, Bool.not_false, Nat.add_zero, Int.add_zero, z_sl_s]
  by_cases q2 : 0 ≤ t ∧ t ≤ 3
  rotate_left
  · have c0 := s_nH1 (i := p) q0
    have r0 := rf_one1 (i := p) q0
    have c1 := s_nH1 (i := k) q1
    have r1 := rf_one1 (i := k) q1
    have c2 := s_nH0 ht q2
    have r2 := rf_one0 ht q2
    refine kOp.x1 (r := vB false) (S1 := S) (S2 := fun g => k_t (k_u S 103 g) 1) ?_ (fun g => ?_) (fun g => I.t g 1) (fun g => k_t_103) (fun g => k_t_1)
    · unfold m_X5_project
      rw [k_v0]
      apply q_body
      have b6 : INF = 1000000 := rfl
      simp only [b_X5_project, c0, c1, c2, qS_nop, qS_seq, qS_set, qS_setJ, qS_if, qS_brk, qS_ret, qS_retV, qS_throw, qS_inc, qS_cl, qS_ast, qS_aop, qS_fst, qS_fop, qS_sw, qT_eC, qT_eCB, qT_eL, qT_eLJ, qT_eLR, qT_eLB, qT_e1, qT_e2, qT_bCmp, qT_bCmpJ, qT_bAnd, qT_bOr, qT_bNot, qT_eBI, qT_eIf, qT_eLd, qT_eLdR, qT_eLen, qT_eF, qT_eFR, qT_aN, qT_aS, qT_eCl, qT_eClR, qT_eClB, qT_some, qT_x, z_nx_N, z_nx_B, z_nx_R, z_nx_X, z_bk_N, z_bk_B, z_bk_R, z_bk_X, oAdd, oSub, oMul, oNeg, cLt, cLe, cGt, cGe, cEq, cNe, Option.some.injEq, Sum.inl.injEq, Sum.inr.injEq, Prod.mk.injEq, exists_eq_left, exists_eq_left', exists_eq_right, exists_and_left, reduceCtorEq, and_true, true_and, and_false, false_and, List.getElem?_cons_zero, List.getElem?_cons_succ, List.set_cons_zero, List.set_cons_succ, List.replicate, List.length_cons, List.length_nil, List.cons_append, List.nil_append, Nat.reduceAdd, Nat.reduceSub, decide_eq_true_eq, decide_eq_false_iff_not, Bool.true_eq_false, Bool.false_eq_true, true_implies, false_implies, implies_true, Nat.reduceLT, exists_const, z_vB_inj, and_assoc, z_in_iff, oI2L, oL2I, Int.toNat_natCast, z_toNat0, Bool.not_eq_true', Bool.not_eq_false', ne_eq, Bool.not_true, Bool.not_false, Nat.add_zero, Int.add_zero, z_sl_s]
    · unfold m_X6_project
      rw [k_v85]
      apply q_body
      have b6 : INF = 1000000 := rfl
      simp only [b_X6_project, r0, r1, r2, rf_can1, z_vB1, z_vB0, if_true, if_false, not_true_eq_false, not_false_eq_true, k_t_n, k_t_1, exists_eq, k_v85, k_o85, k_r0, k_r1, k_r2, k_r3, k_r4, k_r5, k_r6, k_r7, k_r8, k_r9, k_r10, k_r11, k_r12, k_r13, k_r14, k_r15, k_r16, k_r17, k_r18, k_rl, k_sc, k_st, k_a86, k_s86, k_a87, k_s87, k_a88, k_s88, k_a89, k_s89, k_a90, k_s90, k_a91, k_s91, k_a92, k_s92, k_a93, k_s93, k_a94, k_s94, k_a95, k_s95, k_a96, k_s96, k_a97, k_s97, k_a98, k_s98, k_a99, k_s99, k_a100, k_s100, k_a101, k_s101, k_a102, k_s102, k_u_s, k_u_n, k_u_u, Nat.reduceEqDiff, not_false_eq_true, qS_nop, qS_seq, qS_set, qS_setJ, qS_if, qS_brk, qS_ret, qS_retV, qS_throw, qS_inc, qS_cl, qS_ast, qS_aop, qS_fst, qS_fop, qS_sw, qT_eC, qT_eCB, qT_eL, qT_eLJ, qT_eLR, qT_eLB, qT_e1, qT_e2, qT_bCmp, qT_bCmpJ, qT_bAnd, qT_bOr, qT_bNot, qT_eBI, qT_eIf, qT_eLd, qT_eLdR, qT_eLen, qT_eF, qT_eFR, qT_aN, qT_aS, qT_eCl, qT_eClR, qT_eClB, qT_some, qT_x, z_nx_N, z_nx_B, z_nx_R, z_nx_X, z_bk_N, z_bk_B, z_bk_R, z_bk_X, oAdd, oSub, oMul, oNeg, cLt, cLe, cGt, cGe, cEq, cNe, Option.some.injEq, Sum.inl.injEq, Sum.inr.injEq, Prod.mk.injEq, exists_eq_left, exists_eq_left', exists_eq_right, exists_and_left, reduceCtorEq, and_true, true_and, and_false, false_and, List.getElem?_cons_zero, List.getElem?_cons_succ, List.set_cons_zero, List.set_cons_succ, List.replicate, List.length_cons, List.length_nil, List.cons_append, List.nil_append, Nat.reduceAdd, Nat.reduceSub, decide_eq_true_eq, decide_eq_false_iff_not, Bool.true_eq_false, Bool.false_eq_true, true_implies, false_implies, implies_true, Nat.reduceLT, exists_const, z_vB_inj, and_assoc, z_in_iff, oI2L, oL2I, Int.toNat_natCast, z_toNat0, Bool.not_eq_true', Bool.not_eq_false', ne_eq, Bool.not_true, Bool.not_false, Nat.add_zero, Int.add_zero, z_sl_s]
  have c0 := s_nH1 (i := p) q0
  have r0 := rf_one1 (i := p) q0
  have c1 := s_nH1 (i := k) q1
  have r1 := rf_one1 (i := k) q1
  have c2 := s_nH1 (i := t) q2
  have r2 := rf_one1 (i := t) q2
  obtain ⟨i, rfl⟩ : ∃ i : Nat, p = i := ⟨p.toNat, by omega⟩
  have h_i : i < 4 := by omega
  obtain ⟨j, rfl⟩ : ∃ j : Nat, k = j := ⟨k.toNat, by omega⟩
  have h_j : j < 4 := by omega
  obtain ⟨l, rfl⟩ : ∃ l : Nat, t = l := ⟨t.toNat, by omega⟩
  have h_l : l < 4 := by omega
  have rt2 := r2
  obtain ⟨n, nb, n51, n89, nB, nE, nW, nN⟩ := I.mm h_i
  have r3 := k_2r h_i
  have r4 := k_3r h_j
  have r5 := k_3r h_l
  have ve : ∀ k, k < 5 → rV S j k = S (4 + j) k := fun k hk => (I.2.2.1 j h_j k hk).1
  have hNu := s_hasNumbers (k_vc (S := S) h_j) (n := n) nb.2 (I.vb h_j).up
  have hNa := s_hasNumbersAlone (k_mat (S := S) h_i n51) nb.2 nB
  have vl : ∀ k, k < 5 → rV S j k = INF ∨ (-99999 ≤ rV S j k ∧ rV S j k ≤ 99999) := fun k hk => (I.2.2.1 j h_j k hk).2
  have cs := fun (T : Nat → Nat → Int) (e89 : T 89 = S 89) (e90 : T 90 = S 90) (e94 : T 94 = S 94) => rf_canProject (S := T) (n := n) h_i h_j nb (by rw [e89]; exact n89) (by rw [rM_u e90]; exact I.mb h_i) (by rw [rM_u e90]; exact nW) (by rw [rV_u e94]; exact vl)
  have nq : ((∀ k, k < n → rV S j k ≠ INF) ∧ ∀ k, k < n * n → rM S i (k / n) (k % n) ≠ INF) ↔ mNum (kF S (53 + 9 * i) 5) n ∧ ∀ k, k < n → S (4 + j) k ≠ INF := by
    rw [mNum_nn nb.1]
    constructor
    · rintro ⟨q1, q2⟩
      exact ⟨fun x y hx hy => by rw [nE x y hx hy]; exact q2 x y hx hy, fun k hk => by rw [← ve k (by omega)]; exact q1 k hk⟩
    · rintro ⟨q1, q2⟩
      exact ⟨fun k hk => by rw [ve k (by omega)]; exact q2 k hk, fun x y hx hy => by rw [← nE x y hx hy]; exact q1 x y hx hy⟩
  by_cases QQ : mNum (kF S (53 + 9 * i) 5) n ∧ ∀ k, k < n → S (4 + j) k ≠ INF
  rotate_left
  · refine ⟨_, S, (?_ : _ = some (.inr kIS, k_W S)), fun g => ?_⟩
    · by_cases QA : mNum (kF S (53 + 9 * i) 5) n
      · rw [(z_dec_iff _).mpr QA] at hNa
        rw [(z_dec_f _).mpr (fun w => QQ ⟨QA, w⟩)] at hNu
        unfold m_X5_project
        rw [k_v0]
        apply q_body
        have b6 : INF = 1000000 := rfl
        simp only [b_X5_project, c0, c1, c2, k_o0, k_a2, k_a3, r3, r4, k_mo h_i, n51, hNa, hNu, kIS, z_vB1, z_vB0, if_true, if_false, not_true_eq_false, not_false_eq_true, k_t_n, k_t_1, exists_eq, qS_nop, qS_seq, qS_set, qS_setJ, qS_if, qS_brk, qS_ret, qS_retV, qS_throw, qS_inc, qS_cl, qS_ast, qS_aop, qS_fst, qS_fop, qS_sw, qT_eC, qT_eCB, qT_eL, qT_eLJ, qT_eLR, qT_eLB, qT_e1, qT_e2, qT_bCmp, qT_bCmpJ, qT_bAnd, qT_bOr, qT_bNot, qT_eBI, qT_eIf, qT_eLd, qT_eLdR, qT_eLen, qT_eF, qT_eFR, qT_aN, qT_aS, qT_eCl, qT_eClR, qT_eClB, qT_some, qT_x, z_nx_N, z_nx_B, z_nx_R, z_nx_X, z_bk_N, z_bk_B, z_bk_R, z_bk_X, oAdd, oSub, oMul, oNeg, cLt, cLe, cGt, cGe, cEq, cNe, Option.some.injEq, Sum.inl.injEq, Sum.inr.injEq, Prod.mk.injEq, exists_eq_left, exists_eq_left', exists_eq_right, exists_and_left, reduceCtorEq, and_true, true_and, and_false, false_and, List.getElem?_cons_zero, List.getElem?_cons_succ, List.set_cons_zero, List.set_cons_succ, List.replicate, List.length_cons, List.length_nil, List.cons_append, List.nil_append, Nat.reduceAdd, Nat.reduceSub, decide_eq_true_eq, decide_eq_false_iff_not, Bool.true_eq_false, Bool.false_eq_true, true_implies, false_implies, implies_true, Nat.reduceLT, exists_const, z_vB_inj, and_assoc, z_in_iff, oI2L, oL2I, Int.toNat_natCast, z_toNat0, Bool.not_eq_true', Bool.not_eq_false', ne_eq, Bool.not_true, Bool.not_false, Nat.add_zero, Int.add_zero, z_sl_s]
        omega
      · rw [(z_dec_f _).mpr QA] at hNa
        unfold m_X5_project
        rw [k_v0]
        apply q_body
        have b6 : INF = 1000000 := rfl
        simp only [b_X5_project, c0, c1, c2, k_o0, k_a2, k_a3, r3, r4, k_mo h_i, n51, hNa, kIS, z_vB1, z_vB0, if_true, if_false, not_true_eq_false, not_false_eq_true, k_t_n, k_t_1, exists_eq, qS_nop, qS_seq, qS_set, qS_setJ, qS_if, qS_brk, qS_ret, qS_retV, qS_throw, qS_inc, qS_cl, qS_ast, qS_aop, qS_fst, qS_fop, qS_sw, qT_eC, qT_eCB, qT_eL, qT_eLJ, qT_eLR, qT_eLB, qT_e1, qT_e2, qT_bCmp, qT_bCmpJ, qT_bAnd, qT_bOr, qT_bNot, qT_eBI, qT_eIf, qT_eLd, qT_eLdR, qT_eLen, qT_eF, qT_eFR, qT_aN, qT_aS, qT_eCl, qT_eClR, qT_eClB, qT_some, qT_x, z_nx_N, z_nx_B, z_nx_R, z_nx_X, z_bk_N, z_bk_B, z_bk_R, z_bk_X, oAdd, oSub, oMul, oNeg, cLt, cLe, cGt, cGe, cEq, cNe, Option.some.injEq, Sum.inl.injEq, Sum.inr.injEq, Prod.mk.injEq, exists_eq_left, exists_eq_left', exists_eq_right, exists_and_left, reduceCtorEq, and_true, true_and, and_false, false_and, List.getElem?_cons_zero, List.getElem?_cons_succ, List.set_cons_zero, List.set_cons_succ, List.replicate, List.length_cons, List.length_nil, List.cons_append, List.nil_append, Nat.reduceAdd, Nat.reduceSub, decide_eq_true_eq, decide_eq_false_iff_not, Bool.true_eq_false, Bool.false_eq_true, true_implies, false_implies, implies_true, Nat.reduceLT, exists_const, z_vB_inj, and_assoc, z_in_iff, oI2L, oL2I, Int.toNat_natCast, z_toNat0, Bool.not_eq_true', Bool.not_eq_false', ne_eq, Bool.not_true, Bool.not_false, Nat.add_zero, Int.add_zero, z_sl_s]
        omega
    · obtain ⟨G, w1, -⟩ := cs (k_u S 103 g) (k_u_n (by decide)) (k_u_n (by decide)) (k_u_n (by decide))
      have e94 : (k_u S 103 g) 94 = S 94 := k_u_n (by decide)
      have e90 : (k_u S 103 g) 90 = S 90 := k_u_n (by decide)
      rw [rV_u e94, rM_u e90, (z_dec_f _).mpr (fun w => QQ (nq.mp w.1))] at w1
      refine ⟨vB false, k_t (k_u (k_u S 103 g) 95 G) 2, ?_, I.eq (fun a ha => ?_), ?_, Or.inr (Or.inr ⟨by decide, rfl, k_t_1⟩)⟩
      · unfold m_X6_project
        rw [k_v85]
        apply q_body
        have b6 : INF = 1000000 := rfl
        simp only [b_X6_project, r0, r1, rt2, w1, rf_can2, z_vB1, z_vB0, if_true, if_false, not_true_eq_false, not_false_eq_true, k_t_n, k_t_1, exists_eq, qS_nop, qS_seq, qS_set, qS_setJ, qS_if, qS_brk, qS_ret, qS_retV, qS_throw, qS_inc, qS_cl, qS_ast, qS_aop, qS_fst, qS_fop, qS_sw, qT_eC, qT_eCB, qT_eL, qT_eLJ, qT_eLR, qT_eLB, qT_e1, qT_e2, qT_bCmp, qT_bCmpJ, qT_bAnd, qT_bOr, qT_bNot, qT_eBI, qT_eIf, qT_eLd, qT_eLdR, qT_eLen, qT_eF, qT_eFR, qT_aN, qT_aS, qT_eCl, qT_eClR, qT_eClB, qT_some, qT_x, z_nx_N, z_nx_B, z_nx_R, z_nx_X, z_bk_N, z_bk_B, z_bk_R, z_bk_X, oAdd, oSub, oMul, oNeg, cLt, cLe, cGt, cGe, cEq, cNe, Option.some.injEq, Sum.inl.injEq, Sum.inr.injEq, Prod.mk.injEq, exists_eq_left, exists_eq_left', exists_eq_right, exists_and_left, reduceCtorEq, and_true, true_and, and_false, false_and, List.getElem?_cons_zero, List.getElem?_cons_succ, List.set_cons_zero, List.set_cons_succ, List.replicate, List.length_cons, List.length_nil, List.cons_append, List.nil_append, Nat.reduceAdd, Nat.reduceSub, decide_eq_true_eq, decide_eq_false_iff_not, Bool.true_eq_false, Bool.false_eq_true, true_implies, false_implies, implies_true, Nat.reduceLT, exists_const, z_vB_inj, and_assoc, z_in_iff, oI2L, oL2I, Int.toNat_natCast, z_toNat0, Bool.not_eq_true', Bool.not_eq_false', ne_eq, Bool.not_true, Bool.not_false, Nat.add_zero, Int.add_zero, z_sl_s]
      · rw [k_t_n (fun e => ha (by subst e; unfold kFree; omega)), k_u_n (fun e => ha (by subst e; unfold kFree; omega)), k_u_n (fun e => ha (by subst e; unfold kFree; omega))]
      · rw [k_t_n (by decide), k_u_n (by decide), k_u_s]
  obtain ⟨QA, Q⟩ := QQ
  have nq' := nq.mpr ⟨QA, Q⟩
  rw [(z_dec_iff _).mpr QA] at hNa
  have nM : ∀ x y, x < n → y < n → -99999 ≤ rM S i x y ∧ rM S i x y ≤ 99999 := fun x y hx hy => by
    have w1 := QA x y hx hy
    rw [nE x y hx hy] at w1
    have := nW x y hx hy
    omega
  have nV : ∀ y, y < n → -99999 ≤ rV S j y ∧ rV S j y ≤ 99999 := fun y hy => by
    have w1 := Q y hy
    rw [← ve y (by omega)] at w1
    have := vl y (by omega)
    omega
  rw [(z_dec_iff _).mpr Q] at hNu
  have ps := s_putProjection (k_mat (S := S) h_i n51) nb nB (k_vc (S := S) h_j) (w := 44) (W := S 44) (k_get (by decide)) (by omega) (by unfold mRow; omega) (I.vb h_j).up
  have s44 : ∀ g, (k_W S).set 44 (.inr (0, 5, g)) = k_W (k_u S 44 g) := fun g => k_set rfl
  rw [s44] at ps
  obtain ⟨F, hF⟩ : ∃ F, F = fun k => if k < n then mPr (kF S (53 + 9 * i) 5) (S (4 + j)) n k n else S 44 k := ⟨_, rfl⟩
  rw [← hF] at ps
  have Fe : ∀ k, k < n → F k = mPr (rM S i) (rV S j) n k n := fun k hk => by
    rw [hF]
    simp only [hk, if_true]
    exact mPr_cg nb.1 hk (fun x y hx hy => nE x y hx hy) (fun y hy => (ve y (by omega)).symm) n (Nat.le_refl n)
  have Fb : ∀ k, k < n → -1000000000 ≤ F k ∧ F k ≤ 1000000 := fun k hk => by
    rw [Fe k hk]
    have := mPr_b2 nb.1 hk nM nV n (Nat.le_refl n)
    omega
  obtain ⟨X, hX⟩ : ∃ X, X = k_u S 44 F := ⟨_, rfl⟩
  rw [← hX] at ps
  have Xo : ∀ a, a ≠ 44 → X a = S a := fun a h1 => by rw [hX, k_u_n h1]
  have X44 : X 44 = F := by rw [hX, k_u_s]
  have np := s_needParts2 (h := k_W X) (v := 44) (V := F) (by rw [← X44]; exact k_get (by decide)) (n := n) nb.2 (fun k hk => by have := Fb k hk; omega)
  by_cases L : ∀ k, k < n → ¬ (F k ≠ INF ∧ (F k < -99999 ∨ 99999 < F k))
  rotate_left
  · rw [(z_dec_f _).mpr L, if_neg Bool.false_ne_true] at np
    refine ⟨_, X, (?_ : _ = some (.inr kIS, k_W X)), fun g => ?_⟩
    · unfold m_X5_project
      rw [k_v0]
      apply q_body
      have b6 : INF = 1000000 := rfl
      have y3 : (k_W X)[3]? = (k_W S)[3]? := rfl
      have y51 : X (51 + 9 * i) = S (51 + 9 * i) := Xo _ (by omega)
      simp only [b_X5_project, c0, c1, c2, k_o0, k_a2, k_a3, r3, r4, k_mo h_i, y51, n51, hNa, hNu, ps, np, kIS, z_vB1, z_vB0, if_true, if_false, not_true_eq_false, not_false_eq_true, k_t_n, k_t_1, exists_eq, qS_nop, qS_seq, qS_set, qS_setJ, qS_if, qS_brk, qS_ret, qS_retV, qS_throw, qS_inc, qS_cl, qS_ast, qS_aop, qS_fst, qS_fop, qS_sw, qT_eC, qT_eCB, qT_eL, qT_eLJ, qT_eLR, qT_eLB, qT_e1, qT_e2, qT_bCmp, qT_bCmpJ, qT_bAnd, qT_bOr, qT_bNot, qT_eBI, qT_eIf, qT_eLd, qT_eLdR, qT_eLen, qT_eF, qT_eFR, qT_aN, qT_aS, qT_eCl, qT_eClR, qT_eClB, qT_some, qT_x, z_nx_N, z_nx_B, z_nx_R, z_nx_X, z_bk_N, z_bk_B, z_bk_R, z_bk_X, oAdd, oSub, oMul, oNeg, cLt, cLe, cGt, cGe, cEq, cNe, Option.some.injEq, Sum.inl.injEq, Sum.inr.injEq, Prod.mk.injEq, exists_eq_left, exists_eq_left', exists_eq_right, exists_and_left, reduceCtorEq, and_true, true_and, and_false, false_and, List.getElem?_cons_zero, List.getElem?_cons_succ, List.set_cons_zero, List.set_cons_succ, List.replicate, List.length_cons, List.length_nil, List.cons_append, List.nil_append, Nat.reduceAdd, Nat.reduceSub, decide_eq_true_eq, decide_eq_false_iff_not, Bool.true_eq_false, Bool.false_eq_true, true_implies, false_implies, implies_true, Nat.reduceLT, exists_const, z_vB_inj, and_assoc, z_in_iff, oI2L, oL2I, Int.toNat_natCast, z_toNat0, Bool.not_eq_true', Bool.not_eq_false', ne_eq, Bool.not_true, Bool.not_false, Nat.add_zero, Int.add_zero, z_sl_s]
      omega
    · have e90 : (k_u X 103 g) 90 = S 90 := by rw [k_u_n (by decide), Xo _ (by decide)]
      have e94 : (k_u X 103 g) 94 = S 94 := by rw [k_u_n (by decide), Xo _ (by decide)]
      obtain ⟨G, w1, -⟩ := cs (k_u X 103 g) (by rw [k_u_n (by decide), Xo _ (by decide)]) e90 e94
      rw [rV_u e94, rM_u e90, (z_dec_f _).mpr (fun w => L (fun k hk => by have := w.2 k hk; rw [← Fe k hk] at this; exact this))] at w1
      refine ⟨vB false, k_t (k_u (k_u X 103 g) 95 G) 2, ?_, I.eq (fun a ha => ?_), ?_, Or.inr (Or.inr ⟨by decide, rfl, k_t_1⟩)⟩
      · unfold m_X6_project
        rw [k_v85]
        apply q_body
        have b6 : INF = 1000000 := rfl
        simp only [b_X6_project, r0, r1, rt2, w1, rf_can2, z_vB1, z_vB0, if_true, if_false, not_true_eq_false, not_false_eq_true, k_t_n, k_t_1, exists_eq, qS_nop, qS_seq, qS_set, qS_setJ, qS_if, qS_brk, qS_ret, qS_retV, qS_throw, qS_inc, qS_cl, qS_ast, qS_aop, qS_fst, qS_fop, qS_sw, qT_eC, qT_eCB, qT_eL, qT_eLJ, qT_eLR, qT_eLB, qT_e1, qT_e2, qT_bCmp, qT_bCmpJ, qT_bAnd, qT_bOr, qT_bNot, qT_eBI, qT_eIf, qT_eLd, qT_eLdR, qT_eLen, qT_eF, qT_eFR, qT_aN, qT_aS, qT_eCl, qT_eClR, qT_eClB, qT_some, qT_x, z_nx_N, z_nx_B, z_nx_R, z_nx_X, z_bk_N, z_bk_B, z_bk_R, z_bk_X, oAdd, oSub, oMul, oNeg, cLt, cLe, cGt, cGe, cEq, cNe, Option.some.injEq, Sum.inl.injEq, Sum.inr.injEq, Prod.mk.injEq, exists_eq_left, exists_eq_left', exists_eq_right, exists_and_left, reduceCtorEq, and_true, true_and, and_false, false_and, List.getElem?_cons_zero, List.getElem?_cons_succ, List.set_cons_zero, List.set_cons_succ, List.replicate, List.length_cons, List.length_nil, List.cons_append, List.nil_append, Nat.reduceAdd, Nat.reduceSub, decide_eq_true_eq, decide_eq_false_iff_not, Bool.true_eq_false, Bool.false_eq_true, true_implies, false_implies, implies_true, Nat.reduceLT, exists_const, z_vB_inj, and_assoc, z_in_iff, oI2L, oL2I, Int.toNat_natCast, z_toNat0, Bool.not_eq_true', Bool.not_eq_false', ne_eq, Bool.not_true, Bool.not_false, Nat.add_zero, Int.add_zero, z_sl_s]
      · rw [k_t_n (fun e => ha (by subst e; unfold kFree; omega)), k_u_n (fun e => ha (by subst e; unfold kFree; omega)), k_u_n (fun e => ha (by subst e; unfold kFree; omega)), Xo a (fun e => ha (by subst e; unfold kFree; omega))]
      · rw [k_t_n (by decide), k_u_n (by decide), k_u_s]
  rw [(z_dec_iff _).mpr L, if_pos rfl] at np
  have X4 : X (4 + j) = S (4 + j) := Xo _ (by omega)
  have al := s_areAlike2 (h := k_W X) (v := 44) (w := 4 + j) (V := F) (W := X (4 + j)) (by rw [← X44]; exact k_get (by decide)) (k_vc (S := X) h_j) (n := n) nb.2 (fun k hk => by have := Fb k hk; omega) (fun k hk => by rw [X4]; have := I.vb h_j k (by omega); omega)
  have cp := s_copy (h := k_W X) (a := 44) (b := 4 + l) (f := F) (g := X (4 + l)) (by rw [← X44]; exact k_get (by decide)) (k_vc (S := X) h_l) (by decide) (by decide) (sp := 0) (dp := 0) (n := (n : Int)) (by decide) (by decide) (by omega) (by omega) (by omega)
  rw [k_vs h_l] at cp
  obtain ⟨C, hC⟩ : ∃ C, C = z_cp F (X (4 + l)) (0 : Int).toNat (0 : Int).toNat ((n : Int)).toNat := ⟨_, rfl⟩
  rw [← hC] at cp
  have Ce : ∀ k, C k = if k < n then F k else S (4 + l) k := fun k => by
    rw [hC]
    unfold z_cp
    rw [Int.toNat_natCast, z_toNat0, Nat.zero_add, Xo _ (by omega)]
    simp
  obtain ⟨Y, hY⟩ : ∃ Y, Y = k_u X (4 + l) C := ⟨_, rfl⟩
  rw [← hY] at cp
  have Yo : ∀ a, a ≠ 44 → a ≠ 4 + l → Y a = S a := fun a h1 h2 => by rw [hY, k_u_n h2, Xo a h1]
  have y51 : X (51 + 9 * i) = S (51 + 9 * i) := Xo _ (by omega)
  have lq : (∀ x, x < n → F x = X (4 + j) x) ↔ (∀ x, x < n → F x = rV S j x) := by
    rw [X4]
    exact ⟨fun q x hx => by rw [ve x (by omega)]; exact q x hx, fun q x hx => by rw [← ve x (by omega)]; exact q x hx⟩
  rw [z_dec_c _ _ lq] at al
  refine ⟨_, Y, (?_ : _ = some (.inl (some (vB (z_dec (∀ x, x < n → F x = rV S j x)))), k_W Y)), fun g => ?_⟩
  · unfold m_X5_project
    rw [k_v0]
    apply q_body
    have b6 : INF = 1000000 := rfl
    generalize z_dec (∀ x, x < n → F x = rV S j x) = bb at al ⊢
    simp only [b_X5_project, c0, c1, c2, k_o0, k_a2, k_a3, r3, r4, r5, k_mo h_i, y51, n51, hNa, hNu, ps, np, al, cp, z_vB1, z_vB0, if_true, if_false, not_true_eq_false, not_false_eq_true, k_t_n, k_t_1, exists_eq, qS_nop, qS_seq, qS_set, qS_setJ, qS_if, qS_brk, qS_ret, qS_retV, qS_throw, qS_inc, qS_cl, qS_ast, qS_aop, qS_fst, qS_fop, qS_sw, qT_eC, qT_eCB, qT_eL, qT_eLJ, qT_eLR, qT_eLB, qT_e1, qT_e2, qT_bCmp, qT_bCmpJ, qT_bAnd, qT_bOr, qT_bNot, qT_eBI, qT_eIf, qT_eLd, qT_eLdR, qT_eLen, qT_eF, qT_eFR, qT_aN, qT_aS, qT_eCl, qT_eClR, qT_eClB, qT_some, qT_x, z_nx_N, z_nx_B, z_nx_R, z_nx_X, z_bk_N, z_bk_B, z_bk_R, z_bk_X, oAdd, oSub, oMul, oNeg, cLt, cLe, cGt, cGe, cEq, cNe, Option.some.injEq, Sum.inl.injEq, Sum.inr.injEq, Prod.mk.injEq, exists_eq_left, exists_eq_left', exists_eq_right, exists_and_left, reduceCtorEq, and_true, true_and, and_false, false_and, List.getElem?_cons_zero, List.getElem?_cons_succ, List.set_cons_zero, List.set_cons_succ, List.replicate, List.length_cons, List.length_nil, List.cons_append, List.nil_append, Nat.reduceAdd, Nat.reduceSub, decide_eq_true_eq, decide_eq_false_iff_not, Bool.true_eq_false, Bool.false_eq_true, true_implies, false_implies, implies_true, Nat.reduceLT, exists_const, z_vB_inj, and_assoc, z_in_iff, oI2L, oL2I, Int.toNat_natCast, z_toNat0, Bool.not_eq_true', Bool.not_eq_false', ne_eq, Bool.not_true, Bool.not_false, Nat.add_zero, Int.add_zero, z_sl_s]
    omega
  · have e89 : (k_u Y 103 g) 89 = S 89 := by rw [k_u_n (by decide), Yo _ (by decide) (by omega)]
    have e90 : (k_u Y 103 g) 90 = S 90 := by rw [k_u_n (by decide), Yo _ (by decide) (by omega)]
    have e94 : (k_u Y 103 g) 94 = S 94 := by rw [k_u_n (by decide), Yo _ (by decide) (by omega)]
    obtain ⟨G, w1, w2⟩ := cs (k_u Y 103 g) e89 e90 e94
    rw [rV_u e94, rM_u e90] at w1 w2
    have w3 := w2 nq'
    rw [(z_dec_iff _).mpr ⟨nq', fun k hk => by rw [← Fe k hk]; exact L k hk⟩] at w1
    obtain ⟨V, hV⟩ : ∃ V, V = k_t (k_u (k_u Y 103 g) 95 G) 0 := ⟨_, rfl⟩
    have Vo : ∀ a, a ≠ 85 → a ≠ 95 → a ≠ 103 → V a = Y a := fun a h1 h2 h3 => by rw [hV, k_t_n h1, k_u_n h2, k_u_n h3]
    have V95 : ∀ k, k < n → V 95 k = F k := fun k hk => by rw [hV, k_t_n (by decide), k_u_s, w3 k hk, Fe k hk]
    have v89 : V 89 = S 89 := by rw [Vo _ (by decide) (by decide) (by decide), Yo _ (by decide) (by omega)]
    have v90 : V 90 = S 90 := by rw [Vo _ (by decide) (by decide) (by decide), Yo _ (by decide) (by omega)]
    have v94 : V 94 = S 94 := by rw [Vo _ (by decide) (by decide) (by decide), Yo _ (by decide) (by omega)]
    have lf := rf_laysFound (S := V) (n := n) h_l nb.2
    refine ⟨vB (z_dec (∀ x, x < n → F x = rV S j x)), k_u V 94 (z_at (5 * l) n (V 95) (V 94)), ?_, I.vec h_l nb.2 (F := F) (fun k hk => by have := L k hk; omega) (fun a ha h1 => ?_) (fun k hk => ?_) V95, ?_, Or.inl ⟨rfl, ?_⟩⟩
    · unfold m_X6_project
      rw [k_v85]
      apply q_body
      have b6 : INF = 1000000 := rfl
      have hpo := fun k (hk : k < n) => rf_partOf (S := V) h_j (show k < 5 by omega)
      simp only [b_X6_project, r0, r1, rt2, w1, rf_can0, ← hV, z_vB1, z_vB0, if_true, if_false, not_true_eq_false, not_false_eq_true, k_t_n, k_t_1, exists_eq, qS_nop, qS_seq, qS_set, qS_setJ, qS_if, qS_brk, qS_ret, qS_retV, qS_throw, qS_inc, qS_cl, qS_ast, qS_aop, qS_fst, qS_fop, qS_sw, qT_eC, qT_eCB, qT_eL, qT_eLJ, qT_eLR, qT_eLB, qT_e1, qT_e2, qT_bCmp, qT_bCmpJ, qT_bAnd, qT_bOr, qT_bNot, qT_eBI, qT_eIf, qT_eLd, qT_eLdR, qT_eLen, qT_eF, qT_eFR, qT_aN, qT_aS, qT_eCl, qT_eClR, qT_eClB, qT_some, qT_x, z_nx_N, z_nx_B, z_nx_R, z_nx_X, z_bk_N, z_bk_B, z_bk_R, z_bk_X, oAdd, oSub, oMul, oNeg, cLt, cLe, cGt, cGe, cEq, cNe, Option.some.injEq, Sum.inl.injEq, Sum.inr.injEq, Prod.mk.injEq, exists_eq_left, exists_eq_left', exists_eq_right, exists_and_left, reduceCtorEq, and_true, true_and, and_false, false_and, List.getElem?_cons_zero, List.getElem?_cons_succ, List.set_cons_zero, List.set_cons_succ, List.replicate, List.length_cons, List.length_nil, List.cons_append, List.nil_append, Nat.reduceAdd, Nat.reduceSub, decide_eq_true_eq, decide_eq_false_iff_not, Bool.true_eq_false, Bool.false_eq_true, true_implies, false_implies, implies_true, Nat.reduceLT, exists_const, z_vB_inj, and_assoc, z_in_iff, oI2L, oL2I, Int.toNat_natCast, z_toNat0, Bool.not_eq_true', Bool.not_eq_false', ne_eq, Bool.not_true, Bool.not_false, Nat.add_zero, Int.add_zero, z_sl_s]
      refine qS_loop (fun k ρ h' => h' = k_W V ∧ ρ = [vR 85, vI (i : Int), vI (j : Int), vI (l : Int), vB true, vB (z_dec (∀ x, x < k → F x = rV S j x)), vI (k : Int)]) n ?_ ?_ n 0 z_fuel _ _ (by omega) (z_fuel_lt (by omega)) ⟨rfl, by rw [z_fa_0, z_dec_t]; rfl⟩
      · rintro k ρ h' hk ⟨rfl, rfl⟩
        have e1 := hpo k hk
        rw [rV_u v94] at e1
        have b1 := Fb k hk
        have b2 := nV k hk
        have e2 := V95 k hk
        rw [z_fa_s]
        generalize (∀ x, x < k → F x = rV S j x) = P
        simp only [v89, n89, e1, e2, k_v85, k_o85, k_r0, k_r1, k_r2, k_r3, k_r4, k_r5, k_r6, k_r7, k_r8, k_r9, k_r10, k_r11, k_r12, k_r13, k_r14, k_r15, k_r16, k_r17, k_r18, k_rl, k_sc, k_st, k_a86, k_s86, k_a87, k_s87, k_a88, k_s88, k_a89, k_s89, k_a90, k_s90, k_a91, k_s91, k_a92, k_s92, k_a93, k_s93, k_a94, k_s94, k_a95, k_s95, k_a96, k_s96, k_a97, k_s97, k_a98, k_s98, k_a99, k_s99, k_a100, k_s100, k_a101, k_s101, k_a102, k_s102, k_u_s, k_u_n, k_u_u, Nat.reduceEqDiff, not_false_eq_true, qS_nop, qS_seq, qS_set, qS_setJ, qS_if, qS_brk, qS_ret, qS_retV, qS_throw, qS_inc, qS_cl, qS_ast, qS_aop, qS_fst, qS_fop, qS_sw, qT_eC, qT_eCB, qT_eL, qT_eLJ, qT_eLR, qT_eLB, qT_e1, qT_e2, qT_bCmp, qT_bCmpJ, qT_bAnd, qT_bOr, qT_bNot, qT_eBI, qT_eIf, qT_eLd, qT_eLdR, qT_eLen, qT_eF, qT_eFR, qT_aN, qT_aS, qT_eCl, qT_eClR, qT_eClB, qT_some, qT_x, z_nx_N, z_nx_B, z_nx_R, z_nx_X, z_bk_N, z_bk_B, z_bk_R, z_bk_X, oAdd, oSub, oMul, oNeg, cLt, cLe, cGt, cGe, cEq, cNe, Option.some.injEq, Sum.inl.injEq, Sum.inr.injEq, Prod.mk.injEq, exists_eq_left, exists_eq_left', exists_eq_right, exists_and_left, reduceCtorEq, and_true, true_and, and_false, false_and, List.getElem?_cons_zero, List.getElem?_cons_succ, List.set_cons_zero, List.set_cons_succ, List.replicate, List.length_cons, List.length_nil, List.cons_append, List.nil_append, Nat.reduceAdd, Nat.reduceSub, decide_eq_true_eq, decide_eq_false_iff_not, Bool.true_eq_false, Bool.false_eq_true, true_implies, false_implies, implies_true, Nat.reduceLT, exists_const, z_vB_inj, and_assoc, z_in_iff, oI2L, oL2I, Int.toNat_natCast, z_toNat0, Bool.not_eq_true', Bool.not_eq_false', ne_eq, Bool.not_true, Bool.not_false, Nat.add_zero, Int.add_zero, z_sl_s]
        try simp only [List.cons.injEq, Sum.inl.injEq, Sum.inr.injEq, z_vB_inj, and_true, true_and, exists_eq', exists_eq_left, exists_eq_left', exists_eq_right, exists_eq_right', exists_and_left, exists_and_right, exists_const, if_true, if_false, z_vB1, z_vB0, z_vBP, z_bd, decide_eq_true_eq, decide_eq_false_iff_not, Bool.not_eq_true', Bool.false_eq_true, Bool.true_eq_false, z_dec_iff, z_dec_f, z_dec_inj, true_iff, iff_true, false_iff, iff_false, not_true_eq_false, not_false_eq_true, Classical.not_not]
        (try clear e1 e2)
        (repeat' (first | apply And.intro | intro _)) <;> first | omega | rfl | grind
      · rintro ρ h' ⟨rfl, rfl⟩
        generalize z_dec (∀ x, x < n → F x = rV S j x) = bb
        simp only [v89, n89, lf, k_v85, k_o85, k_r0, k_r1, k_r2, k_r3, k_r4, k_r5, k_r6, k_r7, k_r8, k_r9, k_r10, k_r11, k_r12, k_r13, k_r14, k_r15, k_r16, k_r17, k_r18, k_rl, k_sc, k_st, k_a86, k_s86, k_a87, k_s87, k_a88, k_s88, k_a89, k_s89, k_a90, k_s90, k_a91, k_s91, k_a92, k_s92, k_a93, k_s93, k_a94, k_s94, k_a95, k_s95, k_a96, k_s96, k_a97, k_s97, k_a98, k_s98, k_a99, k_s99, k_a100, k_s100, k_a101, k_s101, k_a102, k_s102, k_u_s, k_u_n, k_u_u, Nat.reduceEqDiff, not_false_eq_true, qS_nop, qS_seq, qS_set, qS_setJ, qS_if, qS_brk, qS_ret, qS_retV, qS_throw, qS_inc, qS_cl, qS_ast, qS_aop, qS_fst, qS_fop, qS_sw, qT_eC, qT_eCB, qT_eL, qT_eLJ, qT_eLR, qT_eLB, qT_e1, qT_e2, qT_bCmp, qT_bCmpJ, qT_bAnd, qT_bOr, qT_bNot, qT_eBI, qT_eIf, qT_eLd, qT_eLdR, qT_eLen, qT_eF, qT_eFR, qT_aN, qT_aS, qT_eCl, qT_eClR, qT_eClB, qT_some, qT_x, z_nx_N, z_nx_B, z_nx_R, z_nx_X, z_bk_N, z_bk_B, z_bk_R, z_bk_X, oAdd, oSub, oMul, oNeg, cLt, cLe, cGt, cGe, cEq, cNe, Option.some.injEq, Sum.inl.injEq, Sum.inr.injEq, Prod.mk.injEq, exists_eq_left, exists_eq_left', exists_eq_right, exists_and_left, reduceCtorEq, and_true, true_and, and_false, false_and, List.getElem?_cons_zero, List.getElem?_cons_succ, List.set_cons_zero, List.set_cons_succ, List.replicate, List.length_cons, List.length_nil, List.cons_append, List.nil_append, Nat.reduceAdd, Nat.reduceSub, decide_eq_true_eq, decide_eq_false_iff_not, Bool.true_eq_false, Bool.false_eq_true, true_implies, false_implies, implies_true, Nat.reduceLT, exists_const, z_vB_inj, and_assoc, z_in_iff, oI2L, oL2I, Int.toNat_natCast, z_toNat0, Bool.not_eq_true', Bool.not_eq_false', ne_eq, Bool.not_true, Bool.not_false, Nat.add_zero, Int.add_zero, z_sl_s]
        omega
    · rw [Vo a (fun e => ha (by subst e; unfold kFree; omega)) (fun e => ha (by subst e; unfold kFree; omega)) (fun e => ha (by subst e; unfold kFree; omega)), Yo a (fun e => ha (by subst e; unfold kFree; omega)) h1]
    · rw [Vo _ (by omega) (by omega) (by omega), hY, k_u_s, Ce k]
    · rw [k_u_n (by decide), hV, k_t_n (by decide), k_u_n (by decide), k_u_s]
    · rw [k_u_n (by decide), hV, k_t_1]
end FPk
