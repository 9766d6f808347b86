/-! The reference: chips -/
def rE (S : Nat → Nat → Int) : Nat → Nat → Int := fun i j => S 98 (5 * i + j)
theorem i_31 : ∀ k : Fin 5, iB 31 k.val := by decide
theorem nCe_all (B : Nat → Nat → Int) (v : Nat) {k : Nat} (hk : k < 5) : nCe B v 31 (k + 1) = nCe B v 31 k + B v k := by
  rw [nCe, if_pos (i_31 ⟨k, hk⟩)]
section RC
variable {S : Nat → Nat → Int}
theorem rf_isVertex {n : Int} {h : z_Hp} (hn : -2147483648 ≤ n ∧ n < 2147483648) : m_X6_isVertex [vI n] h = some (.inl (some (vB (z_dec (0 ≤ n ∧ n ≤ 4)))), h) := by
  unfold m_X6_isVertex
  apply q_body
  have b6 : INF = 1000000 := rfl
  have e := rf_isIn (h := h) (n := n) (a := 0) (b := 4) hn (by decide) (by decide)
  simp only [b_X6_isVertex, e, qS_nop, qS_seq, qS_set, qS_setJ, qS_if, qS_brk, qS_ret, qS_retV, qS_throw, qS_inc, qS_cl, qS_ast, qS_aop, qS_fst, qS_fop, qS_sw, qT_eC, qT_eCB, qT_eL, qT_eLJ, qT_eLR, qT_eLB, qT_e1, qT_e2, qT_bCmp, qT_bCmpJ, qT_bAnd, qT_bOr, qT_bNot, qT_eBI, qT_eIf, qT_eLd, qT_eLdR, qT_eLen, qT_eF, qT_eFR, qT_aN, qT_aS, qT_eCl, qT_eClR, qT_eClB, qT_some, qT_x, z_nx_N, z_nx_B, z_nx_R, z_nx_X, z_bk_N, z_bk_B, z_bk_R, z_bk_X, oAdd, oSub, oMul, oNeg, cLt, cLe, cGt, cGe, cEq, cNe, Option.some.injEq, Sum.inl.injEq, Sum.inr.injEq, Prod.mk.injEq, exists_eq_left, exists_eq_left', exists_eq_right, exists_and_left, reduceCtorEq, and_true, true_and, and_false, false_and, List.getElem?_cons_zero, List.getElem?_cons_succ, List.set_cons_zero, List.set_cons_succ, List.replicate, List.length_cons, List.length_nil, List.cons_append, List.nil_append, Nat.reduceAdd, Nat.reduceSub, decide_eq_true_eq, decide_eq_false_iff_not, Bool.true_eq_false, Bool.false_eq_true, true_implies, false_implies, implies_true, Nat.reduceLT, exists_const, z_vB_inj, and_assoc, z_in_iff, oI2L, oL2I, Int.toNat_natCast, z_toNat0, Bool.not_eq_true', Bool.not_eq_false', ne_eq, Bool.not_true, Bool.not_false, Nat.add_zero, Int.add_zero, z_sl_s]
  try simp only [List.cons.injEq, Sum.inl.injEq, Sum.inr.injEq, z_vB_inj, and_true, true_and, exists_eq', exists_eq_left, exists_eq_left', exists_eq_right, exists_eq_right', exists_and_left, exists_and_right, exists_const, if_true, if_false, z_vB1, z_vB0, z_vBP, z_bd, decide_eq_true_eq, decide_eq_false_iff_not, Bool.not_eq_true', Bool.false_eq_true, Bool.true_eq_false, z_dec_iff, z_dec_f, z_dec_inj, true_iff, iff_true, false_iff, iff_false, not_true_eq_false, not_false_eq_true, Classical.not_not]
theorem rf_edgesOf {v : Nat} (hv : v < 5) (hB : nBd (rE S)) : m_X6_edgesOf [vR 85, vI (v : Int)] (k_W S) = some (.inl (some (vI (nAll (rE S) v))), k_W S) := by
  unfold m_X6_edgesOf
  rw [k_v85]
  apply q_body
  have b6 : INF = 1000000 := rfl
  simp only [b_X6_edgesOf, qS_nop, qS_seq, qS_set, qS_setJ, qS_if, qS_brk, qS_ret, qS_retV, qS_throw, qS_inc, qS_cl, qS_ast, qS_aop, qS_fst, qS_fop, qS_sw, qT_eC, qT_eCB, qT_eL, qT_eLJ, qT_eLR, qT_eLB, qT_e1, qT_e2, qT_bCmp, qT_bCmpJ, qT_bAnd, qT_bOr, qT_bNot, qT_eBI, qT_eIf, qT_eLd, qT_eLdR, qT_eLen, qT_eF, qT_eFR, qT_aN, qT_aS, qT_eCl, qT_eClR, qT_eClB, qT_some, qT_x, z_nx_N, z_nx_B, z_nx_R, z_nx_X, z_bk_N, z_bk_B, z_bk_R, z_bk_X, oAdd, oSub, oMul, oNeg, cLt, cLe, cGt, cGe, cEq, cNe, Option.some.injEq, Sum.inl.injEq, Sum.inr.injEq, Prod.mk.injEq, exists_eq_left, exists_eq_left', exists_eq_right, exists_and_left, reduceCtorEq, and_true, true_and, and_false, false_and, List.getElem?_cons_zero, List.getElem?_cons_succ, List.set_cons_zero, List.set_cons_succ, List.replicate, List.length_cons, List.length_nil, List.cons_append, List.nil_append, Nat.reduceAdd, Nat.reduceSub, decide_eq_true_eq, decide_eq_false_iff_not, Bool.true_eq_false, Bool.false_eq_true, true_implies, false_implies, implies_true, Nat.reduceLT, exists_const, z_vB_inj, and_assoc, z_in_iff, oI2L, oL2I, Int.toNat_natCast, z_toNat0, Bool.not_eq_true', Bool.not_eq_false', ne_eq, Bool.not_true, Bool.not_false, Nat.add_zero, Int.add_zero, z_sl_s]
  refine qS_for (fun k => [vR 85, vI (v : Int), vI (nCe (rE S) v 31 k), vI (k : Int)]) (fun _ => k_W S) (fun _ => True) 5 rfl rfl trivial (by omega) ?_ ?_
  · intro k hk _
    have t : (5 * (v : Int) + (k : Int)).toNat = 5 * v + k := by omega
    have e := nCe_all (rE S) v hk
    have w : rE S v k = S 98 (5 * v + k) := rfl
    simp only [t, e, w, k_v85, k_o85, k_r0, k_r1, k_r2, k_r3, k_r4, k_r5, k_r6, k_r7, k_r8, k_r9, k_r10, k_r11, k_r12, k_r13, k_r14, k_r15, k_r16, k_r17, k_r18, k_rl, k_sc, k_st, k_a86, k_s86, k_a87, k_s87, k_a88, k_s88, k_a89, k_s89, k_a90, k_s90, k_a91, k_s91, k_a92, k_s92, k_a93, k_s93, k_a94, k_s94, k_a95, k_s95, k_a96, k_s96, k_a97, k_s97, k_a98, k_s98, k_a99, k_s99, k_a100, k_s100, k_a101, k_s101, k_a102, k_s102, k_u_s, k_u_n, k_u_u, Nat.reduceEqDiff, not_false_eq_true, qS_nop, qS_seq, qS_set, qS_setJ, qS_if, qS_brk, qS_ret, qS_retV, qS_throw, qS_inc, qS_cl, qS_ast, qS_aop, qS_fst, qS_fop, qS_sw, qT_eC, qT_eCB, qT_eL, qT_eLJ, qT_eLR, qT_eLB, qT_e1, qT_e2, qT_bCmp, qT_bCmpJ, qT_bAnd, qT_bOr, qT_bNot, qT_eBI, qT_eIf, qT_eLd, qT_eLdR, qT_eLen, qT_eF, qT_eFR, qT_aN, qT_aS, qT_eCl, qT_eClR, qT_eClB, qT_some, qT_x, z_nx_N, z_nx_B, z_nx_R, z_nx_X, z_bk_N, z_bk_B, z_bk_R, z_bk_X, oAdd, oSub, oMul, oNeg, cLt, cLe, cGt, cGe, cEq, cNe, Option.some.injEq, Sum.inl.injEq, Sum.inr.injEq, Prod.mk.injEq, exists_eq_left, exists_eq_left', exists_eq_right, exists_and_left, reduceCtorEq, and_true, true_and, and_false, false_and, List.getElem?_cons_zero, List.getElem?_cons_succ, List.set_cons_zero, List.set_cons_succ, List.replicate, List.length_cons, List.length_nil, List.cons_append, List.nil_append, Nat.reduceAdd, Nat.reduceSub, decide_eq_true_eq, decide_eq_false_iff_not, Bool.true_eq_false, Bool.false_eq_true, true_implies, false_implies, implies_true, Nat.reduceLT, exists_const, z_vB_inj, and_assoc, z_in_iff, oI2L, oL2I, Int.toNat_natCast, z_toNat0, Bool.not_eq_true', Bool.not_eq_false', ne_eq, Bool.not_true, Bool.not_false, Nat.add_zero, Int.add_zero, z_sl_s]
    (repeat' (first | apply And.intro | intro _)) <;> first | omega | rfl | grind
  · intro _
    have b := nCe_b hB hv (s := 31) 5 (by omega)
    have w : nAll (rE S) v = nCe (rE S) v 31 5 := rfl
    rw [w]
    generalize nCe (rE S) v 31 5 = X at b ⊢
    simp only [qS_nop, qS_seq, qS_set, qS_setJ, qS_if, qS_brk, qS_ret, qS_retV, qS_throw, qS_inc, qS_cl, qS_ast, qS_aop, qS_fst, qS_fop, qS_sw, qT_eC, qT_eCB, qT_eL, qT_eLJ, qT_eLR, qT_eLB, qT_e1, qT_e2, qT_bCmp, qT_bCmpJ, qT_bAnd, qT_bOr, qT_bNot, qT_eBI, qT_eIf, qT_eLd, qT_eLdR, qT_eLen, qT_eF, qT_eFR, qT_aN, qT_aS, qT_eCl, qT_eClR, qT_eClB, qT_some, qT_x, z_nx_N, z_nx_B, z_nx_R, z_nx_X, z_bk_N, z_bk_B, z_bk_R, z_bk_X, oAdd, oSub, oMul, oNeg, cLt, cLe, cGt, cGe, cEq, cNe, Option.some.injEq, Sum.inl.injEq, Sum.inr.injEq, Prod.mk.injEq, exists_eq_left, exists_eq_left', exists_eq_right, exists_and_left, reduceCtorEq, and_true, true_and, and_false, false_and, List.getElem?_cons_zero, List.getElem?_cons_succ, List.set_cons_zero, List.set_cons_succ, List.replicate, List.length_cons, List.length_nil, List.cons_append, List.nil_append, Nat.reduceAdd, Nat.reduceSub, decide_eq_true_eq, decide_eq_false_iff_not, Bool.true_eq_false, Bool.false_eq_true, true_implies, false_implies, implies_true, Nat.reduceLT, exists_const, z_vB_inj, and_assoc, z_in_iff, oI2L, oL2I, Int.toNat_natCast, z_toNat0, Bool.not_eq_true', Bool.not_eq_false', ne_eq, Bool.not_true, Bool.not_false, Nat.add_zero, Int.add_zero, z_sl_s]
    (repeat' (first | apply And.intro | intro _)) <;> first | omega | rfl | grind
theorem rf_isOf {v : Nat} (hv : v < 5) (hB : nBd (rE S)) : m_X6_isOf [vR 85, vI (v : Int)] (k_W S) = some (.inl (some (vB (z_dec (nHv (rE S) v)))), k_W S) := by
  unfold m_X6_isOf
  rw [k_v85]
  apply q_body
  have b6 : INF = 1000000 := rfl
  have e := rf_edgesOf hv hB
  have b := nCe_b hB hv (s := 31) 5 (by omega)
  have w : nHv (rE S) v ↔ v = 0 ∨ 0 < nAll (rE S) v := Iff.rfl
  rw [show nAll (rE S) v = nCe (rE S) v 31 5 from rfl] at e w
  generalize nCe (rE S) v 31 5 = X at b e w
  simp only [b_X6_isOf, e, w, qS_nop, qS_seq, qS_set, qS_setJ, qS_if, qS_brk, qS_ret, qS_retV, qS_throw, qS_inc, qS_cl, qS_ast, qS_aop, qS_fst, qS_fop, qS_sw, qT_eC, qT_eCB, qT_eL, qT_eLJ, qT_eLR, qT_eLB, qT_e1, qT_e2, qT_bCmp, qT_bCmpJ, qT_bAnd, qT_bOr, qT_bNot, qT_eBI, qT_eIf, qT_eLd, qT_eLdR, qT_eLen, qT_eF, qT_eFR, qT_aN, qT_aS, qT_eCl, qT_eClR, qT_eClB, qT_some, qT_x, z_nx_N, z_nx_B, z_nx_R, z_nx_X, z_bk_N, z_bk_B, z_bk_R, z_bk_X, oAdd, oSub, oMul, oNeg, cLt, cLe, cGt, cGe, cEq, cNe, Option.some.injEq, Sum.inl.injEq, Sum.inr.injEq, Prod.mk.injEq, exists_eq_left, exists_eq_left', exists_eq_right, exists_and_left, reduceCtorEq, and_true, true_and, and_false, false_and, List.getElem?_cons_zero, List.getElem?_cons_succ, List.set_cons_zero, List.set_cons_succ, List.replicate, List.length_cons, List.length_nil, List.cons_append, List.nil_append, Nat.reduceAdd, Nat.reduceSub, decide_eq_true_eq, decide_eq_false_iff_not, Bool.true_eq_false, Bool.false_eq_true, true_implies, false_implies, implies_true, Nat.reduceLT, exists_const, z_vB_inj, and_assoc, z_in_iff, oI2L, oL2I, Int.toNat_natCast, z_toNat0, Bool.not_eq_true', Bool.not_eq_false', ne_eq, Bool.not_true, Bool.not_false, Nat.add_zero, Int.add_zero, z_sl_s]
  try simp only [List.cons.injEq, Sum.inl.injEq, Sum.inr.injEq, z_vB_inj, and_true, true_and, exists_eq', exists_eq_left, exists_eq_left', exists_eq_right, exists_eq_right', exists_and_left, exists_and_right, exists_const, if_true, if_false, z_vB1, z_vB0, z_vBP, z_bd, decide_eq_true_eq, decide_eq_false_iff_not, Bool.not_eq_true', Bool.false_eq_true, Bool.true_eq_false, z_dec_iff, z_dec_f, z_dec_inj, true_iff, iff_true, false_iff, iff_false, not_true_eq_false, not_false_eq_true, Classical.not_not]
  omega
theorem rf_canFire {v : Nat} (hv : v < 5) (hB : nBd (rE S)) (hC : nVb (S 99) 1000000) : m_X6_canFire [vR 85, vI (v : Int)] (k_W S) = some (.inl (some (vB (z_dec (-99 ≤ S 99 v - nAll (rE S) v ∧ ∀ k, k < 5 → S 99 k + rE S v k ≤ 99)))), k_W S) := by
  unfold m_X6_canFire
  rw [k_v85]
  apply q_body
  have b6 : INF = 1000000 := rfl
  have e := rf_edgesOf hv hB
  have b := nCe_b hB hv (s := 31) 5 (by omega)
  rw [show nAll (rE S) v = nCe (rE S) v 31 5 from rfl] at e
  rw [show nAll (rE S) v = nCe (rE S) v 31 5 from rfl]
  generalize nCe (rE S) v 31 5 = X at b e ⊢
  have bc := hC v hv
  simp only [b_X6_canFire, e, k_v85, k_o85, k_r0, k_r1, k_r2, k_r3, k_r4, k_r5, k_r6, k_r7, k_r8, k_r9, k_r10, k_r11, k_r12, k_r13, k_r14, k_r15, k_r16, k_r17, k_r18, k_rl, k_sc, k_st, k_a86, k_s86, k_a87, k_s87, k_a88, k_s88, k_a89, k_s89, k_a90, k_s90, k_a91, k_s91, k_a92, k_s92, k_a93, k_s93, k_a94, k_s94, k_a95, k_s95, k_a96, k_s96, k_a97, k_s97, k_a98, k_s98, k_a99, k_s99, k_a100, k_s100, k_a101, k_s101, k_a102, k_s102, k_u_s, k_u_n, k_u_u, Nat.reduceEqDiff, not_false_eq_true, qS_nop, qS_seq, qS_set, qS_setJ, qS_if, qS_brk, qS_ret, qS_retV, qS_throw, qS_inc, qS_cl, qS_ast, qS_aop, qS_fst, qS_fop, qS_sw, qT_eC, qT_eCB, qT_eL, qT_eLJ, qT_eLR, qT_eLB, qT_e1, qT_e2, qT_bCmp, qT_bCmpJ, qT_bAnd, qT_bOr, qT_bNot, qT_eBI, qT_eIf, qT_eLd, qT_eLdR, qT_eLen, qT_eF, qT_eFR, qT_aN, qT_aS, qT_eCl, qT_eClR, qT_eClB, qT_some, qT_x, z_nx_N, z_nx_B, z_nx_R, z_nx_X, z_bk_N, z_bk_B, z_bk_R, z_bk_X, oAdd, oSub, oMul, oNeg, cLt, cLe, cGt, cGe, cEq, cNe, Option.some.injEq, Sum.inl.injEq, Sum.inr.injEq, Prod.mk.injEq, exists_eq_left, exists_eq_left', exists_eq_right, exists_and_left, reduceCtorEq, and_true, true_and, and_false, false_and, List.getElem?_cons_zero, List.getElem?_cons_succ, List.set_cons_zero, List.set_cons_succ, List.replicate, List.length_cons, List.length_nil, List.cons_append, List.nil_append, Nat.reduceAdd, Nat.reduceSub, decide_eq_true_eq, decide_eq_false_iff_not, Bool.true_eq_false, Bool.false_eq_true, true_implies, false_implies, implies_true, Nat.reduceLT, exists_const, z_vB_inj, and_assoc, z_in_iff, oI2L, oL2I, Int.toNat_natCast, z_toNat0, Bool.not_eq_true', Bool.not_eq_false', ne_eq, Bool.not_true, Bool.not_false, Nat.add_zero, Int.add_zero, z_sl_s]
  repeat (refine And.intro (by omega) ?_)
  refine qS_for (fun m => [vR 85, vI (v : Int), vB (z_dec (-99 ≤ S 99 v - X ∧ ∀ k, k < m → S 99 k + rE S v k ≤ 99)), vI (m : Int)]) (fun _ => k_W S) (fun _ => True) 5 ?_ rfl trivial (by decide) ?_ ?_
  · simp only [z_dec_d]
    congr 4
    simp
  · intro m hm _
    have t : (5 * (v : Int) + (m : Int)).toNat = 5 * v + m := by omega
    have b1 := hB v m hv hm
    have b2 := hC m hm
    have w1 : rE S v m = S 98 (5 * v + m) := rfl
    have w : (-99 ≤ S 99 v - X ∧ ∀ k, k < m + 1 → S 99 k + rE S v k ≤ 99) ↔ (-99 ≤ S 99 v - X ∧ ∀ k, k < m → S 99 k + rE S v k ≤ 99) ∧ S 99 m + rE S v m ≤ 99 :=
      ⟨fun q => ⟨⟨q.1, fun k hk => q.2 k (by omega)⟩, q.2 m (by omega)⟩, fun q => ⟨q.1.1, fun k hk => by rcases Nat.lt_succ_iff_lt_or_eq.mp hk with h | rfl; exact q.1.2 k h; exact q.2⟩⟩
    rw [w]
    generalize (-99 ≤ S 99 v - X ∧ ∀ k, k < m → S 99 k + rE S v k ≤ 99) = P
    rw [w1] at b1 ⊢
    simp only [t, k_v85, k_o85, k_r0, k_r1, k_r2, k_r3, k_r4, k_r5, k_r6, k_r7, k_r8, k_r9, k_r10, k_r11, k_r12, k_r13, k_r14, k_r15, k_r16, k_r17, k_r18, k_rl, k_sc, k_st, k_a86, k_s86, k_a87, k_s87, k_a88, k_s88, k_a89, k_s89, k_a90, k_s90, k_a91, k_s91, k_a92, k_s92, k_a93, k_s93, k_a94, k_s94, k_a95, k_s95, k_a96, k_s96, k_a97, k_s97, k_a98, k_s98, k_a99, k_s99, k_a100, k_s100, k_a101, k_s101, k_a102, k_s102, k_u_s, k_u_n, k_u_u, Nat.reduceEqDiff, not_false_eq_true, qS_nop, qS_seq, qS_set, qS_setJ, qS_if, qS_brk, qS_ret, qS_retV, qS_throw, qS_inc, qS_cl, qS_ast, qS_aop, qS_fst, qS_fop, qS_sw, qT_eC, qT_eCB, qT_eL, qT_eLJ, qT_eLR, qT_eLB, qT_e1, qT_e2, qT_bCmp, qT_bCmpJ, qT_bAnd, qT_bOr, qT_bNot, qT_eBI, qT_eIf, qT_eLd, qT_eLdR, qT_eLen, qT_eF, qT_eFR, qT_aN, qT_aS, qT_eCl, qT_eClR, qT_eClB, qT_some, qT_x, z_nx_N, z_nx_B, z_nx_R, z_nx_X, z_bk_N, z_bk_B, z_bk_R, z_bk_X, oAdd, oSub, oMul, oNeg, cLt, cLe, cGt, cGe, cEq, cNe, Option.some.injEq, Sum.inl.injEq, Sum.inr.injEq, Prod.mk.injEq, exists_eq_left, exists_eq_left', exists_eq_right, exists_and_left, reduceCtorEq, and_true, true_and, and_false, false_and, List.getElem?_cons_zero, List.getElem?_cons_succ, List.set_cons_zero, List.set_cons_succ, List.replicate, List.length_cons, List.length_nil, List.cons_append, List.nil_append, Nat.reduceAdd, Nat.reduceSub, decide_eq_true_eq, decide_eq_false_iff_not, Bool.true_eq_false, Bool.false_eq_true, true_implies, false_implies, implies_true, Nat.reduceLT, exists_const, z_vB_inj, and_assoc, z_in_iff, oI2L, oL2I, Int.toNat_natCast, z_toNat0, Bool.not_eq_true', Bool.not_eq_false', ne_eq, Bool.not_true, Bool.not_false, Nat.add_zero, Int.add_zero, z_sl_s]
    try simp only [List.cons.injEq, Sum.inl.injEq, Sum.inr.injEq, z_vB_inj, and_true, true_and, exists_eq', exists_eq_left, exists_eq_left', exists_eq_right, exists_eq_right', exists_and_left, exists_and_right, exists_const, if_true, if_false, z_vB1, z_vB0, z_vBP, z_bd, decide_eq_true_eq, decide_eq_false_iff_not, Bool.not_eq_true', Bool.false_eq_true, Bool.true_eq_false, z_dec_iff, z_dec_f, z_dec_inj, true_iff, iff_true, false_iff, iff_false, not_true_eq_false, not_false_eq_true, Classical.not_not]
    (try clear e)
    (repeat' (first | apply And.intro | intro _)) <;> first | omega | rfl | grind
  · intro _
    simp only [qS_nop, qS_seq, qS_set, qS_setJ, qS_if, qS_brk, qS_ret, qS_retV, qS_throw, qS_inc, qS_cl, qS_ast, qS_aop, qS_fst, qS_fop, qS_sw, qT_eC, qT_eCB, qT_eL, qT_eLJ, qT_eLR, qT_eLB, qT_e1, qT_e2, qT_bCmp, qT_bCmpJ, qT_bAnd, qT_bOr, qT_bNot, qT_eBI, qT_eIf, qT_eLd, qT_eLdR, qT_eLen, qT_eF, qT_eFR, qT_aN, qT_aS, qT_eCl, qT_eClR, qT_eClB, qT_some, qT_x, z_nx_N, z_nx_B, z_nx_R, z_nx_X, z_bk_N, z_bk_B, z_bk_R, z_bk_X, oAdd, oSub, oMul, oNeg, cLt, cLe, cGt, cGe, cEq, cNe, Option.some.injEq, Sum.inl.injEq, Sum.inr.injEq, Prod.mk.injEq, exists_eq_left, exists_eq_left', exists_eq_right, exists_and_left, reduceCtorEq, and_true, true_and, and_false, false_and, List.getElem?_cons_zero, List.getElem?_cons_succ, List.set_cons_zero, List.set_cons_succ, List.replicate, List.length_cons, List.length_nil, List.cons_append, List.nil_append, Nat.reduceAdd, Nat.reduceSub, decide_eq_true_eq, decide_eq_false_iff_not, Bool.true_eq_false, Bool.false_eq_true, true_implies, false_implies, implies_true, Nat.reduceLT, exists_const, z_vB_inj, and_assoc, z_in_iff, oI2L, oL2I, Int.toNat_natCast, z_toNat0, Bool.not_eq_true', Bool.not_eq_false', ne_eq, Bool.not_true, Bool.not_false, Nat.add_zero, Int.add_zero, z_sl_s]
    omega
/-- what is come to, edge by edge; round by round -/
def rCs (B : Nat → Nat → Int) (s : Nat) : Nat → Nat
  | 0 => s
  | k + 1 => if iB (rCs B s k : Int) (k / 5) ∧ 0 < B (k / 5) (k % 5) then rCs B s k ||| 2 ^ (k % 5) else rCs B s k
def rCr (B : Nat → Nat → Int) : Nat → Nat
  | 0 => 1
  | n + 1 => rCs B (rCr B n) 25
theorem rCs_b {B : Nat → Nat → Int} {s : Nat} (hs : s < 32) : ∀ k, rCs B s k < 32
  | 0 => hs
  | k + 1 => by
    have := rCs_b (B := B) hs k
    unfold rCs
    split
    · exact (o_or ⟨_, this⟩ ⟨k % 5, Nat.mod_lt _ (by decide)⟩).2
    · exact this
theorem rCr_b {B : Nat → Nat → Int} : ∀ n, rCr B n < 32
  | 0 => by show 1 < 32; decide
  | n + 1 => rCs_b (rCr_b n) 25
theorem o_or0 : ∀ s : Fin 32, oOr (s.val : Int) 0 = some (s.val : Int) := by decide
theorem rf_isConnected (hB : nBd (rE S)) : m_X6_isConnected [vR 85] (k_W S) = some (.inl (some (vB (z_dec (∀ k, k < 5 → (nHv (rE S) k ↔ iB (rCr (rE S) 5 : Int) k))))), k_W S) := by
  unfold m_X6_isConnected
  rw [k_v85]
  apply q_body
  have b6 : INF = 1000000 := rfl
  simp only [b_X6_isConnected, qS_nop, qS_seq, qS_set, qS_setJ, qS_if, qS_brk, qS_ret, qS_retV, qS_throw, qS_inc, qS_cl, qS_ast, qS_aop, qS_fst, qS_fop, qS_sw, qT_eC, qT_eCB, qT_eL, qT_eLJ, qT_eLR, qT_eLB, qT_e1, qT_e2, qT_bCmp, qT_bCmpJ, qT_bAnd, qT_bOr, qT_bNot, qT_eBI, qT_eIf, qT_eLd, qT_eLdR, qT_eLen, qT_eF, qT_eFR, qT_aN, qT_aS, qT_eCl, qT_eClR, qT_eClB, qT_some, qT_x, z_nx_N, z_nx_B, z_nx_R, z_nx_X, z_bk_N, z_bk_B, z_bk_R, z_bk_X, oAdd, oSub, oMul, oNeg, cLt, cLe, cGt, cGe, cEq, cNe, Option.some.injEq, Sum.inl.injEq, Sum.inr.injEq, Prod.mk.injEq, exists_eq_left, exists_eq_left', exists_eq_right, exists_and_left, reduceCtorEq, and_true, true_and, and_false, false_and, List.getElem?_cons_zero, List.getElem?_cons_succ, List.set_cons_zero, List.set_cons_succ, List.replicate, List.length_cons, List.length_nil, List.cons_append, List.nil_append, Nat.reduceAdd, Nat.reduceSub, decide_eq_true_eq, decide_eq_false_iff_not, Bool.true_eq_false, Bool.false_eq_true, true_implies, false_implies, implies_true, Nat.reduceLT, exists_const, z_vB_inj, and_assoc, z_in_iff, oI2L, oL2I, Int.toNat_natCast, z_toNat0, Bool.not_eq_true', Bool.not_eq_false', ne_eq, Bool.not_true, Bool.not_false, Nat.add_zero, Int.add_zero, z_sl_s]
  refine qS_loop (fun n ρ h' => h' = k_W S ∧ ∃ x, ρ = [vR 85, vI (rCr (rE S) n : Int), vI (n : Int), x]) 5 ?_ ?_ 5 0 z_fuel _ _ (by omega) (z_fuel_lt (by omega)) ⟨rfl, _, rfl⟩
  · rintro n ρ h' hn ⟨rfl, x, rfl⟩
    simp only [qS_nop, qS_seq, qS_set, qS_setJ, qS_if, qS_brk, qS_ret, qS_retV, qS_throw, qS_inc, qS_cl, qS_ast, qS_aop, qS_fst, qS_fop, qS_sw, qT_eC, qT_eCB, qT_eL, qT_eLJ, qT_eLR, qT_eLB, qT_e1, qT_e2, qT_bCmp, qT_bCmpJ, qT_bAnd, qT_bOr, qT_bNot, qT_eBI, qT_eIf, qT_eLd, qT_eLdR, qT_eLen, qT_eF, qT_eFR, qT_aN, qT_aS, qT_eCl, qT_eClR, qT_eClB, qT_some, qT_x, z_nx_N, z_nx_B, z_nx_R, z_nx_X, z_bk_N, z_bk_B, z_bk_R, z_bk_X, oAdd, oSub, oMul, oNeg, cLt, cLe, cGt, cGe, cEq, cNe, Option.some.injEq, Sum.inl.injEq, Sum.inr.injEq, Prod.mk.injEq, exists_eq_left, exists_eq_left', exists_eq_right, exists_and_left, reduceCtorEq, and_true, true_and, and_false, false_and, List.getElem?_cons_zero, List.getElem?_cons_succ, List.set_cons_zero, List.set_cons_succ, List.replicate, List.length_cons, List.length_nil, List.cons_append, List.nil_append, Nat.reduceAdd, Nat.reduceSub, decide_eq_true_eq, decide_eq_false_iff_not, Bool.true_eq_false, Bool.false_eq_true, true_implies, false_implies, implies_true, Nat.reduceLT, exists_const, z_vB_inj, and_assoc, z_in_iff, oI2L, oL2I, Int.toNat_natCast, z_toNat0, Bool.not_eq_true', Bool.not_eq_false', ne_eq, Bool.not_true, Bool.not_false, Nat.add_zero, Int.add_zero, z_sl_s]
    repeat (refine And.intro (by omega) ?_)
    have w : rCr (rE S) (n + 1) = rCs (rE S) (rCr (rE S) n) 25 := rfl
    have b0 := rCr_b (B := rE S) n
    generalize rCr (rE S) n = s at b0 w
    refine qS_for (fun k => [vR 85, vI (rCs (rE S) s k : Int), vI (n : Int), vI (k : Int)]) (fun _ => k_W S) (fun _ => True) 25 rfl rfl trivial (by omega) ?_ ?_
    · intro k hk _
      have b1 := rCs_b (B := rE S) b0 k
      have d1 : oDiv (k : Int) 5 = some ((k / 5 : Nat) : Int) := z_dv (m := 5) (by decide) (by omega) (by decide)
      have d2 : oRem (k : Int) 5 = some ((k % 5 : Nat) : Int) := z_rm (m := 5) (by decide) (by omega) (by decide)
      have hm := Nat.mod_lt k (show 5 > 0 by decide)
      have hq : k / 5 < 5 := by omega
      have w := i_bits (s := (rCs (rE S) s k : Int)) ⟨by omega, by omega⟩ hq
      have w2 := Classical.choose_spec w
      generalize Classical.choose w = y at w2
      have o1 := o_or ⟨_, b1⟩ ⟨k % 5, hm⟩
      have o0 := o_or0 ⟨_, b1⟩
      have o2 := o_shl ⟨k % 5, by omega⟩
      simp only at o1 o2 o0
      have be := hB (k / 5) (k % 5) hq hm
      have ek : rE S (k / 5) (k % 5) = S 98 k := by
        unfold rE
        rw [Nat.div_add_mod]
      have ws : rCs (rE S) s (k + 1) = if (rCs (rE S) s k : Int) / 2 ^ (k / 5) % 2 = 1 ∧ 0 < rE S (k / 5) (k % 5) then rCs (rE S) s k ||| 2 ^ (k % 5) else rCs (rE S) s k := rfl
      rw [ek] at ws be
      have hb : iB (rCs (rE S) s k : Int) (k / 5) ↔ (rCs (rE S) s k : Int) / 2 ^ (k / 5) % 2 = 1 := Iff.rfl
      have hr : 0 ≤ (rCs (rE S) s k : Int) / 2 ^ (k / 5) % 2 ∧ (rCs (rE S) s k : Int) / 2 ^ (k / 5) % 2 < 2 := ⟨by omega, by omega⟩
      have w3 := w2.1
      have w4 := w2.2
      generalize rCs (rE S) s (k + 1) = T at ws ⊢
      generalize (rCs (rE S) s k : Int) / 2 ^ (k / 5) % 2 = z at w4 hr ws
      generalize rCs (rE S) s k = U at *
      simp only [d1, d2, w3, w4, o0, o1.1, o2, k_v85, k_o85, k_r0, k_r1, k_r2, k_r3, k_r4, k_r5, k_r6, k_r7, k_r8, k_r9, k_r10, k_r11, k_r12, k_r13, k_r14, k_r15, k_r16, k_r17, k_r18, k_rl, k_sc, k_st, k_a86, k_s86, k_a87, k_s87, k_a88, k_s88, k_a89, k_s89, k_a90, k_s90, k_a91, k_s91, k_a92, k_s92, k_a93, k_s93, k_a94, k_s94, k_a95, k_s95, k_a96, k_s96, k_a97, k_s97, k_a98, k_s98, k_a99, k_s99, k_a100, k_s100, k_a101, k_s101, k_a102, k_s102, k_u_s, k_u_n, k_u_u, Nat.reduceEqDiff, not_false_eq_true, qS_nop, qS_seq, qS_set, qS_setJ, qS_if, qS_brk, qS_ret, qS_retV, qS_throw, qS_inc, qS_cl, qS_ast, qS_aop, qS_fst, qS_fop, qS_sw, qT_eC, qT_eCB, qT_eL, qT_eLJ, qT_eLR, qT_eLB, qT_e1, qT_e2, qT_bCmp, qT_bCmpJ, qT_bAnd, qT_bOr, qT_bNot, qT_eBI, qT_eIf, qT_eLd, qT_eLdR, qT_eLen, qT_eF, qT_eFR, qT_aN, qT_aS, qT_eCl, qT_eClR, qT_eClB, qT_some, qT_x, z_nx_N, z_nx_B, z_nx_R, z_nx_X, z_bk_N, z_bk_B, z_bk_R, z_bk_X, oAdd, oSub, oMul, oNeg, cLt, cLe, cGt, cGe, cEq, cNe, Option.some.injEq, Sum.inl.injEq, Sum.inr.injEq, Prod.mk.injEq, exists_eq_left, exists_eq_left', exists_eq_right, exists_and_left, reduceCtorEq, and_true, true_and, and_false, false_and, List.getElem?_cons_zero, List.getElem?_cons_succ, List.set_cons_zero, List.set_cons_succ, List.replicate, List.length_cons, List.length_nil, List.cons_append, List.nil_append, Nat.reduceAdd, Nat.reduceSub, decide_eq_true_eq, decide_eq_false_iff_not, Bool.true_eq_false, Bool.false_eq_true, true_implies, false_implies, implies_true, Nat.reduceLT, exists_const, z_vB_inj, and_assoc, z_in_iff, oI2L, oL2I, Int.toNat_natCast, z_toNat0, Bool.not_eq_true', Bool.not_eq_false', ne_eq, Bool.not_true, Bool.not_false, Nat.add_zero, Int.add_zero, z_sl_s]
      repeat (refine And.intro (by omega) ?_)
      refine ⟨fun p1 => ⟨by omega, by omega, by omega, by omega, by omega, by omega, fun p2 => ?_, fun p2 => ?_⟩, fun p1 => ?_⟩
      · rw [ws, if_pos ⟨p1, p2⟩]
        rfl
      · rw [ws, if_neg (fun q => p2 q.2)]
        rfl
      · rw [ws, if_neg (fun q => p1 q.1)]
        rfl
    · intro _
      simp only [qS_nop, qS_seq, qS_set, qS_setJ, qS_if, qS_brk, qS_ret, qS_retV, qS_throw, qS_inc, qS_cl, qS_ast, qS_aop, qS_fst, qS_fop, qS_sw, qT_eC, qT_eCB, qT_eL, qT_eLJ, qT_eLR, qT_eLB, qT_e1, qT_e2, qT_bCmp, qT_bCmpJ, qT_bAnd, qT_bOr, qT_bNot, qT_eBI, qT_eIf, qT_eLd, qT_eLdR, qT_eLen, qT_eF, qT_eFR, qT_aN, qT_aS, qT_eCl, qT_eClR, qT_eClB, qT_some, qT_x, z_nx_N, z_nx_B, z_nx_R, z_nx_X, z_bk_N, z_bk_B, z_bk_R, z_bk_X, oAdd, oSub, oMul, oNeg, cLt, cLe, cGt, cGe, cEq, cNe, Option.some.injEq, Sum.inl.injEq, Sum.inr.injEq, Prod.mk.injEq, exists_eq_left, exists_eq_left', exists_eq_right, exists_and_left, reduceCtorEq, and_true, true_and, and_false, false_and, List.getElem?_cons_zero, List.getElem?_cons_succ, List.set_cons_zero, List.set_cons_succ, List.replicate, List.length_cons, List.length_nil, List.cons_append, List.nil_append, Nat.reduceAdd, Nat.reduceSub, decide_eq_true_eq, decide_eq_false_iff_not, Bool.true_eq_false, Bool.false_eq_true, true_implies, false_implies, implies_true, Nat.reduceLT, exists_const, z_vB_inj, and_assoc, z_in_iff, oI2L, oL2I, Int.toNat_natCast, z_toNat0, Bool.not_eq_true', Bool.not_eq_false', ne_eq, Bool.not_true, Bool.not_false, Nat.add_zero, Int.add_zero, z_sl_s]
      repeat (refine And.intro (by omega) ?_)
      exact ⟨vI ((25 : Nat) : Int), by rw [w]; rfl⟩
  · rintro ρ h' ⟨rfl, x, rfl⟩
    simp only [qS_nop, qS_seq, qS_set, qS_setJ, qS_if, qS_brk, qS_ret, qS_retV, qS_throw, qS_inc, qS_cl, qS_ast, qS_aop, qS_fst, qS_fop, qS_sw, qT_eC, qT_eCB, qT_eL, qT_eLJ, qT_eLR, qT_eLB, qT_e1, qT_e2, qT_bCmp, qT_bCmpJ, qT_bAnd, qT_bOr, qT_bNot, qT_eBI, qT_eIf, qT_eLd, qT_eLdR, qT_eLen, qT_eF, qT_eFR, qT_aN, qT_aS, qT_eCl, qT_eClR, qT_eClB, qT_some, qT_x, z_nx_N, z_nx_B, z_nx_R, z_nx_X, z_bk_N, z_bk_B, z_bk_R, z_bk_X, oAdd, oSub, oMul, oNeg, cLt, cLe, cGt, cGe, cEq, cNe, Option.some.injEq, Sum.inl.injEq, Sum.inr.injEq, Prod.mk.injEq, exists_eq_left, exists_eq_left', exists_eq_right, exists_and_left, reduceCtorEq, and_true, true_and, and_false, false_and, List.getElem?_cons_zero, List.getElem?_cons_succ, List.set_cons_zero, List.set_cons_succ, List.replicate, List.length_cons, List.length_nil, List.cons_append, List.nil_append, Nat.reduceAdd, Nat.reduceSub, decide_eq_true_eq, decide_eq_false_iff_not, Bool.true_eq_false, Bool.false_eq_true, true_implies, false_implies, implies_true, Nat.reduceLT, exists_const, z_vB_inj, and_assoc, z_in_iff, oI2L, oL2I, Int.toNat_natCast, z_toNat0, Bool.not_eq_true', Bool.not_eq_false', ne_eq, Bool.not_true, Bool.not_false, Nat.add_zero, Int.add_zero, z_sl_s]
    repeat (refine And.intro (by omega) ?_)
    have b0 := rCr_b (B := rE S) 5
    generalize rCr (rE S) 5 = s at b0 ⊢
    refine qS_for (fun m => [vR 85, vI (s : Int), vB (z_dec (∀ k, k < m → (nHv (rE S) k ↔ iB (s : Int) k))), vI (m : Int)]) (fun _ => k_W S) (fun _ => True) 5 ?_ rfl trivial (by omega) ?_ ?_
    · rw [show z_dec (∀ k, k < 0 → (nHv (rE S) k ↔ iB (s : Int) k)) = true from (z_dec_iff _).mpr (fun k hk => absurd hk (Nat.not_lt_zero k))]
      rfl
    · intro m hm _
      have w := i_bits (s := (s : Int)) ⟨by omega, by omega⟩ hm
      have w2 := Classical.choose_spec w
      generalize Classical.choose w = y at w2
      have w3 := w2.1
      have w4 := w2.2
      have e := rf_isOf hm hB
      have hr : 0 ≤ (s : Int) / 2 ^ m % 2 ∧ (s : Int) / 2 ^ m % 2 < 2 := ⟨by omega, by omega⟩
      have wi : (∀ k, k < m + 1 → (nHv (rE S) k ↔ iB (s : Int) k)) ↔ (∀ k, k < m → (nHv (rE S) k ↔ iB (s : Int) k)) ∧ (nHv (rE S) m ↔ (s : Int) / 2 ^ m % 2 = 1) :=
        ⟨fun q => ⟨fun k hk => q k (by omega), q m (by omega)⟩, fun q k hk => by rcases Nat.lt_succ_iff_lt_or_eq.mp hk with h | rfl; exact q.1 k h; exact q.2⟩
      rw [wi]
      generalize (∀ k, k < m → (nHv (rE S) k ↔ iB (s : Int) k)) = P
      generalize nHv (rE S) m = R at e ⊢
      generalize (s : Int) / 2 ^ m % 2 = z at w4 hr ⊢
      simp only [w3, w4, e, qS_nop, qS_seq, qS_set, qS_setJ, qS_if, qS_brk, qS_ret, qS_retV, qS_throw, qS_inc, qS_cl, qS_ast, qS_aop, qS_fst, qS_fop, qS_sw, qT_eC, qT_eCB, qT_eL, qT_eLJ, qT_eLR, qT_eLB, qT_e1, qT_e2, qT_bCmp, qT_bCmpJ, qT_bAnd, qT_bOr, qT_bNot, qT_eBI, qT_eIf, qT_eLd, qT_eLdR, qT_eLen, qT_eF, qT_eFR, qT_aN, qT_aS, qT_eCl, qT_eClR, qT_eClB, qT_some, qT_x, z_nx_N, z_nx_B, z_nx_R, z_nx_X, z_bk_N, z_bk_B, z_bk_R, z_bk_X, oAdd, oSub, oMul, oNeg, cLt, cLe, cGt, cGe, cEq, cNe, Option.some.injEq, Sum.inl.injEq, Sum.inr.injEq, Prod.mk.injEq, exists_eq_left, exists_eq_left', exists_eq_right, exists_and_left, reduceCtorEq, and_true, true_and, and_false, false_and, List.getElem?_cons_zero, List.getElem?_cons_succ, List.set_cons_zero, List.set_cons_succ, List.replicate, List.length_cons, List.length_nil, List.cons_append, List.nil_append, Nat.reduceAdd, Nat.reduceSub, decide_eq_true_eq, decide_eq_false_iff_not, Bool.true_eq_false, Bool.false_eq_true, true_implies, false_implies, implies_true, Nat.reduceLT, exists_const, z_vB_inj, and_assoc, z_in_iff, oI2L, oL2I, Int.toNat_natCast, z_toNat0, Bool.not_eq_true', Bool.not_eq_false', ne_eq, Bool.not_true, Bool.not_false, Nat.add_zero, Int.add_zero, z_sl_s]
      try simp only [List.cons.injEq, Sum.inl.injEq, Sum.inr.injEq, z_vB_inj, and_true, true_and, exists_eq', exists_eq_left, exists_eq_left', exists_eq_right, exists_eq_right', exists_and_left, exists_and_right, exists_const, if_true, if_false, z_vB1, z_vB0, z_vBP, z_bd, decide_eq_true_eq, decide_eq_false_iff_not, Bool.not_eq_true', Bool.false_eq_true, Bool.true_eq_false, z_dec_iff, z_dec_f, z_dec_inj, true_iff, iff_true, false_iff, iff_false, not_true_eq_false, not_false_eq_true, Classical.not_not]
      clear w w2 w3 w4 e
      by_cases hR : R
      · simp only [(z_dec_iff R).mpr hR, if_true]
        (repeat' (first | apply And.intro | intro _)) <;> first | omega | rfl | grind
      · simp only [(z_dec_f R).mpr hR, if_false, Bool.false_eq_true]
        (repeat' (first | apply And.intro | intro _)) <;> first | omega | rfl | grind
    · intro _
      simp only [qS_nop, qS_seq, qS_set, qS_setJ, qS_if, qS_brk, qS_ret, qS_retV, qS_throw, qS_inc, qS_cl, qS_ast, qS_aop, qS_fst, qS_fop, qS_sw, qT_eC, qT_eCB, qT_eL, qT_eLJ, qT_eLR, qT_eLB, qT_e1, qT_e2, qT_bCmp, qT_bCmpJ, qT_bAnd, qT_bOr, qT_bNot, qT_eBI, qT_eIf, qT_eLd, qT_eLdR, qT_eLen, qT_eF, qT_eFR, qT_aN, qT_aS, qT_eCl, qT_eClR, qT_eClB, qT_some, qT_x, z_nx_N, z_nx_B, z_nx_R, z_nx_X, z_bk_N, z_bk_B, z_bk_R, z_bk_X, oAdd, oSub, oMul, oNeg, cLt, cLe, cGt, cGe, cEq, cNe, Option.some.injEq, Sum.inl.injEq, Sum.inr.injEq, Prod.mk.injEq, exists_eq_left, exists_eq_left', exists_eq_right, exists_and_left, reduceCtorEq, and_true, true_and, and_false, false_and, List.getElem?_cons_zero, List.getElem?_cons_succ, List.set_cons_zero, List.set_cons_succ, List.replicate, List.length_cons, List.length_nil, List.cons_append, List.nil_append, Nat.reduceAdd, Nat.reduceSub, decide_eq_true_eq, decide_eq_false_iff_not, Bool.true_eq_false, Bool.false_eq_true, true_implies, false_implies, implies_true, Nat.reduceLT, exists_const, z_vB_inj, and_assoc, z_in_iff, oI2L, oL2I, Int.toNat_natCast, z_toNat0, Bool.not_eq_true', Bool.not_eq_false', ne_eq, Bool.not_true, Bool.not_false, Nat.add_zero, Int.add_zero, z_sl_s]
      omega
end RC
