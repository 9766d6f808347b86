/-! The reference: polynomials -/
def rP (S : Nat → Nat → Int) (p : Nat) : Nat → Int := fun k => S 86 (9 * p + k)
theorem rP_u {S : Nat → Nat → Int} {a : Nat} {f : Nat → Int} {p : Nat} (h : 86 ≠ a) : rP (k_u S a f) p = rP S p := by
  unfold rP
  rw [k_u_n h]
/-- it throws: what it says of that -/
abbrev k_t (S : Nat → Nat → Int) (n : Int) : Nat → Nat → Int := k_u S 85 (z_up (S 85) 1 n)
theorem z_mb {x y : Int} {X : Int} (hx : -X ≤ x ∧ x ≤ X) (hy : 0 ≤ y ∧ y ≤ 9) : -(9 * X) ≤ x * y ∧ x * y ≤ 9 * X := by
  obtain ⟨k, rfl⟩ : ∃ k : Nat, y = k := ⟨y.toNat, by omega⟩
  rcases (show k = 0 ∨ k = 1 ∨ k = 2 ∨ k = 3 ∨ k = 4 ∨ k = 5 ∨ k = 6 ∨ k = 7 ∨ k = 8 ∨ k = 9 by omega) with rfl | rfl | rfl | rfl | rfl | rfl | rfl | rfl | rfl | rfl <;> omega
section RP
variable {S : Nat → Nat → Int}
theorem rf_thrown : m_X6_thrown [vR 85] (k_W S) = some (.inl (some (vI (S 85 1))), k_W S) := by
  unfold m_X6_thrown
  rw [k_v85]
  apply q_body
  have b6 : INF = 1000000 := rfl
  simp only [b_X6_thrown, k_v85, k_o85, k_r0, k_r1, k_r2, k_r3, k_r4, k_r5, k_r6, k_r7, k_r8, k_r9, k_r10, k_r11, k_r12, k_r13, k_r14, k_r15, k_r16, k_r17, k_r18, k_rl, k_sc, k_st, k_a86, k_s86, k_a87, k_s87, k_a88, k_s88, k_a89, k_s89, k_a90, k_s90, k_a91, k_s91, k_a92, k_s92, k_a93, k_s93, k_a94, k_s94, k_a95, k_s95, k_a96, k_s96, k_a97, k_s97, k_a98, k_s98, k_a99, k_s99, k_a100, k_s100, k_a101, k_s101, k_a102, k_s102, k_u_s, k_u_n, k_u_u, Nat.reduceEqDiff, not_false_eq_true, qS_nop, qS_seq, qS_set, qS_setJ, qS_if, qS_brk, qS_ret, qS_retV, qS_throw, qS_inc, qS_cl, qS_ast, qS_aop, qS_fst, qS_fop, qS_sw, qT_eC, qT_eCB, qT_eL, qT_eLJ, qT_eLR, qT_eLB, qT_e1, qT_e2, qT_bCmp, qT_bCmpJ, qT_bAnd, qT_bOr, qT_bNot, qT_eBI, qT_eIf, qT_eLd, qT_eLdR, qT_eLen, qT_eF, qT_eFR, qT_aN, qT_aS, qT_eCl, qT_eClR, qT_eClB, qT_some, qT_x, z_nx_N, z_nx_B, z_nx_R, z_nx_X, z_bk_N, z_bk_B, z_bk_R, z_bk_X, oAdd, oSub, oMul, oNeg, cLt, cLe, cGt, cGe, cEq, cNe, Option.some.injEq, Sum.inl.injEq, Sum.inr.injEq, Prod.mk.injEq, exists_eq_left, exists_eq_left', exists_eq_right, exists_and_left, reduceCtorEq, and_true, true_and, and_false, false_and, List.getElem?_cons_zero, List.getElem?_cons_succ, List.set_cons_zero, List.set_cons_succ, List.replicate, List.length_cons, List.length_nil, List.cons_append, List.nil_append, Nat.reduceAdd, Nat.reduceSub, decide_eq_true_eq, decide_eq_false_iff_not, Bool.true_eq_false, Bool.false_eq_true, true_implies, false_implies, implies_true, Nat.reduceLT, exists_const, z_vB_inj, and_assoc, z_in_iff, oI2L, oL2I, Int.toNat_natCast, z_toNat0, Bool.not_eq_true', Bool.not_eq_false', ne_eq, Bool.not_true, Bool.not_false, Nat.add_zero, Int.add_zero, z_sl_s]
theorem rf_can {n : Int} (hn : -2147483648 ≤ n ∧ n < 2147483648) : m_X6_can [vR 85, vI n] (k_W S) = some (.inl (some (vB (z_dec (n = 0)))), k_W (k_t S n)) := by
  unfold m_X6_can
  rw [k_v85]
  apply q_body
  have b6 : INF = 1000000 := rfl
  simp only [b_X6_can, k_v85, k_o85, k_r0, k_r1, k_r2, k_r3, k_r4, k_r5, k_r6, k_r7, k_r8, k_r9, k_r10, k_r11, k_r12, k_r13, k_r14, k_r15, k_r16, k_r17, k_r18, k_rl, k_sc, k_st, k_a86, k_s86, k_a87, k_s87, k_a88, k_s88, k_a89, k_s89, k_a90, k_s90, k_a91, k_s91, k_a92, k_s92, k_a93, k_s93, k_a94, k_s94, k_a95, k_s95, k_a96, k_s96, k_a97, k_s97, k_a98, k_s98, k_a99, k_s99, k_a100, k_s100, k_a101, k_s101, k_a102, k_s102, k_u_s, k_u_n, k_u_u, Nat.reduceEqDiff, not_false_eq_true, qS_nop, qS_seq, qS_set, qS_setJ, qS_if, qS_brk, qS_ret, qS_retV, qS_throw, qS_inc, qS_cl, qS_ast, qS_aop, qS_fst, qS_fop, qS_sw, qT_eC, qT_eCB, qT_eL, qT_eLJ, qT_eLR, qT_eLB, qT_e1, qT_e2, qT_bCmp, qT_bCmpJ, qT_bAnd, qT_bOr, qT_bNot, qT_eBI, qT_eIf, qT_eLd, qT_eLdR, qT_eLen, qT_eF, qT_eFR, qT_aN, qT_aS, qT_eCl, qT_eClR, qT_eClB, qT_some, qT_x, z_nx_N, z_nx_B, z_nx_R, z_nx_X, z_bk_N, z_bk_B, z_bk_R, z_bk_X, oAdd, oSub, oMul, oNeg, cLt, cLe, cGt, cGe, cEq, cNe, Option.some.injEq, Sum.inl.injEq, Sum.inr.injEq, Prod.mk.injEq, exists_eq_left, exists_eq_left', exists_eq_right, exists_and_left, reduceCtorEq, and_true, true_and, and_false, false_and, List.getElem?_cons_zero, List.getElem?_cons_succ, List.set_cons_zero, List.set_cons_succ, List.replicate, List.length_cons, List.length_nil, List.cons_append, List.nil_append, Nat.reduceAdd, Nat.reduceSub, decide_eq_true_eq, decide_eq_false_iff_not, Bool.true_eq_false, Bool.false_eq_true, true_implies, false_implies, implies_true, Nat.reduceLT, exists_const, z_vB_inj, and_assoc, z_in_iff, oI2L, oL2I, Int.toNat_natCast, z_toNat0, Bool.not_eq_true', Bool.not_eq_false', ne_eq, Bool.not_true, Bool.not_false, Nat.add_zero, Int.add_zero, z_sl_s]
  try simp only [List.cons.injEq, Sum.inl.injEq, Sum.inr.injEq, z_vB_inj, and_true, true_and, exists_eq', exists_eq_left, exists_eq_left', exists_eq_right, exists_eq_right', exists_and_left, exists_and_right, exists_const, if_true, if_false, z_vB1, z_vB0, z_vBP, z_bd, decide_eq_true_eq, decide_eq_false_iff_not, Bool.not_eq_true', Bool.false_eq_true, Bool.true_eq_false, z_dec_iff, z_dec_f, z_dec_inj, true_iff, iff_true, false_iff, iff_false, not_true_eq_false, not_false_eq_true, Classical.not_not]
  (repeat' (first | apply And.intro | intro _)) <;> first | omega | rfl | grind
theorem rf_of {p k : Nat} (hp : p < 4) (hk : k < 9) : m_X6_of [vR 85, vI (p : Int), vI (k : Int)] (k_W S) = some (.inl (some (vI (rP S p k))), k_W S) := by
  unfold m_X6_of
  rw [k_v85]
  apply q_body
  have b6 : INF = 1000000 := rfl
  have e : (9 * (p : Int) + (k : Int)).toNat = 9 * p + k := by omega
  simp only [b_X6_of, e, k_v85, k_o85, k_r0, k_r1, k_r2, k_r3, k_r4, k_r5, k_r6, k_r7, k_r8, k_r9, k_r10, k_r11, k_r12, k_r13, k_r14, k_r15, k_r16, k_r17, k_r18, k_rl, k_sc, k_st, k_a86, k_s86, k_a87, k_s87, k_a88, k_s88, k_a89, k_s89, k_a90, k_s90, k_a91, k_s91, k_a92, k_s92, k_a93, k_s93, k_a94, k_s94, k_a95, k_s95, k_a96, k_s96, k_a97, k_s97, k_a98, k_s98, k_a99, k_s99, k_a100, k_s100, k_a101, k_s101, k_a102, k_s102, k_u_s, k_u_n, k_u_u, Nat.reduceEqDiff, not_false_eq_true, qS_nop, qS_seq, qS_set, qS_setJ, qS_if, qS_brk, qS_ret, qS_retV, qS_throw, qS_inc, qS_cl, qS_ast, qS_aop, qS_fst, qS_fop, qS_sw, qT_eC, qT_eCB, qT_eL, qT_eLJ, qT_eLR, qT_eLB, qT_e1, qT_e2, qT_bCmp, qT_bCmpJ, qT_bAnd, qT_bOr, qT_bNot, qT_eBI, qT_eIf, qT_eLd, qT_eLdR, qT_eLen, qT_eF, qT_eFR, qT_aN, qT_aS, qT_eCl, qT_eClR, qT_eClB, qT_some, qT_x, z_nx_N, z_nx_B, z_nx_R, z_nx_X, z_bk_N, z_bk_B, z_bk_R, z_bk_X, oAdd, oSub, oMul, oNeg, cLt, cLe, cGt, cGe, cEq, cNe, Option.some.injEq, Sum.inl.injEq, Sum.inr.injEq, Prod.mk.injEq, exists_eq_left, exists_eq_left', exists_eq_right, exists_and_left, reduceCtorEq, and_true, true_and, and_false, false_and, List.getElem?_cons_zero, List.getElem?_cons_succ, List.set_cons_zero, List.set_cons_succ, List.replicate, List.length_cons, List.length_nil, List.cons_append, List.nil_append, Nat.reduceAdd, Nat.reduceSub, decide_eq_true_eq, decide_eq_false_iff_not, Bool.true_eq_false, Bool.false_eq_true, true_implies, false_implies, implies_true, Nat.reduceLT, exists_const, z_vB_inj, and_assoc, z_in_iff, oI2L, oL2I, Int.toNat_natCast, z_toNat0, Bool.not_eq_true', Bool.not_eq_false', ne_eq, Bool.not_true, Bool.not_false, Nat.add_zero, Int.add_zero, z_sl_s]
  exact ⟨by omega, by omega, rfl⟩
theorem rf_isTerm {p k : Nat} (hp : p < 4) (hk : k < 9) (hf : pOk (rP S p)) : m_X6_isTerm [vR 85, vI (p : Int), vI (k : Int)] (k_W S) = some (.inl (some (vB (z_dec (rP S p k ≠ INF)))), k_W S) := by
  unfold m_X6_isTerm
  rw [k_v85]
  apply q_body
  have b6 : INF = 1000000 := rfl
  have b := hf.z hk
  simp only [b_X6_isTerm, rf_of hp hk, qS_nop, qS_seq, qS_set, qS_setJ, qS_if, qS_brk, qS_ret, qS_retV, qS_throw, qS_inc, qS_cl, qS_ast, qS_aop, qS_fst, qS_fop, qS_sw, qT_eC, qT_eCB, qT_eL, qT_eLJ, qT_eLR, qT_eLB, qT_e1, qT_e2, qT_bCmp, qT_bCmpJ, qT_bAnd, qT_bOr, qT_bNot, qT_eBI, qT_eIf, qT_eLd, qT_eLdR, qT_eLen, qT_eF, qT_eFR, qT_aN, qT_aS, qT_eCl, qT_eClR, qT_eClB, qT_some, qT_x, z_nx_N, z_nx_B, z_nx_R, z_nx_X, z_bk_N, z_bk_B, z_bk_R, z_bk_X, oAdd, oSub, oMul, oNeg, cLt, cLe, cGt, cGe, cEq, cNe, Option.some.injEq, Sum.inl.injEq, Sum.inr.injEq, Prod.mk.injEq, exists_eq_left, exists_eq_left', exists_eq_right, exists_and_left, reduceCtorEq, and_true, true_and, and_false, false_and, List.getElem?_cons_zero, List.getElem?_cons_succ, List.set_cons_zero, List.set_cons_succ, List.replicate, List.length_cons, List.length_nil, List.cons_append, List.nil_append, Nat.reduceAdd, Nat.reduceSub, decide_eq_true_eq, decide_eq_false_iff_not, Bool.true_eq_false, Bool.false_eq_true, true_implies, false_implies, implies_true, Nat.reduceLT, exists_const, z_vB_inj, and_assoc, z_in_iff, oI2L, oL2I, Int.toNat_natCast, z_toNat0, Bool.not_eq_true', Bool.not_eq_false', ne_eq, Bool.not_true, Bool.not_false, Nat.add_zero, Int.add_zero, z_sl_s]
  try simp only [List.cons.injEq, Sum.inl.injEq, Sum.inr.injEq, z_vB_inj, and_true, true_and, exists_eq', exists_eq_left, exists_eq_left', exists_eq_right, exists_eq_right', exists_and_left, exists_and_right, exists_const, if_true, if_false, z_vB1, z_vB0, z_vBP, z_bd, decide_eq_true_eq, decide_eq_false_iff_not, Bool.not_eq_true', Bool.false_eq_true, Bool.true_eq_false, z_dec_iff, z_dec_f, z_dec_inj, true_iff, iff_true, false_iff, iff_false, not_true_eq_false, not_false_eq_true, Classical.not_not]
  grind
theorem rf_valueOf {p : Nat} (hp : p < 4) (hf : pOk (rP S p)) {x : Int} (h1 : -999 ≤ x) (h2 : x ≤ 999) : m_X6_valueOf [vR 85, vI (p : Int), vI x] (k_W S) = some (.inl (some (vI (z_val (rP S p) x 9))), k_W S) := by
  unfold m_X6_valueOf
  rw [k_v85]
  apply q_body
  have b6 : INF = 1000000 := rfl
  simp only [b_X6_valueOf, qS_nop, qS_seq, qS_set, qS_setJ, qS_if, qS_brk, qS_ret, qS_retV, qS_throw, qS_inc, qS_cl, qS_ast, qS_aop, qS_fst, qS_fop, qS_sw, qT_eC, qT_eCB, qT_eL, qT_eLJ, qT_eLR, qT_eLB, qT_e1, qT_e2, qT_bCmp, qT_bCmpJ, qT_bAnd, qT_bOr, qT_bNot, qT_eBI, qT_eIf, qT_eLd, qT_eLdR, qT_eLen, qT_eF, qT_eFR, qT_aN, qT_aS, qT_eCl, qT_eClR, qT_eClB, qT_some, qT_x, z_nx_N, z_nx_B, z_nx_R, z_nx_X, z_bk_N, z_bk_B, z_bk_R, z_bk_X, oAdd, oSub, oMul, oNeg, cLt, cLe, cGt, cGe, cEq, cNe, Option.some.injEq, Sum.inl.injEq, Sum.inr.injEq, Prod.mk.injEq, exists_eq_left, exists_eq_left', exists_eq_right, exists_and_left, reduceCtorEq, and_true, true_and, and_false, false_and, List.getElem?_cons_zero, List.getElem?_cons_succ, List.set_cons_zero, List.set_cons_succ, List.replicate, List.length_cons, List.length_nil, List.cons_append, List.nil_append, Nat.reduceAdd, Nat.reduceSub, decide_eq_true_eq, decide_eq_false_iff_not, Bool.true_eq_false, Bool.false_eq_true, true_implies, false_implies, implies_true, Nat.reduceLT, exists_const, z_vB_inj, and_assoc, z_in_iff, oI2L, oL2I, Int.toNat_natCast, z_toNat0, Bool.not_eq_true', Bool.not_eq_false', ne_eq, Bool.not_true, Bool.not_false, Nat.add_zero, Int.add_zero, z_sl_s]
  refine qS_for (fun k => [vR 85, vI (p : Int), vI x, vI (z_val (rP S p) x k), vI (k : Int)]) (fun _ => k_W S) (fun _ => True) 9 rfl rfl trivial (by decide) ?_ ?_
  · intro k hk _
    have e1 := rf_isTerm hp hk hf
    have e0 := rf_of (S := S) hp hk
    have e2 := z_val_b hf h1 h2 k (by omega)
    have e3 := e2.2.2 k hk
    have e4 := hf.z hk
    have e5 := rf_lesser (x := z_val (rP S p) x k) (y := rP S p k + (k : Int) * x) (h := k_W S) ⟨by omega, by omega⟩ ⟨by omega, by omega⟩
    simp only [e1, e0, e5, qS_nop, qS_seq, qS_set, qS_setJ, qS_if, qS_brk, qS_ret, qS_retV, qS_throw, qS_inc, qS_cl, qS_ast, qS_aop, qS_fst, qS_fop, qS_sw, qT_eC, qT_eCB, qT_eL, qT_eLJ, qT_eLR, qT_eLB, qT_e1, qT_e2, qT_bCmp, qT_bCmpJ, qT_bAnd, qT_bOr, qT_bNot, qT_eBI, qT_eIf, qT_eLd, qT_eLdR, qT_eLen, qT_eF, qT_eFR, qT_aN, qT_aS, qT_eCl, qT_eClR, qT_eClB, qT_some, qT_x, z_nx_N, z_nx_B, z_nx_R, z_nx_X, z_bk_N, z_bk_B, z_bk_R, z_bk_X, oAdd, oSub, oMul, oNeg, cLt, cLe, cGt, cGe, cEq, cNe, Option.some.injEq, Sum.inl.injEq, Sum.inr.injEq, Prod.mk.injEq, exists_eq_left, exists_eq_left', exists_eq_right, exists_and_left, reduceCtorEq, and_true, true_and, and_false, false_and, List.getElem?_cons_zero, List.getElem?_cons_succ, List.set_cons_zero, List.set_cons_succ, List.replicate, List.length_cons, List.length_nil, List.cons_append, List.nil_append, Nat.reduceAdd, Nat.reduceSub, decide_eq_true_eq, decide_eq_false_iff_not, Bool.true_eq_false, Bool.false_eq_true, true_implies, false_implies, implies_true, Nat.reduceLT, exists_const, z_vB_inj, and_assoc, z_in_iff, oI2L, oL2I, Int.toNat_natCast, z_toNat0, Bool.not_eq_true', Bool.not_eq_false', ne_eq, Bool.not_true, Bool.not_false, Nat.add_zero, Int.add_zero, z_sl_s]
    try simp only [List.cons.injEq, Sum.inl.injEq, Sum.inr.injEq, z_vB_inj, and_true, true_and, exists_eq', exists_eq_left, exists_eq_left', exists_eq_right, exists_eq_right', exists_and_left, exists_and_right, exists_const, if_true, if_false, z_vB1, z_vB0, z_vBP, z_bd, decide_eq_true_eq, decide_eq_false_iff_not, Bool.not_eq_true', Bool.false_eq_true, Bool.true_eq_false, z_dec_iff, z_dec_f, z_dec_inj, true_iff, iff_true, false_iff, iff_false, not_true_eq_false, not_false_eq_true, Classical.not_not]
    refine ⟨by omega, by omega, by omega, by omega, by omega, fun q => ?_, fun q => ?_⟩
    · simp [z_val, q]
    · simp [z_val, q]
  · intro _
    simp only [qS_nop, qS_seq, qS_set, qS_setJ, qS_if, qS_brk, qS_ret, qS_retV, qS_throw, qS_inc, qS_cl, qS_ast, qS_aop, qS_fst, qS_fop, qS_sw, qT_eC, qT_eCB, qT_eL, qT_eLJ, qT_eLR, qT_eLB, qT_e1, qT_e2, qT_bCmp, qT_bCmpJ, qT_bAnd, qT_bOr, qT_bNot, qT_eBI, qT_eIf, qT_eLd, qT_eLdR, qT_eLen, qT_eF, qT_eFR, qT_aN, qT_aS, qT_eCl, qT_eClR, qT_eClB, qT_some, qT_x, z_nx_N, z_nx_B, z_nx_R, z_nx_X, z_bk_N, z_bk_B, z_bk_R, z_bk_X, oAdd, oSub, oMul, oNeg, cLt, cLe, cGt, cGe, cEq, cNe, Option.some.injEq, Sum.inl.injEq, Sum.inr.injEq, Prod.mk.injEq, exists_eq_left, exists_eq_left', exists_eq_right, exists_and_left, reduceCtorEq, and_true, true_and, and_false, false_and, List.getElem?_cons_zero, List.getElem?_cons_succ, List.set_cons_zero, List.set_cons_succ, List.replicate, List.length_cons, List.length_nil, List.cons_append, List.nil_append, Nat.reduceAdd, Nat.reduceSub, decide_eq_true_eq, decide_eq_false_iff_not, Bool.true_eq_false, Bool.false_eq_true, true_implies, false_implies, implies_true, Nat.reduceLT, exists_const, z_vB_inj, and_assoc, z_in_iff, oI2L, oL2I, Int.toNat_natCast, z_toNat0, Bool.not_eq_true', Bool.not_eq_false', ne_eq, Bool.not_true, Bool.not_false, Nat.add_zero, Int.add_zero, z_sl_s]
    omega
def pOv (f : Nat → Int) (i m : Nat) : Prop := ∃ a b : Nat, a < m ∧ i < b ∧ b < 9 ∧ f a ≠ INF ∧ f b ≠ INF ∧ f a * ((b : Int) - i) + f b * ((i : Int) - a) ≤ f i * ((b : Int) - a)
def pOw (f : Nat → Int) (i a m : Nat) : Prop := ∃ b : Nat, i < b ∧ b < m ∧ f a ≠ INF ∧ f b ≠ INF ∧ f a * ((b : Int) - i) + f b * ((i : Int) - a) ≤ f i * ((b : Int) - a)
theorem pOv_s (f : Nat → Int) (i m : Nat) : pOv f i (m + 1) ↔ pOv f i m ∨ pOw f i m 9 := by
  constructor
  · rintro ⟨a, b, h1, h2, h3, h4⟩
    rcases Nat.lt_succ_iff_lt_or_eq.mp h1 with h | rfl
    · exact Or.inl ⟨a, b, h, h2, h3, h4⟩
    · exact Or.inr ⟨b, h2, h3, h4⟩
  · rintro (⟨a, b, h1, h2⟩ | ⟨b, h1, h2, h3⟩)
    · exact ⟨a, b, by omega, h2⟩
    · exact ⟨m, b, by omega, h1, h2, h3⟩
theorem pOw_s (f : Nat → Int) (i a m : Nat) (h : i < m) : pOw f i a (m + 1) ↔ pOw f i a m ∨ (f a ≠ INF ∧ f m ≠ INF ∧ f a * ((m : Int) - i) + f m * ((i : Int) - a) ≤ f i * ((m : Int) - a)) := by
  constructor
  · rintro ⟨b, h1, h2, h3⟩
    rcases Nat.lt_succ_iff_lt_or_eq.mp h2 with h | rfl
    · exact Or.inl ⟨b, h1, h, h3⟩
    · exact Or.inr h3
  · rintro (⟨b, h1, h2, h3⟩ | h3)
    · exact ⟨b, h1, by omega, h3⟩
    · exact ⟨m, h, by omega, h3⟩
theorem pSpare_ov (f : Nat → Int) (i : Nat) : pSpare f i ↔ f i ≠ INF ∧ pOv f i i := Iff.rfl
theorem rf_isOver {p i : Nat} (hp : p < 4) (hi : i < 9) (hf : pOk (rP S p)) : m_X6_isOver [vR 85, vI (p : Int), vI (i : Int)] (k_W S) = some (.inl (some (vB (z_dec (pOv (rP S p) i i)))), k_W S) := by
  unfold m_X6_isOver
  rw [k_v85]
  apply q_body
  have b6 : INF = 1000000 := rfl
  simp only [b_X6_isOver, qS_nop, qS_seq, qS_set, qS_setJ, qS_if, qS_brk, qS_ret, qS_retV, qS_throw, qS_inc, qS_cl, qS_ast, qS_aop, qS_fst, qS_fop, qS_sw, qT_eC, qT_eCB, qT_eL, qT_eLJ, qT_eLR, qT_eLB, qT_e1, qT_e2, qT_bCmp, qT_bCmpJ, qT_bAnd, qT_bOr, qT_bNot, qT_eBI, qT_eIf, qT_eLd, qT_eLdR, qT_eLen, qT_eF, qT_eFR, qT_aN, qT_aS, qT_eCl, qT_eClR, qT_eClB, qT_some, qT_x, z_nx_N, z_nx_B, z_nx_R, z_nx_X, z_bk_N, z_bk_B, z_bk_R, z_bk_X, oAdd, oSub, oMul, oNeg, cLt, cLe, cGt, cGe, cEq, cNe, Option.some.injEq, Sum.inl.injEq, Sum.inr.injEq, Prod.mk.injEq, exists_eq_left, exists_eq_left', exists_eq_right, exists_and_left, reduceCtorEq, and_true, true_and, and_false, false_and, List.getElem?_cons_zero, List.getElem?_cons_succ, List.set_cons_zero, List.set_cons_succ, List.replicate, List.length_cons, List.length_nil, List.cons_append, List.nil_append, Nat.reduceAdd, Nat.reduceSub, decide_eq_true_eq, decide_eq_false_iff_not, Bool.true_eq_false, Bool.false_eq_true, true_implies, false_implies, implies_true, Nat.reduceLT, exists_const, z_vB_inj, and_assoc, z_in_iff, oI2L, oL2I, Int.toNat_natCast, z_toNat0, Bool.not_eq_true', Bool.not_eq_false', ne_eq, Bool.not_true, Bool.not_false, Nat.add_zero, Int.add_zero, z_sl_s]
  refine qS_loop (fun a ρ h' => h' = k_W S ∧ ∃ x y, ρ = [vR 85, vI (p : Int), vI (i : Int), vB (z_dec (pOv (rP S p) i a)), vI (a : Int), x, y]) i ?_ ?_ i 0 z_fuel _ _ (by omega) (z_fuel_lt (by omega)) ⟨rfl, vU, vU, ?_⟩
  · rintro a ρ h' ha ⟨rfl, x, y, rfl⟩
    simp only [qS_nop, qS_seq, qS_set, qS_setJ, qS_if, qS_brk, qS_ret, qS_retV, qS_throw, qS_inc, qS_cl, qS_ast, qS_aop, qS_fst, qS_fop, qS_sw, qT_eC, qT_eCB, qT_eL, qT_eLJ, qT_eLR, qT_eLB, qT_e1, qT_e2, qT_bCmp, qT_bCmpJ, qT_bAnd, qT_bOr, qT_bNot, qT_eBI, qT_eIf, qT_eLd, qT_eLdR, qT_eLen, qT_eF, qT_eFR, qT_aN, qT_aS, qT_eCl, qT_eClR, qT_eClB, qT_some, qT_x, z_nx_N, z_nx_B, z_nx_R, z_nx_X, z_bk_N, z_bk_B, z_bk_R, z_bk_X, oAdd, oSub, oMul, oNeg, cLt, cLe, cGt, cGe, cEq, cNe, Option.some.injEq, Sum.inl.injEq, Sum.inr.injEq, Prod.mk.injEq, exists_eq_left, exists_eq_left', exists_eq_right, exists_and_left, reduceCtorEq, and_true, true_and, and_false, false_and, List.getElem?_cons_zero, List.getElem?_cons_succ, List.set_cons_zero, List.set_cons_succ, List.replicate, List.length_cons, List.length_nil, List.cons_append, List.nil_append, Nat.reduceAdd, Nat.reduceSub, decide_eq_true_eq, decide_eq_false_iff_not, Bool.true_eq_false, Bool.false_eq_true, true_implies, false_implies, implies_true, Nat.reduceLT, exists_const, z_vB_inj, and_assoc, z_in_iff, oI2L, oL2I, Int.toNat_natCast, z_toNat0, Bool.not_eq_true', Bool.not_eq_false', ne_eq, Bool.not_true, Bool.not_false, Nat.add_zero, Int.add_zero, z_sl_s]
    refine ⟨by omega, by omega, by omega, by omega, by omega, ?_⟩
    refine qS_loop (fun j ρ h' => h' = k_W S ∧ ∃ y, ρ = [vR 85, vI (p : Int), vI (i : Int), vB (z_dec (pOv (rP S p) i a ∨ pOw (rP S p) i a (i + 1 + j))), vI (a : Int), vI ((i : Int) + 1 + (j : Int)), y]) (9 - (i + 1)) ?_ ?_ (9 - (i + 1)) 0 z_fuel _ _ (by omega) (z_fuel_lt (by omega)) ⟨rfl, y, ?_⟩
    · rintro j ρ h' hj ⟨rfl, y, rfl⟩
      have e1 := rf_isTerm (p := p) (k := a) hp (by omega) hf
      have e2 := rf_isTerm (p := p) (k := i + 1 + j) hp (by omega) hf
      have o1 := rf_of (S := S) (p := p) (k := a) hp (by omega)
      have o2 := rf_of (S := S) (p := p) (k := i + 1 + j) hp (by omega)
      have o3 := rf_of (S := S) (p := p) (k := i) hp (by omega)
      have b1 := hf.z (k := a) (by omega)
      have b2 := hf.z (k := i + 1 + j) (by omega)
      have b3 := hf.z (k := i) (by omega)
      have m1 := z_mb (x := rP S p a) (y := ((i + 1 + j : Nat) : Int) - (i : Int)) (X := 1000000) ⟨by omega, by omega⟩ ⟨by omega, by omega⟩
      have m2 := z_mb (x := rP S p (i + 1 + j)) (y := (i : Int) - (a : Int)) (X := 1000000) ⟨by omega, by omega⟩ ⟨by omega, by omega⟩
      have m3 := z_mb (x := rP S p i) (y := ((i + 1 + j : Nat) : Int) - (a : Int)) (X := 1000000) ⟨by omega, by omega⟩ ⟨by omega, by omega⟩
      have w := pOw_s (rP S p) i a (i + 1 + j) (by omega)
      rw [show i + 1 + j + 1 = i + 1 + (j + 1) by omega] at w
      rw [show (i : Int) + 1 + (j : Int) = ((i + 1 + j : Nat) : Int) by omega]
      have hb9 : i + 1 + j < 9 := by omega
      generalize hbe : i + 1 + j = b at *
      simp only [e1, e2, o1, o2, o3, w, qS_nop, qS_seq, qS_set, qS_setJ, qS_if, qS_brk, qS_ret, qS_retV, qS_throw, qS_inc, qS_cl, qS_ast, qS_aop, qS_fst, qS_fop, qS_sw, qT_eC, qT_eCB, qT_eL, qT_eLJ, qT_eLR, qT_eLB, qT_e1, qT_e2, qT_bCmp, qT_bCmpJ, qT_bAnd, qT_bOr, qT_bNot, qT_eBI, qT_eIf, qT_eLd, qT_eLdR, qT_eLen, qT_eF, qT_eFR, qT_aN, qT_aS, qT_eCl, qT_eClR, qT_eClB, qT_some, qT_x, z_nx_N, z_nx_B, z_nx_R, z_nx_X, z_bk_N, z_bk_B, z_bk_R, z_bk_X, oAdd, oSub, oMul, oNeg, cLt, cLe, cGt, cGe, cEq, cNe, Option.some.injEq, Sum.inl.injEq, Sum.inr.injEq, Prod.mk.injEq, exists_eq_left, exists_eq_left', exists_eq_right, exists_and_left, reduceCtorEq, and_true, true_and, and_false, false_and, List.getElem?_cons_zero, List.getElem?_cons_succ, List.set_cons_zero, List.set_cons_succ, List.replicate, List.length_cons, List.length_nil, List.cons_append, List.nil_append, Nat.reduceAdd, Nat.reduceSub, decide_eq_true_eq, decide_eq_false_iff_not, Bool.true_eq_false, Bool.false_eq_true, true_implies, false_implies, implies_true, Nat.reduceLT, exists_const, z_vB_inj, and_assoc, z_in_iff, oI2L, oL2I, Int.toNat_natCast, z_toNat0, Bool.not_eq_true', Bool.not_eq_false', ne_eq, Bool.not_true, Bool.not_false, Nat.add_zero, Int.add_zero, z_sl_s]
      try simp only [List.cons.injEq, Sum.inl.injEq, Sum.inr.injEq, z_vB_inj, and_true, true_and, exists_eq', exists_eq_left, exists_eq_left', exists_eq_right, exists_eq_right', exists_and_left, exists_and_right, exists_const, if_true, if_false, z_vB1, z_vB0, z_vBP, z_bd, decide_eq_true_eq, decide_eq_false_iff_not, Bool.not_eq_true', Bool.false_eq_true, Bool.true_eq_false, z_dec_iff, z_dec_f, z_dec_inj, true_iff, iff_true, false_iff, iff_false, not_true_eq_false, not_false_eq_true, Classical.not_not]
      generalize rP S p a * ((b : Int) - (i : Int)) = A at *
      generalize rP S p b * ((i : Int) - (a : Int)) = B at *
      generalize rP S p i * ((b : Int) - (a : Int)) = C at *
      generalize pOv (rP S p) i a = Q1 at *
      generalize pOw (rP S p) i a b = Q2 at *
      try simp only [List.cons.injEq, Sum.inl.injEq, Sum.inr.injEq, z_vB_inj, and_true, true_and, exists_eq', exists_eq_left, exists_eq_left', exists_eq_right, exists_eq_right', exists_and_left, exists_and_right, exists_const, if_true, if_false, z_vB1, z_vB0, z_vBP, z_bd, decide_eq_true_eq, decide_eq_false_iff_not, Bool.not_eq_true', Bool.false_eq_true, Bool.true_eq_false, z_dec_iff, z_dec_f, z_dec_inj, true_iff, iff_true, false_iff, iff_false, not_true_eq_false, not_false_eq_true, Classical.not_not]
      clear e1 e2 o1 o2 o3 w
      (repeat' (first | apply And.intro | intro _)) <;> first | omega | rfl | grind
    · rintro ρ h' ⟨rfl, y, rfl⟩
      have w := pOv_s (rP S p) i a
      rw [show i + 1 + (9 - (i + 1)) = 9 by omega]
      simp only [← w, qS_nop, qS_seq, qS_set, qS_setJ, qS_if, qS_brk, qS_ret, qS_retV, qS_throw, qS_inc, qS_cl, qS_ast, qS_aop, qS_fst, qS_fop, qS_sw, qT_eC, qT_eCB, qT_eL, qT_eLJ, qT_eLR, qT_eLB, qT_e1, qT_e2, qT_bCmp, qT_bCmpJ, qT_bAnd, qT_bOr, qT_bNot, qT_eBI, qT_eIf, qT_eLd, qT_eLdR, qT_eLen, qT_eF, qT_eFR, qT_aN, qT_aS, qT_eCl, qT_eClR, qT_eClB, qT_some, qT_x, z_nx_N, z_nx_B, z_nx_R, z_nx_X, z_bk_N, z_bk_B, z_bk_R, z_bk_X, oAdd, oSub, oMul, oNeg, cLt, cLe, cGt, cGe, cEq, cNe, Option.some.injEq, Sum.inl.injEq, Sum.inr.injEq, Prod.mk.injEq, exists_eq_left, exists_eq_left', exists_eq_right, exists_and_left, reduceCtorEq, and_true, true_and, and_false, false_and, List.getElem?_cons_zero, List.getElem?_cons_succ, List.set_cons_zero, List.set_cons_succ, List.replicate, List.length_cons, List.length_nil, List.cons_append, List.nil_append, Nat.reduceAdd, Nat.reduceSub, decide_eq_true_eq, decide_eq_false_iff_not, Bool.true_eq_false, Bool.false_eq_true, true_implies, false_implies, implies_true, Nat.reduceLT, exists_const, z_vB_inj, and_assoc, z_in_iff, oI2L, oL2I, Int.toNat_natCast, z_toNat0, Bool.not_eq_true', Bool.not_eq_false', ne_eq, Bool.not_true, Bool.not_false, Nat.add_zero, Int.add_zero, z_sl_s]
      refine ⟨by omega, by omega, by omega, by omega, by omega, _, _, rfl⟩
    · rw [show z_dec (pOv (rP S p) i a ∨ pOw (rP S p) i a (i + 1 + 0)) = z_dec (pOv (rP S p) i a) from (z_dec_inj _ _).mpr ⟨fun q => q.elim id (fun ⟨b, h1, h2, _⟩ => absurd h1 (by omega)), Or.inl⟩]
      rfl
  · rintro ρ h' ⟨rfl, x, y, rfl⟩
    simp only [qS_nop, qS_seq, qS_set, qS_setJ, qS_if, qS_brk, qS_ret, qS_retV, qS_throw, qS_inc, qS_cl, qS_ast, qS_aop, qS_fst, qS_fop, qS_sw, qT_eC, qT_eCB, qT_eL, qT_eLJ, qT_eLR, qT_eLB, qT_e1, qT_e2, qT_bCmp, qT_bCmpJ, qT_bAnd, qT_bOr, qT_bNot, qT_eBI, qT_eIf, qT_eLd, qT_eLdR, qT_eLen, qT_eF, qT_eFR, qT_aN, qT_aS, qT_eCl, qT_eClR, qT_eClB, qT_some, qT_x, z_nx_N, z_nx_B, z_nx_R, z_nx_X, z_bk_N, z_bk_B, z_bk_R, z_bk_X, oAdd, oSub, oMul, oNeg, cLt, cLe, cGt, cGe, cEq, cNe, Option.some.injEq, Sum.inl.injEq, Sum.inr.injEq, Prod.mk.injEq, exists_eq_left, exists_eq_left', exists_eq_right, exists_and_left, reduceCtorEq, and_true, true_and, and_false, false_and, List.getElem?_cons_zero, List.getElem?_cons_succ, List.set_cons_zero, List.set_cons_succ, List.replicate, List.length_cons, List.length_nil, List.cons_append, List.nil_append, Nat.reduceAdd, Nat.reduceSub, decide_eq_true_eq, decide_eq_false_iff_not, Bool.true_eq_false, Bool.false_eq_true, true_implies, false_implies, implies_true, Nat.reduceLT, exists_const, z_vB_inj, and_assoc, z_in_iff, oI2L, oL2I, Int.toNat_natCast, z_toNat0, Bool.not_eq_true', Bool.not_eq_false', ne_eq, Bool.not_true, Bool.not_false, Nat.add_zero, Int.add_zero, z_sl_s]
    omega
  · rw [show z_dec (pOv (rP S p) i 0) = false from (z_dec_f _).mpr (fun ⟨a, b, h1, _⟩ => absurd h1 (by omega))]
    rfl
end RP
