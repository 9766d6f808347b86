/-! The reference: its static methods -/
theorem z_bd (b : Bool) (Q : Prop) : (b = z_dec Q) ↔ (b = true ↔ Q) := by
  cases b
  · rw [eq_comm, z_dec_f]; simp
  · rw [eq_comm, z_dec_iff]; simp
theorem z_vB1 (b : Bool) : ((1 : Int) = if b = true then 1 else 0) ↔ b = true := by cases b <;> simp
theorem z_vB0 (b : Bool) : ((0 : Int) = if b = true then 1 else 0) ↔ b = false := by cases b <;> simp
theorem z_vBP (P : Prop) [Decidable P] (b : Bool) : ((if P then (1 : Int) else 0) = if b = true then 1 else 0) ↔ (P ↔ b = true) := by
  by_cases h : P <;> cases b <;> simp [h]
theorem qS_cons {s : z_St} {ρ : List z_V} {h : z_Hp} {Q Q' : z_Oc → z_Hp → Prop} (H : qS s ρ h Q) (K : ∀ o h', Q o h' → Q' o h') : qS s ρ h Q' := by
  unfold qS at H ⊢
  generalize s ρ h = r at H ⊢
  rcases r with _ | ⟨o, h'⟩
  · exact H
  · exact K _ _ H
section RS
variable {h : z_Hp}
theorem rf_isIn {n a b : Int} (hn : -2147483648 ≤ n ∧ n < 2147483648) (ha : -2147483648 ≤ a ∧ a < 2147483648) (hb : -2147483648 ≤ b ∧ b < 2147483648) : m_X6_isIn [vI n, vI a, vI b] h = some (.inl (some (vB (z_dec (a ≤ n ∧ n ≤ b)))), h) := by
  unfold m_X6_isIn
  apply q_body
  have b6 : INF = 1000000 := rfl
  simp only [b_X6_isIn, qS_nop, qS_seq, qS_set, qS_setJ, qS_if, qS_brk, qS_ret, qS_retV, qS_throw, qS_inc, qS_cl, qS_ast, qS_aop, qS_fst, qS_fop, qS_sw, qT_eC, qT_eCB, qT_eL, qT_eLJ, qT_eLR, qT_eLB, qT_e1, qT_e2, qT_bCmp, qT_bCmpJ, qT_bAnd, qT_bOr, qT_bNot, qT_eBI, qT_eIf, qT_eLd, qT_eLdR, qT_eLen, qT_eF, qT_eFR, qT_aN, qT_aS, qT_eCl, qT_eClR, qT_eClB, qT_some, qT_x, z_nx_N, z_nx_B, z_nx_R, z_nx_X, z_bk_N, z_bk_B, z_bk_R, z_bk_X, oAdd, oSub, oMul, oNeg, cLt, cLe, cGt, cGe, cEq, cNe, Option.some.injEq, Sum.inl.injEq, Sum.inr.injEq, Prod.mk.injEq, exists_eq_left, exists_eq_left', exists_eq_right, exists_and_left, reduceCtorEq, and_true, true_and, and_false, false_and, List.getElem?_cons_zero, List.getElem?_cons_succ, List.set_cons_zero, List.set_cons_succ, List.replicate, List.length_cons, List.length_nil, List.cons_append, List.nil_append, Nat.reduceAdd, Nat.reduceSub, decide_eq_true_eq, decide_eq_false_iff_not, Bool.true_eq_false, Bool.false_eq_true, true_implies, false_implies, implies_true, Nat.reduceLT, exists_const, z_vB_inj, and_assoc, z_in_iff, oI2L, oL2I, Int.toNat_natCast, z_toNat0, Bool.not_eq_true', Bool.not_eq_false', ne_eq, Bool.not_true, Bool.not_false, Nat.add_zero, Int.add_zero, z_sl_s]
  try simp only [List.cons.injEq, Sum.inl.injEq, Sum.inr.injEq, z_vB_inj, and_true, true_and, exists_eq', exists_eq_left, exists_eq_left', exists_eq_right, exists_eq_right', exists_and_left, exists_and_right, exists_const, if_true, if_false, z_vB1, z_vB0, z_vBP, z_bd, decide_eq_true_eq, decide_eq_false_iff_not, Bool.not_eq_true', Bool.false_eq_true, Bool.true_eq_false, z_dec_iff, z_dec_f, z_dec_inj, true_iff, iff_true, false_iff, iff_false, not_true_eq_false, not_false_eq_true, Classical.not_not]
  omega
theorem rf_isOne {n : Int} (hn : -2147483648 ≤ n ∧ n < 2147483648) : m_X6_isOne [vI n] h = some (.inl (some (vB (z_dec (0 ≤ n ∧ n ≤ 3)))), h) := by
  unfold m_X6_isOne
  apply q_body
  have b6 : INF = 1000000 := rfl
  have e := rf_isIn (h := h) (n := n) (a := 0) (b := 3) hn (by decide) (by decide)
  simp only [b_X6_isOne, e, qS_nop, qS_seq, qS_set, qS_setJ, qS_if, qS_brk, qS_ret, qS_retV, qS_throw, qS_inc, qS_cl, qS_ast, qS_aop, qS_fst, qS_fop, qS_sw, qT_eC, qT_eCB, qT_eL, qT_eLJ, qT_eLR, qT_eLB, qT_e1, qT_e2, qT_bCmp, qT_bCmpJ, qT_bAnd, qT_bOr, qT_bNot, qT_eBI, qT_eIf, qT_eLd, qT_eLdR, qT_eLen, qT_eF, qT_eFR, qT_aN, qT_aS, qT_eCl, qT_eClR, qT_eClB, qT_some, qT_x, z_nx_N, z_nx_B, z_nx_R, z_nx_X, z_bk_N, z_bk_B, z_bk_R, z_bk_X, oAdd, oSub, oMul, oNeg, cLt, cLe, cGt, cGe, cEq, cNe, Option.some.injEq, Sum.inl.injEq, Sum.inr.injEq, Prod.mk.injEq, exists_eq_left, exists_eq_left', exists_eq_right, exists_and_left, reduceCtorEq, and_true, true_and, and_false, false_and, List.getElem?_cons_zero, List.getElem?_cons_succ, List.set_cons_zero, List.set_cons_succ, List.replicate, List.length_cons, List.length_nil, List.cons_append, List.nil_append, Nat.reduceAdd, Nat.reduceSub, decide_eq_true_eq, decide_eq_false_iff_not, Bool.true_eq_false, Bool.false_eq_true, true_implies, false_implies, implies_true, Nat.reduceLT, exists_const, z_vB_inj, and_assoc, z_in_iff, oI2L, oL2I, Int.toNat_natCast, z_toNat0, Bool.not_eq_true', Bool.not_eq_false', ne_eq, Bool.not_true, Bool.not_false, Nat.add_zero, Int.add_zero, z_sl_s]
  try simp only [List.cons.injEq, Sum.inl.injEq, Sum.inr.injEq, z_vB_inj, and_true, true_and, exists_eq', exists_eq_left, exists_eq_left', exists_eq_right, exists_eq_right', exists_and_left, exists_and_right, exists_const, if_true, if_false, z_vB1, z_vB0, z_vBP, z_bd, decide_eq_true_eq, decide_eq_false_iff_not, Bool.not_eq_true', Bool.false_eq_true, Bool.true_eq_false, z_dec_iff, z_dec_f, z_dec_inj, true_iff, iff_true, false_iff, iff_false, not_true_eq_false, not_false_eq_true, Classical.not_not]
theorem rf_isNumber {n : Int} (hn : -2147483648 ≤ n ∧ n < 2147483648) : m_X6_isNumber [vI n] h = some (.inl (some (vB (z_dec ((-999 ≤ n ∧ n ≤ 999) ∨ n = INF)))), h) := by
  unfold m_X6_isNumber
  apply q_body
  have b6 : INF = 1000000 := rfl
  have e := rf_isIn (h := h) (n := n) (a := -999) (b := 999) hn (by decide) (by decide)
  have b6 : INF = 1000000 := rfl
  simp only [b_X6_isNumber, e, qS_nop, qS_seq, qS_set, qS_setJ, qS_if, qS_brk, qS_ret, qS_retV, qS_throw, qS_inc, qS_cl, qS_ast, qS_aop, qS_fst, qS_fop, qS_sw, qT_eC, qT_eCB, qT_eL, qT_eLJ, qT_eLR, qT_eLB, qT_e1, qT_e2, qT_bCmp, qT_bCmpJ, qT_bAnd, qT_bOr, qT_bNot, qT_eBI, qT_eIf, qT_eLd, qT_eLdR, qT_eLen, qT_eF, qT_eFR, qT_aN, qT_aS, qT_eCl, qT_eClR, qT_eClB, qT_some, qT_x, z_nx_N, z_nx_B, z_nx_R, z_nx_X, z_bk_N, z_bk_B, z_bk_R, z_bk_X, oAdd, oSub, oMul, oNeg, cLt, cLe, cGt, cGe, cEq, cNe, Option.some.injEq, Sum.inl.injEq, Sum.inr.injEq, Prod.mk.injEq, exists_eq_left, exists_eq_left', exists_eq_right, exists_and_left, reduceCtorEq, and_true, true_and, and_false, false_and, List.getElem?_cons_zero, List.getElem?_cons_succ, List.set_cons_zero, List.set_cons_succ, List.replicate, List.length_cons, List.length_nil, List.cons_append, List.nil_append, Nat.reduceAdd, Nat.reduceSub, decide_eq_true_eq, decide_eq_false_iff_not, Bool.true_eq_false, Bool.false_eq_true, true_implies, false_implies, implies_true, Nat.reduceLT, exists_const, z_vB_inj, and_assoc, z_in_iff, oI2L, oL2I, Int.toNat_natCast, z_toNat0, Bool.not_eq_true', Bool.not_eq_false', ne_eq, Bool.not_true, Bool.not_false, Nat.add_zero, Int.add_zero, z_sl_s]
  try simp only [List.cons.injEq, Sum.inl.injEq, Sum.inr.injEq, z_vB_inj, and_true, true_and, exists_eq', exists_eq_left, exists_eq_left', exists_eq_right, exists_eq_right', exists_and_left, exists_and_right, exists_const, if_true, if_false, z_vB1, z_vB0, z_vBP, z_bd, decide_eq_true_eq, decide_eq_false_iff_not, Bool.not_eq_true', Bool.false_eq_true, Bool.true_eq_false, z_dec_iff, z_dec_f, z_dec_inj, true_iff, iff_true, false_iff, iff_false, not_true_eq_false, not_false_eq_true, Classical.not_not]
  omega
theorem rf_isFar {n l : Int} (hn : -2147483648 ≤ n ∧ n < 2147483648) (hl : 0 ≤ l ∧ l < 2147483648) : m_X6_isFar [vI n, vI l] h = some (.inl (some (vB (z_dec (n ≠ INF ∧ (n < -l ∨ l < n))))), h) := by
  unfold m_X6_isFar
  apply q_body
  have b6 : INF = 1000000 := rfl
  have e := rf_isIn (h := h) (n := n) (a := -l) (b := l) hn (by omega) (by omega)
  have b6 : INF = 1000000 := rfl
  simp only [b_X6_isFar, e, qS_nop, qS_seq, qS_set, qS_setJ, qS_if, qS_brk, qS_ret, qS_retV, qS_throw, qS_inc, qS_cl, qS_ast, qS_aop, qS_fst, qS_fop, qS_sw, qT_eC, qT_eCB, qT_eL, qT_eLJ, qT_eLR, qT_eLB, qT_e1, qT_e2, qT_bCmp, qT_bCmpJ, qT_bAnd, qT_bOr, qT_bNot, qT_eBI, qT_eIf, qT_eLd, qT_eLdR, qT_eLen, qT_eF, qT_eFR, qT_aN, qT_aS, qT_eCl, qT_eClR, qT_eClB, qT_some, qT_x, z_nx_N, z_nx_B, z_nx_R, z_nx_X, z_bk_N, z_bk_B, z_bk_R, z_bk_X, oAdd, oSub, oMul, oNeg, cLt, cLe, cGt, cGe, cEq, cNe, Option.some.injEq, Sum.inl.injEq, Sum.inr.injEq, Prod.mk.injEq, exists_eq_left, exists_eq_left', exists_eq_right, exists_and_left, reduceCtorEq, and_true, true_and, and_false, false_and, List.getElem?_cons_zero, List.getElem?_cons_succ, List.set_cons_zero, List.set_cons_succ, List.replicate, List.length_cons, List.length_nil, List.cons_append, List.nil_append, Nat.reduceAdd, Nat.reduceSub, decide_eq_true_eq, decide_eq_false_iff_not, Bool.true_eq_false, Bool.false_eq_true, true_implies, false_implies, implies_true, Nat.reduceLT, exists_const, z_vB_inj, and_assoc, z_in_iff, oI2L, oL2I, Int.toNat_natCast, z_toNat0, Bool.not_eq_true', Bool.not_eq_false', ne_eq, Bool.not_true, Bool.not_false, Nat.add_zero, Int.add_zero, z_sl_s]
  try simp only [List.cons.injEq, Sum.inl.injEq, Sum.inr.injEq, z_vB_inj, and_true, true_and, exists_eq', exists_eq_left, exists_eq_left', exists_eq_right, exists_eq_right', exists_and_left, exists_and_right, exists_const, if_true, if_false, z_vB1, z_vB0, z_vBP, z_bd, decide_eq_true_eq, decide_eq_false_iff_not, Bool.not_eq_true', Bool.false_eq_true, Bool.true_eq_false, z_dec_iff, z_dec_f, z_dec_inj, true_iff, iff_true, false_iff, iff_false, not_true_eq_false, not_false_eq_true, Classical.not_not]
  omega
theorem rf_plus {x y : Int} (hx : -2147483648 ≤ x ∧ x < 2147483648) (hy : -2147483648 ≤ y ∧ y < 2147483648) : m_X6_plus [vI x, vI y] h = some (.inl (some (vI (z_plus x y))), h) := by
  unfold m_X6_plus
  apply q_body
  have b6 : INF = 1000000 := rfl
  have b6 : INF = 1000000 := rfl
  simp only [b_X6_plus, z_plus, qS_nop, qS_seq, qS_set, qS_setJ, qS_if, qS_brk, qS_ret, qS_retV, qS_throw, qS_inc, qS_cl, qS_ast, qS_aop, qS_fst, qS_fop, qS_sw, qT_eC, qT_eCB, qT_eL, qT_eLJ, qT_eLR, qT_eLB, qT_e1, qT_e2, qT_bCmp, qT_bCmpJ, qT_bAnd, qT_bOr, qT_bNot, qT_eBI, qT_eIf, qT_eLd, qT_eLdR, qT_eLen, qT_eF, qT_eFR, qT_aN, qT_aS, qT_eCl, qT_eClR, qT_eClB, qT_some, qT_x, z_nx_N, z_nx_B, z_nx_R, z_nx_X, z_bk_N, z_bk_B, z_bk_R, z_bk_X, oAdd, oSub, oMul, oNeg, cLt, cLe, cGt, cGe, cEq, cNe, Option.some.injEq, Sum.inl.injEq, Sum.inr.injEq, Prod.mk.injEq, exists_eq_left, exists_eq_left', exists_eq_right, exists_and_left, reduceCtorEq, and_true, true_and, and_false, false_and, List.getElem?_cons_zero, List.getElem?_cons_succ, List.set_cons_zero, List.set_cons_succ, List.replicate, List.length_cons, List.length_nil, List.cons_append, List.nil_append, Nat.reduceAdd, Nat.reduceSub, decide_eq_true_eq, decide_eq_false_iff_not, Bool.true_eq_false, Bool.false_eq_true, true_implies, false_implies, implies_true, Nat.reduceLT, exists_const, z_vB_inj, and_assoc, z_in_iff, oI2L, oL2I, Int.toNat_natCast, z_toNat0, Bool.not_eq_true', Bool.not_eq_false', ne_eq, Bool.not_true, Bool.not_false, Nat.add_zero, Int.add_zero, z_sl_s]
  split <;> omega
theorem rf_lesser {x y : Int} (hx : -2147483648 ≤ x ∧ x < 2147483648) (hy : -2147483648 ≤ y ∧ y < 2147483648) : m_X6_lesser [vI x, vI y] h = some (.inl (some (vI (if y < x then y else x))), h) := by
  unfold m_X6_lesser
  apply q_body
  have b6 : INF = 1000000 := rfl
  simp only [b_X6_lesser, qS_nop, qS_seq, qS_set, qS_setJ, qS_if, qS_brk, qS_ret, qS_retV, qS_throw, qS_inc, qS_cl, qS_ast, qS_aop, qS_fst, qS_fop, qS_sw, qT_eC, qT_eCB, qT_eL, qT_eLJ, qT_eLR, qT_eLB, qT_e1, qT_e2, qT_bCmp, qT_bCmpJ, qT_bAnd, qT_bOr, qT_bNot, qT_eBI, qT_eIf, qT_eLd, qT_eLdR, qT_eLen, qT_eF, qT_eFR, qT_aN, qT_aS, qT_eCl, qT_eClR, qT_eClB, qT_some, qT_x, z_nx_N, z_nx_B, z_nx_R, z_nx_X, z_bk_N, z_bk_B, z_bk_R, z_bk_X, oAdd, oSub, oMul, oNeg, cLt, cLe, cGt, cGe, cEq, cNe, Option.some.injEq, Sum.inl.injEq, Sum.inr.injEq, Prod.mk.injEq, exists_eq_left, exists_eq_left', exists_eq_right, exists_and_left, reduceCtorEq, and_true, true_and, and_false, false_and, List.getElem?_cons_zero, List.getElem?_cons_succ, List.set_cons_zero, List.set_cons_succ, List.replicate, List.length_cons, List.length_nil, List.cons_append, List.nil_append, Nat.reduceAdd, Nat.reduceSub, decide_eq_true_eq, decide_eq_false_iff_not, Bool.true_eq_false, Bool.false_eq_true, true_implies, false_implies, implies_true, Nat.reduceLT, exists_const, z_vB_inj, and_assoc, z_in_iff, oI2L, oL2I, Int.toNat_natCast, z_toNat0, Bool.not_eq_true', Bool.not_eq_false', ne_eq, Bool.not_true, Bool.not_false, Nat.add_zero, Int.add_zero, z_sl_s]
  split <;> omega
theorem rf_gcdL (a b : z_V) : ∀ (y x N : Nat) (z : z_V), y < N → x ≤ 1000000000 → y ≤ 1000000000 → qS (sLoop (bCmp cGt (eL 3) (eC 0)) (sSeq (sSet vI 4 (e2 oRem (eL 2) (eL 3))) (sSeq (sSet vI 2 (eL 3)) (sSet vI 3 (eL 4)))) sNop N) [a, b, vI (x : Int), vI (y : Int), z] h (fun o h' => h' = h ∧ ∃ y' z', o = oN [a, b, vI ((Nat.gcd x y : Nat) : Int), y', z']) := by
  intro y
  induction y using Nat.strongRecOn with
  | _ y ih =>
    rcases Nat.eq_zero_or_pos y with h0 | h0
    · subst h0
      intro x N z hN hx hy
      obtain ⟨M, rfl⟩ : ∃ M, N = M + 1 := ⟨N - 1, by omega⟩
      rw [qS_loop_step]
      simp only [qS_nop, qS_seq, qS_set, qS_setJ, qS_if, qS_brk, qS_ret, qS_retV, qS_throw, qS_inc, qS_cl, qS_ast, qS_aop, qS_fst, qS_fop, qS_sw, qT_eC, qT_eCB, qT_eL, qT_eLJ, qT_eLR, qT_eLB, qT_e1, qT_e2, qT_bCmp, qT_bCmpJ, qT_bAnd, qT_bOr, qT_bNot, qT_eBI, qT_eIf, qT_eLd, qT_eLdR, qT_eLen, qT_eF, qT_eFR, qT_aN, qT_aS, qT_eCl, qT_eClR, qT_eClB, qT_some, qT_x, z_nx_N, z_nx_B, z_nx_R, z_nx_X, z_bk_N, z_bk_B, z_bk_R, z_bk_X, oAdd, oSub, oMul, oNeg, cLt, cLe, cGt, cGe, cEq, cNe, Option.some.injEq, Sum.inl.injEq, Sum.inr.injEq, Prod.mk.injEq, exists_eq_left, exists_eq_left', exists_eq_right, exists_and_left, reduceCtorEq, and_true, true_and, and_false, false_and, List.getElem?_cons_zero, List.getElem?_cons_succ, List.set_cons_zero, List.set_cons_succ, List.replicate, List.length_cons, List.length_nil, List.cons_append, List.nil_append, Nat.reduceAdd, Nat.reduceSub, decide_eq_true_eq, decide_eq_false_iff_not, Bool.true_eq_false, Bool.false_eq_true, true_implies, false_implies, implies_true, Nat.reduceLT, exists_const, z_vB_inj, and_assoc, z_in_iff, oI2L, oL2I, Int.toNat_natCast, z_toNat0, Bool.not_eq_true', Bool.not_eq_false', ne_eq, Bool.not_true, Bool.not_false, Nat.add_zero, Int.add_zero, z_sl_s]
      refine ⟨by omega, by omega, by omega, by omega, fun w => absurd w (by omega), fun _ => ⟨vI ((0 : Nat) : Int), z, by rw [Nat.gcd_zero_right]⟩⟩
    · intro x N z hN hx hy
      obtain ⟨M, rfl⟩ : ∃ M, N = M + 1 := ⟨N - 1, by omega⟩
      have hr : x % y < y := Nat.mod_lt _ h0
      have ed : oRem (x : Int) (y : Int) = some ((x % y : Nat) : Int) := by
        unfold oRem
        rw [if_pos (by simp only [Bool.and_eq_true, z_in_iff, decide_eq_true_eq]; omega)]
        rfl
      have := ih (x % y) hr y M (vI ((x % y : Nat) : Int)) (by omega) (by omega) (by omega)
      have eg : Nat.gcd y (x % y) = Nat.gcd x y := by rw [Nat.gcd_comm y, ← Nat.gcd_rec, Nat.gcd_comm]
      rw [eg] at this
      rw [qS_loop_step]
      simp only [ed, qS_nop, qS_seq, qS_set, qS_setJ, qS_if, qS_brk, qS_ret, qS_retV, qS_throw, qS_inc, qS_cl, qS_ast, qS_aop, qS_fst, qS_fop, qS_sw, qT_eC, qT_eCB, qT_eL, qT_eLJ, qT_eLR, qT_eLB, qT_e1, qT_e2, qT_bCmp, qT_bCmpJ, qT_bAnd, qT_bOr, qT_bNot, qT_eBI, qT_eIf, qT_eLd, qT_eLdR, qT_eLen, qT_eF, qT_eFR, qT_aN, qT_aS, qT_eCl, qT_eClR, qT_eClB, qT_some, qT_x, z_nx_N, z_nx_B, z_nx_R, z_nx_X, z_bk_N, z_bk_B, z_bk_R, z_bk_X, oAdd, oSub, oMul, oNeg, cLt, cLe, cGt, cGe, cEq, cNe, Option.some.injEq, Sum.inl.injEq, Sum.inr.injEq, Prod.mk.injEq, exists_eq_left, exists_eq_left', exists_eq_right, exists_and_left, reduceCtorEq, and_true, true_and, and_false, false_and, List.getElem?_cons_zero, List.getElem?_cons_succ, List.set_cons_zero, List.set_cons_succ, List.replicate, List.length_cons, List.length_nil, List.cons_append, List.nil_append, Nat.reduceAdd, Nat.reduceSub, decide_eq_true_eq, decide_eq_false_iff_not, Bool.true_eq_false, Bool.false_eq_true, true_implies, false_implies, implies_true, Nat.reduceLT, exists_const, z_vB_inj, and_assoc, z_in_iff, oI2L, oL2I, Int.toNat_natCast, z_toNat0, Bool.not_eq_true', Bool.not_eq_false', ne_eq, Bool.not_true, Bool.not_false, Nat.add_zero, Int.add_zero, z_sl_s]
      exact ⟨by omega, by omega, by omega, by omega, fun _ => this, fun w => absurd h0 (by omega)⟩
theorem rf_common {x y : Int} (hx : -1000000000 ≤ x ∧ x ≤ 1000000000) (hy : 0 ≤ y ∧ y ≤ 1000000) : m_X6_common [vI x, vI y] h = some (.inl (some (vI ((Nat.gcd x.natAbs y.toNat : Nat) : Int))), h) := by
  obtain ⟨b, rfl⟩ : ∃ b : Nat, y = b := ⟨y.toNat, by omega⟩
  unfold m_X6_common
  apply q_body
  have b6 : INF = 1000000 := rfl
  simp only [b_X6_common, qS_nop, qS_seq, qS_set, qS_setJ, qS_if, qS_brk, qS_ret, qS_retV, qS_throw, qS_inc, qS_cl, qS_ast, qS_aop, qS_fst, qS_fop, qS_sw, qT_eC, qT_eCB, qT_eL, qT_eLJ, qT_eLR, qT_eLB, qT_e1, qT_e2, qT_bCmp, qT_bCmpJ, qT_bAnd, qT_bOr, qT_bNot, qT_eBI, qT_eIf, qT_eLd, qT_eLdR, qT_eLen, qT_eF, qT_eFR, qT_aN, qT_aS, qT_eCl, qT_eClR, qT_eClB, qT_some, qT_x, z_nx_N, z_nx_B, z_nx_R, z_nx_X, z_bk_N, z_bk_B, z_bk_R, z_bk_X, oAdd, oSub, oMul, oNeg, cLt, cLe, cGt, cGe, cEq, cNe, Option.some.injEq, Sum.inl.injEq, Sum.inr.injEq, Prod.mk.injEq, exists_eq_left, exists_eq_left', exists_eq_right, exists_and_left, reduceCtorEq, and_true, true_and, and_false, false_and, List.getElem?_cons_zero, List.getElem?_cons_succ, List.set_cons_zero, List.set_cons_succ, List.replicate, List.length_cons, List.length_nil, List.cons_append, List.nil_append, Nat.reduceAdd, Nat.reduceSub, decide_eq_true_eq, decide_eq_false_iff_not, Bool.true_eq_false, Bool.false_eq_true, true_implies, false_implies, implies_true, Nat.reduceLT, exists_const, z_vB_inj, and_assoc, z_in_iff, oI2L, oL2I, Int.toNat_natCast, z_toNat0, Bool.not_eq_true', Bool.not_eq_false', ne_eq, Bool.not_true, Bool.not_false, Nat.add_zero, Int.add_zero, z_sl_s]
  refine ⟨by omega, by omega, by omega, by omega, fun q => ?_, fun q => ?_⟩
  · have l := rf_gcdL (h := h) (vI x) (vI (b : Int)) b (-x).toNat z_fuel vU (z_fuel_lt (by omega)) (by omega) (by omega)
    rw [show (((-x).toNat : Nat) : Int) = -x by omega, show (-x).toNat = x.natAbs by omega] at l
    refine qS_cons l ?_
    rintro o h' ⟨rfl, y', z', rfl⟩
    simp only [qS_nop, qS_seq, qS_set, qS_setJ, qS_if, qS_brk, qS_ret, qS_retV, qS_throw, qS_inc, qS_cl, qS_ast, qS_aop, qS_fst, qS_fop, qS_sw, qT_eC, qT_eCB, qT_eL, qT_eLJ, qT_eLR, qT_eLB, qT_e1, qT_e2, qT_bCmp, qT_bCmpJ, qT_bAnd, qT_bOr, qT_bNot, qT_eBI, qT_eIf, qT_eLd, qT_eLdR, qT_eLen, qT_eF, qT_eFR, qT_aN, qT_aS, qT_eCl, qT_eClR, qT_eClB, qT_some, qT_x, z_nx_N, z_nx_B, z_nx_R, z_nx_X, z_bk_N, z_bk_B, z_bk_R, z_bk_X, oAdd, oSub, oMul, oNeg, cLt, cLe, cGt, cGe, cEq, cNe, Option.some.injEq, Sum.inl.injEq, Sum.inr.injEq, Prod.mk.injEq, exists_eq_left, exists_eq_left', exists_eq_right, exists_and_left, reduceCtorEq, and_true, true_and, and_false, false_and, List.getElem?_cons_zero, List.getElem?_cons_succ, List.set_cons_zero, List.set_cons_succ, List.replicate, List.length_cons, List.length_nil, List.cons_append, List.nil_append, Nat.reduceAdd, Nat.reduceSub, decide_eq_true_eq, decide_eq_false_iff_not, Bool.true_eq_false, Bool.false_eq_true, true_implies, false_implies, implies_true, Nat.reduceLT, exists_const, z_vB_inj, and_assoc, z_in_iff, oI2L, oL2I, Int.toNat_natCast, z_toNat0, Bool.not_eq_true', Bool.not_eq_false', ne_eq, Bool.not_true, Bool.not_false, Nat.add_zero, Int.add_zero, z_sl_s]
  · have l := rf_gcdL (h := h) (vI x) (vI (b : Int)) b x.toNat z_fuel vU (z_fuel_lt (by omega)) (by omega) (by omega)
    rw [show ((x.toNat : Nat) : Int) = x by omega, show x.toNat = x.natAbs by omega] at l
    refine qS_cons l ?_
    rintro o h' ⟨rfl, y', z', rfl⟩
    simp only [qS_nop, qS_seq, qS_set, qS_setJ, qS_if, qS_brk, qS_ret, qS_retV, qS_throw, qS_inc, qS_cl, qS_ast, qS_aop, qS_fst, qS_fop, qS_sw, qT_eC, qT_eCB, qT_eL, qT_eLJ, qT_eLR, qT_eLB, qT_e1, qT_e2, qT_bCmp, qT_bCmpJ, qT_bAnd, qT_bOr, qT_bNot, qT_eBI, qT_eIf, qT_eLd, qT_eLdR, qT_eLen, qT_eF, qT_eFR, qT_aN, qT_aS, qT_eCl, qT_eClR, qT_eClB, qT_some, qT_x, z_nx_N, z_nx_B, z_nx_R, z_nx_X, z_bk_N, z_bk_B, z_bk_R, z_bk_X, oAdd, oSub, oMul, oNeg, cLt, cLe, cGt, cGe, cEq, cNe, Option.some.injEq, Sum.inl.injEq, Sum.inr.injEq, Prod.mk.injEq, exists_eq_left, exists_eq_left', exists_eq_right, exists_and_left, reduceCtorEq, and_true, true_and, and_false, false_and, List.getElem?_cons_zero, List.getElem?_cons_succ, List.set_cons_zero, List.set_cons_succ, List.replicate, List.length_cons, List.length_nil, List.cons_append, List.nil_append, Nat.reduceAdd, Nat.reduceSub, decide_eq_true_eq, decide_eq_false_iff_not, Bool.true_eq_false, Bool.false_eq_true, true_implies, false_implies, implies_true, Nat.reduceLT, exists_const, z_vB_inj, and_assoc, z_in_iff, oI2L, oL2I, Int.toNat_natCast, z_toNat0, Bool.not_eq_true', Bool.not_eq_false', ne_eq, Bool.not_true, Bool.not_false, Nat.add_zero, Int.add_zero, z_sl_s]
end RS
