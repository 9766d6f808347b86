/-! small facts for the evaluation; helpers of the JDK -/
theorem z_bk_N (K : List z_V → z_Hp → Prop) (Q : z_Oc → z_Hp → Prop) (ρ : List z_V) (h : z_Hp) : z_bk K Q (oN ρ) h ↔ K ρ h := Iff.rfl
theorem z_bk_B (K : List z_V → z_Hp → Prop) (Q : z_Oc → z_Hp → Prop) (ρ : List z_V) (h : z_Hp) : z_bk K Q (oB ρ) h ↔ Q (oN ρ) h := Iff.rfl
theorem z_bk_R (K : List z_V → z_Hp → Prop) (Q : z_Oc → z_Hp → Prop) (r : Option z_V) (h : z_Hp) : z_bk K Q (oR r) h ↔ Q (oR r) h := Iff.rfl
theorem z_bk_X (K : List z_V → z_Hp → Prop) (Q : z_Oc → z_Hp → Prop) (E : String) (h : z_Hp) : z_bk K Q (oX E) h ↔ Q (oX E) h := Iff.rfl
theorem z_vB_inj (a b : Bool) : ((if a = true then (1 : Int) else 0) = if b = true then 1 else 0) ↔ a = b := by cases a <;> cases b <;> simp
theorem z_in_iff (x : Int) : z_in x = true ↔ -2147483648 ≤ x ∧ x < 2147483648 := by
  simp only [z_in, Bool.and_eq_true, decide_eq_true_eq]
theorem z_toNat0 : (0 : Int).toNat = 0 := rfl
/-- no term, no number -/
abbrev INF : Int := 1000000
/-- an array's part k, behind a loop that has come to i -/
theorem z_upto (f g : Nat → Int) (i : Nat) : z_up (fun k => if k < i then g k else f k) i (g i) = fun k => if k < i + 1 then g k else f k := by
  funext k
  unfold z_up
  by_cases h1 : k = i
  · subst h1; simp
  · by_cases h2 : k < i
    · simp [h1, h2, show k < i + 1 by omega]
    · simp [h1, h2, show ¬ k < i + 1 by omega]
theorem z_set_get {h : z_Hp} {r : Nat} {x y : z_Cl} (e : h[r]? = some x) : (h.set r y)[r]? = some y := by
  have : r < h.length := (List.getElem?_eq_some_iff.mp e).1
  simp [this]
theorem z_set_ne {h : z_Hp} {r q : Nat} {y : z_Cl} (e : r ≠ q) : (h.set r y)[q]? = h[q]? := List.getElem?_set_ne e
theorem z_set_id {h : z_Hp} {r : Nat} {x : z_Cl} (e : h[r]? = some x) : h.set r x = h := by
  apply List.ext_getElem?
  intro j
  by_cases hj : r = j
  · subst hj; rw [z_set_get e, e]
  · rw [z_set_ne hj]
theorem s_fill {h : z_Hp} {c n : Nat} {f : Nat → Int} {v : Int} (hc : h[c]? = some (.inr (0, n, f))) (hn : n < 1000) :
    m_J7_fill_53178 [vR c, vI v] h = some (.inl none, h.set c (.inr (0, n, fun k => if k < n then v else f k))) := by
  unfold m_J7_fill_53178
  apply q_body
  simp only [b_J7_fill_53178, q_arr hc (show n < 2147483648 by omega), qS_nop, qS_seq, qS_set, qS_setJ, qS_if, qS_brk, qS_ret, qS_retV, qS_throw, qS_inc, qS_cl, qS_ast, qS_aop, qS_fst, qS_fop, qS_sw, qT_eC, qT_eCB, qT_eL, qT_eLJ, qT_eLR, qT_eLB, qT_e1, qT_e2, qT_bCmp, qT_bCmpJ, qT_bAnd, qT_bOr, qT_bNot, qT_eBI, qT_eIf, qT_eLd, qT_eLdR, qT_eLen, qT_eF, qT_eFR, qT_aN, qT_aS, qT_eCl, qT_eClR, qT_eClB, qT_some, qT_x, z_nx_N, z_nx_B, z_nx_R, z_nx_X, z_bk_N, z_bk_B, z_bk_R, z_bk_X, oAdd, oSub, oMul, oNeg, cLt, cLe, cGt, cGe, cEq, cNe, Option.some.injEq, Sum.inl.injEq, Sum.inr.injEq, Prod.mk.injEq, exists_eq_left, exists_eq_left', exists_eq_right, exists_and_left, reduceCtorEq, and_true, true_and, and_false, false_and, List.getElem?_cons_zero, List.getElem?_cons_succ, List.set_cons_zero, List.set_cons_succ, List.replicate, List.length_cons, List.length_nil, List.cons_append, List.nil_append, Nat.reduceAdd, Nat.reduceSub, decide_eq_true_eq, decide_eq_false_iff_not, Bool.true_eq_false, Bool.false_eq_true, true_implies, false_implies, implies_true, Nat.reduceLT, exists_const, z_vB_inj, and_assoc, z_in_iff, oDiv, oRem, oI2L, oL2I, Int.toNat_natCast, z_toNat0]
  refine qS_loop (fun i ρ h' => ρ = [vR c, vI v, vI (i : Int), vI (n : Int)] ∧ h' = h.set c (.inr (0, n, fun k => if k < i then v else f k))) n ?_ ?_ n 0 z_fuel _ _ ?_ ?_ ?_
  · rintro i _ _ hi ⟨rfl, rfl⟩
    simp only [q_arr (z_set_get hc) (show n < 2147483648 by omega), qS_nop, qS_seq, qS_set, qS_setJ, qS_if, qS_brk, qS_ret, qS_retV, qS_throw, qS_inc, qS_cl, qS_ast, qS_aop, qS_fst, qS_fop, qS_sw, qT_eC, qT_eCB, qT_eL, qT_eLJ, qT_eLR, qT_eLB, qT_e1, qT_e2, qT_bCmp, qT_bCmpJ, qT_bAnd, qT_bOr, qT_bNot, qT_eBI, qT_eIf, qT_eLd, qT_eLdR, qT_eLen, qT_eF, qT_eFR, qT_aN, qT_aS, qT_eCl, qT_eClR, qT_eClB, qT_some, qT_x, z_nx_N, z_nx_B, z_nx_R, z_nx_X, z_bk_N, z_bk_B, z_bk_R, z_bk_X, oAdd, oSub, oMul, oNeg, cLt, cLe, cGt, cGe, cEq, cNe, Option.some.injEq, Sum.inl.injEq, Sum.inr.injEq, Prod.mk.injEq, exists_eq_left, exists_eq_left', exists_eq_right, exists_and_left, reduceCtorEq, and_true, true_and, and_false, false_and, List.getElem?_cons_zero, List.getElem?_cons_succ, List.set_cons_zero, List.set_cons_succ, List.replicate, List.length_cons, List.length_nil, List.cons_append, List.nil_append, Nat.reduceAdd, Nat.reduceSub, decide_eq_true_eq, decide_eq_false_iff_not, Bool.true_eq_false, Bool.false_eq_true, true_implies, false_implies, implies_true, Nat.reduceLT, exists_const, z_vB_inj, and_assoc, z_in_iff, oDiv, oRem, oI2L, oL2I, Int.toNat_natCast, z_toNat0]
    refine ⟨by omega, by omega, by omega, by omega, by omega, by omega, by omega, ?_, ?_⟩
    · simp
    · rw [List.set_set, z_upto f (fun _ => v)]
  · rintro _ _ ⟨rfl, rfl⟩
    simp only [qS_nop, qS_seq, qS_set, qS_setJ, qS_if, qS_brk, qS_ret, qS_retV, qS_throw, qS_inc, qS_cl, qS_ast, qS_aop, qS_fst, qS_fop, qS_sw, qT_eC, qT_eCB, qT_eL, qT_eLJ, qT_eLR, qT_eLB, qT_e1, qT_e2, qT_bCmp, qT_bCmpJ, qT_bAnd, qT_bOr, qT_bNot, qT_eBI, qT_eIf, qT_eLd, qT_eLdR, qT_eLen, qT_eF, qT_eFR, qT_aN, qT_aS, qT_eCl, qT_eClR, qT_eClB, qT_some, qT_x, z_nx_N, z_nx_B, z_nx_R, z_nx_X, z_bk_N, z_bk_B, z_bk_R, z_bk_X, oAdd, oSub, oMul, oNeg, cLt, cLe, cGt, cGe, cEq, cNe, Option.some.injEq, Sum.inl.injEq, Sum.inr.injEq, Prod.mk.injEq, exists_eq_left, exists_eq_left', exists_eq_right, exists_and_left, reduceCtorEq, and_true, true_and, and_false, false_and, List.getElem?_cons_zero, List.getElem?_cons_succ, List.set_cons_zero, List.set_cons_succ, List.replicate, List.length_cons, List.length_nil, List.cons_append, List.nil_append, Nat.reduceAdd, Nat.reduceSub, decide_eq_true_eq, decide_eq_false_iff_not, Bool.true_eq_false, Bool.false_eq_true, true_implies, false_implies, implies_true, Nat.reduceLT, exists_const, z_vB_inj, and_assoc, z_in_iff, oDiv, oRem, oI2L, oL2I, Int.toNat_natCast, z_toNat0]
    refine ⟨by omega, by omega, by omega, by omega, by omega⟩
  · omega
  · exact z_fuel_lt (by omega)
  · refine ⟨rfl, ?_⟩
    simp only [Nat.not_lt_zero, if_false]
    rw [z_set_id hc]
set_option maxRecDepth 100000 in
theorem s_bits (i : Fin 32) (h : z_Hp) : m_J6_bitCount_0f7a4 [vI (i.val : Int)] h = some (.inl (some (vI (((List.range 5).filter (fun k => i.val.testBit k)).length : Nat))), h) := by
  unfold m_J6_bitCount_0f7a4
  apply q_body
  simp only [b_J6_bitCount_0f7a4, qS_nop, qS_seq, qS_set, qS_setJ, qS_if, qS_brk, qS_ret, qS_retV, qS_throw, qS_inc, qS_cl, qS_ast, qS_aop, qS_fst, qS_fop, qS_sw, qT_eC, qT_eCB, qT_eL, qT_eLJ, qT_eLR, qT_eLB, qT_e1, qT_e2, qT_bCmp, qT_bCmpJ, qT_bAnd, qT_bOr, qT_bNot, qT_eBI, qT_eIf, qT_eLd, qT_eLdR, qT_eLen, qT_eF, qT_eFR, qT_aN, qT_aS, qT_eCl, qT_eClR, qT_eClB, qT_some, qT_x, z_nx_N, z_nx_B, z_nx_R, z_nx_X, z_bk_N, z_bk_B, z_bk_R, z_bk_X, oAdd, oSub, oMul, oNeg, cLt, cLe, cGt, cGe, cEq, cNe, Option.some.injEq, Sum.inl.injEq, Sum.inr.injEq, Prod.mk.injEq, exists_eq_left, exists_eq_left', exists_eq_right, exists_and_left, reduceCtorEq, and_true, true_and, and_false, false_and, List.getElem?_cons_zero, List.getElem?_cons_succ, List.set_cons_zero, List.set_cons_succ, List.replicate, List.length_cons, List.length_nil, List.cons_append, List.nil_append, Nat.reduceAdd, Nat.reduceSub, decide_eq_true_eq, decide_eq_false_iff_not, Bool.true_eq_false, Bool.false_eq_true, true_implies, false_implies, implies_true, Nat.reduceLT, exists_const, z_vB_inj, and_assoc, z_in_iff, oDiv, oRem, oI2L, oL2I, Int.toNat_natCast, z_toNat0]
  revert i
  decide +kernel
