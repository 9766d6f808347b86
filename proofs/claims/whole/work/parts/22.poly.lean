/-! Polynomial: what its methods answer (f: the coefficients) -/
def pOk (f : Nat → Int) : Prop := ∀ k, k < 9 → f k = INF ∨ (-9999 ≤ f k ∧ f k ≤ 9999)
theorem pOk.z {f : Nat → Int} (h : pOk f) {k : Nat} (hk : k < 9) : -10000 < f k ∧ f k ≤ 1000000 := by
  have := h k hk
  simp only [INF] at this
  omega
theorem pOk.zi {f : Nat → Int} (h : pOk f) {i : Int} (h0 : 0 ≤ i) (h1 : i < 9) : -10000 < f i.toNat ∧ f i.toNat ≤ 1000000 := h.z (by omega)
section PO
variable {h : z_Hp} {o c : Nat} {f : Nat → Int}
theorem s_hasTerm (ho : h[o]? = some (.inl (4, [vR c]))) (hc : h[c]? = some (.inr (0, 9, f))) (hf : pOk f) {i : Int} (h0 : 0 ≤ i) (h1 : i < 9) :
    m_X4_hasTerm [vR o, vI i] h = some (.inl (some (vB (z_dec (f i.toNat ≠ INF)))), h) := by
  have b1 := hf.zi h0 h1
  unfold m_X4_hasTerm
  rw [q_vm ho]
  apply q_body
  simp only [b_X4_hasTerm, q_obj ho, q_arr hc (by decide), qS_nop, qS_seq, qS_set, qS_setJ, qS_if, qS_brk, qS_ret, qS_retV, qS_throw, qS_inc, qS_cl, qS_ast, qS_aop, qS_fst, qS_fop, qS_sw, qT_eC, qT_eCB, qT_eL, qT_eLJ, qT_eLR, qT_eLB, qT_e1, qT_e2, qT_bCmp, qT_bCmpJ, qT_bAnd, qT_bOr, qT_bNot, qT_eBI, qT_eIf, qT_eLd, qT_eLdR, qT_eLen, qT_eF, qT_eFR, qT_aN, qT_aS, qT_eCl, qT_eClR, qT_eClB, qT_some, qT_x, z_nx_N, z_nx_B, z_nx_R, z_nx_X, z_bk_N, z_bk_B, z_bk_R, z_bk_X, oAdd, oSub, oMul, oNeg, cLt, cLe, cGt, cGe, cEq, cNe, Option.some.injEq, Sum.inl.injEq, Sum.inr.injEq, Prod.mk.injEq, exists_eq_left, exists_eq_left', exists_eq_right, exists_and_left, reduceCtorEq, and_true, true_and, and_false, false_and, List.getElem?_cons_zero, List.getElem?_cons_succ, List.set_cons_zero, List.set_cons_succ, List.replicate, List.length_cons, List.length_nil, List.cons_append, List.nil_append, Nat.reduceAdd, Nat.reduceSub, decide_eq_true_eq, decide_eq_false_iff_not, Bool.true_eq_false, Bool.false_eq_true, true_implies, false_implies, implies_true, Nat.reduceLT, exists_const, z_vB_inj, and_assoc, z_in_iff, oDiv, oRem, oI2L, oL2I, Int.toNat_natCast, z_toNat0]
  rw [← z_dec_d]
  refine ⟨by omega, by omega, by omega, by omega, by omega, by omega, rfl⟩
theorem s_isOnOrAbove (ho : h[o]? = some (.inl (4, [vR c]))) (hc : h[c]? = some (.inr (0, 9, f))) (hf : pOk f) {i a b : Int} (h0 : 0 ≤ a) (h1 : a < i) (h2 : i < b) (h3 : b < 9) :
    m_X4_isOnOrAbove [vR o, vI i, vI a, vI b] h = some (.inl (some (vB (z_dec (f a.toNat * (b - i) + f b.toNat * (i - a) ≤ f i.toNat * (b - a))))), h) := by
  have b1 := hf.zi (i := i) (by omega) (by omega)
  have b2 := hf.zi (i := a) (by omega) (by omega)
  have b3 := hf.zi (i := b) (by omega) (by omega)
  have mul : ∀ x y : Int, -10000 < x → x ≤ 1000000 → 0 ≤ y → y ≤ 9 → -100000 ≤ x * y ∧ x * y ≤ 9000000 := by
    intro x y hx1 hx2 hy1 hy2
    rcases (show y = 0 ∨ y = 1 ∨ y = 2 ∨ y = 3 ∨ y = 4 ∨ y = 5 ∨ y = 6 ∨ y = 7 ∨ y = 8 ∨ y = 9 by omega) with rfl | rfl | rfl | rfl | rfl | rfl | rfl | rfl | rfl | rfl <;> omega
  have m1 := mul (f a.toNat) (b - i) b2.1 b2.2 (by omega) (by omega)
  have m2 := mul (f b.toNat) (i - a) b3.1 b3.2 (by omega) (by omega)
  have m3 := mul (f i.toNat) (b - a) b1.1 b1.2 (by omega) (by omega)
  unfold m_X4_isOnOrAbove
  rw [q_vm ho]
  apply q_body
  simp only [b_X4_isOnOrAbove, q_obj ho, q_arr hc (by decide), qS_nop, qS_seq, qS_set, qS_setJ, qS_if, qS_brk, qS_ret, qS_retV, qS_throw, qS_inc, qS_cl, qS_ast, qS_aop, qS_fst, qS_fop, qS_sw, qT_eC, qT_eCB, qT_eL, qT_eLJ, qT_eLR, qT_eLB, qT_e1, qT_e2, qT_bCmp, qT_bCmpJ, qT_bAnd, qT_bOr, qT_bNot, qT_eBI, qT_eIf, qT_eLd, qT_eLdR, qT_eLen, qT_eF, qT_eFR, qT_aN, qT_aS, qT_eCl, qT_eClR, qT_eClB, qT_some, qT_x, z_nx_N, z_nx_B, z_nx_R, z_nx_X, z_bk_N, z_bk_B, z_bk_R, z_bk_X, oAdd, oSub, oMul, oNeg, cLt, cLe, cGt, cGe, cEq, cNe, Option.some.injEq, Sum.inl.injEq, Sum.inr.injEq, Prod.mk.injEq, exists_eq_left, exists_eq_left', exists_eq_right, exists_and_left, reduceCtorEq, and_true, true_and, and_false, false_and, List.getElem?_cons_zero, List.getElem?_cons_succ, List.set_cons_zero, List.set_cons_succ, List.replicate, List.length_cons, List.length_nil, List.cons_append, List.nil_append, Nat.reduceAdd, Nat.reduceSub, decide_eq_true_eq, decide_eq_false_iff_not, Bool.true_eq_false, Bool.false_eq_true, true_implies, false_implies, implies_true, Nat.reduceLT, exists_const, z_vB_inj, and_assoc, z_in_iff, oDiv, oRem, oI2L, oL2I, Int.toNat_natCast, z_toNat0]
  rw [← z_dec_d]
  refine ⟨by omega, by omega, by omega, by omega, by omega, by omega, by omega, by omega, by omega, by omega, rfl⟩
theorem s_countTerms (ho : h[o]? = some (.inl (4, [vR c]))) (hc : h[c]? = some (.inr (0, 9, f))) (hf : pOk f) :
    m_X4_countTerms [vR o] h = some (.inl (some (vI (z_cnt (fun k => z_dec (f k ≠ INF)) 9))), h) := by
  unfold m_X4_countTerms
  rw [q_vm ho]
  apply q_body
  simp only [b_X4_countTerms, q_obj ho, q_arr hc (by decide), qS_nop, qS_seq, qS_set, qS_setJ, qS_if, qS_brk, qS_ret, qS_retV, qS_throw, qS_inc, qS_cl, qS_ast, qS_aop, qS_fst, qS_fop, qS_sw, qT_eC, qT_eCB, qT_eL, qT_eLJ, qT_eLR, qT_eLB, qT_e1, qT_e2, qT_bCmp, qT_bCmpJ, qT_bAnd, qT_bOr, qT_bNot, qT_eBI, qT_eIf, qT_eLd, qT_eLdR, qT_eLen, qT_eF, qT_eFR, qT_aN, qT_aS, qT_eCl, qT_eClR, qT_eClB, qT_some, qT_x, z_nx_N, z_nx_B, z_nx_R, z_nx_X, z_bk_N, z_bk_B, z_bk_R, z_bk_X, oAdd, oSub, oMul, oNeg, cLt, cLe, cGt, cGe, cEq, cNe, Option.some.injEq, Sum.inl.injEq, Sum.inr.injEq, Prod.mk.injEq, exists_eq_left, exists_eq_left', exists_eq_right, exists_and_left, reduceCtorEq, and_true, true_and, and_false, false_and, List.getElem?_cons_zero, List.getElem?_cons_succ, List.set_cons_zero, List.set_cons_succ, List.replicate, List.length_cons, List.length_nil, List.cons_append, List.nil_append, Nat.reduceAdd, Nat.reduceSub, decide_eq_true_eq, decide_eq_false_iff_not, Bool.true_eq_false, Bool.false_eq_true, true_implies, false_implies, implies_true, Nat.reduceLT, exists_const, z_vB_inj, and_assoc, z_in_iff, oDiv, oRem, oI2L, oL2I, Int.toNat_natCast, z_toNat0]
  refine qS_for (fun k => [vR o, vI (z_cnt (fun k => z_dec (f k ≠ INF)) k), vI (k : Int)]) (fun _ => h) (fun _ => True) 9 rfl rfl trivial (by decide) ?_ ?_
  · intro k hk _
    have e1 := s_hasTerm (i := (k : Int)) ho hc hf (by omega) (by omega)
    have e2 := z_cnt_b (fun k => z_dec (f k ≠ INF)) k
    simp only [e1, qS_nop, qS_seq, qS_set, qS_setJ, qS_if, qS_brk, qS_ret, qS_retV, qS_throw, qS_inc, qS_cl, qS_ast, qS_aop, qS_fst, qS_fop, qS_sw, qT_eC, qT_eCB, qT_eL, qT_eLJ, qT_eLR, qT_eLB, qT_e1, qT_e2, qT_bCmp, qT_bCmpJ, qT_bAnd, qT_bOr, qT_bNot, qT_eBI, qT_eIf, qT_eLd, qT_eLdR, qT_eLen, qT_eF, qT_eFR, qT_aN, qT_aS, qT_eCl, qT_eClR, qT_eClB, qT_some, qT_x, z_nx_N, z_nx_B, z_nx_R, z_nx_X, z_bk_N, z_bk_B, z_bk_R, z_bk_X, oAdd, oSub, oMul, oNeg, cLt, cLe, cGt, cGe, cEq, cNe, Option.some.injEq, Sum.inl.injEq, Sum.inr.injEq, Prod.mk.injEq, exists_eq_left, exists_eq_left', exists_eq_right, exists_and_left, reduceCtorEq, and_true, true_and, and_false, false_and, List.getElem?_cons_zero, List.getElem?_cons_succ, List.set_cons_zero, List.set_cons_succ, List.replicate, List.length_cons, List.length_nil, List.cons_append, List.nil_append, Nat.reduceAdd, Nat.reduceSub, decide_eq_true_eq, decide_eq_false_iff_not, Bool.true_eq_false, Bool.false_eq_true, true_implies, false_implies, implies_true, Nat.reduceLT, exists_const, z_vB_inj, and_assoc, z_in_iff, oDiv, oRem, oI2L, oL2I, Int.toNat_natCast, z_toNat0]
    refine ⟨by omega, by omega, by omega, by omega, by omega, fun q => ?_, fun q => ?_⟩
    · simp [z_cnt, q]
    · simp [z_cnt, q]
  · intro _
    simp only [qS_nop, qS_seq, qS_set, qS_setJ, qS_if, qS_brk, qS_ret, qS_retV, qS_throw, qS_inc, qS_cl, qS_ast, qS_aop, qS_fst, qS_fop, qS_sw, qT_eC, qT_eCB, qT_eL, qT_eLJ, qT_eLR, qT_eLB, qT_e1, qT_e2, qT_bCmp, qT_bCmpJ, qT_bAnd, qT_bOr, qT_bNot, qT_eBI, qT_eIf, qT_eLd, qT_eLdR, qT_eLen, qT_eF, qT_eFR, qT_aN, qT_aS, qT_eCl, qT_eClR, qT_eClB, qT_some, qT_x, z_nx_N, z_nx_B, z_nx_R, z_nx_X, z_bk_N, z_bk_B, z_bk_R, z_bk_X, oAdd, oSub, oMul, oNeg, cLt, cLe, cGt, cGe, cEq, cNe, Option.some.injEq, Sum.inl.injEq, Sum.inr.injEq, Prod.mk.injEq, exists_eq_left, exists_eq_left', exists_eq_right, exists_and_left, reduceCtorEq, and_true, true_and, and_false, false_and, List.getElem?_cons_zero, List.getElem?_cons_succ, List.set_cons_zero, List.set_cons_succ, List.replicate, List.length_cons, List.length_nil, List.cons_append, List.nil_append, Nat.reduceAdd, Nat.reduceSub, decide_eq_true_eq, decide_eq_false_iff_not, Bool.true_eq_false, Bool.false_eq_true, true_implies, false_implies, implies_true, Nat.reduceLT, exists_const, z_vB_inj, and_assoc, z_in_iff, oDiv, oRem, oI2L, oL2I, Int.toNat_natCast, z_toNat0]
    refine ⟨by omega, by omega, by omega, by omega, by omega⟩
def z_val (f : Nat → Int) (x : Int) : Nat → Int
  | 0 => INF
  | n + 1 => if f n = INF then z_val f x n else if f n + n * x < z_val f x n then f n + n * x else z_val f x n
theorem z_val_b {f : Nat → Int} (hf : pOk f) {x : Int} (h1 : -999 ≤ x) (h2 : x ≤ 999) : ∀ n, n ≤ 9 → -20000 < z_val f x n ∧ z_val f x n ≤ 1000000 ∧ ∀ k : Nat, k < 9 → -9000 ≤ (k : Int) * x ∧ (k : Int) * x ≤ 9000 := by
  intro n hn
  have mul : ∀ k : Nat, k < 9 → -9000 ≤ (k : Int) * x ∧ (k : Int) * x ≤ 9000 := by
    intro k hk
    rcases (show k = 0 ∨ k = 1 ∨ k = 2 ∨ k = 3 ∨ k = 4 ∨ k = 5 ∨ k = 6 ∨ k = 7 ∨ k = 8 by omega) with rfl | rfl | rfl | rfl | rfl | rfl | rfl | rfl | rfl <;> omega
  induction n with
  | zero => exact ⟨by show -20000 < (1000000 : Int); decide, by show (1000000 : Int) ≤ 1000000; decide, mul⟩
  | succ n ih =>
    obtain ⟨a1, a2, a3⟩ := ih (by omega)
    have := hf.z (k := n) (by omega)
    have := mul n (by omega)
    unfold z_val
    split
    · exact ⟨a1, a2, a3⟩
    · split
      · exact ⟨by omega, by omega, a3⟩
      · exact ⟨a1, a2, a3⟩
theorem s_leastAt (ho : h[o]? = some (.inl (4, [vR c]))) (hc : h[c]? = some (.inr (0, 9, f))) (hf : pOk f) {x : Int} (h1 : -999 ≤ x) (h2 : x ≤ 999) :
    m_X4_leastAt [vR o, vI x] h = some (.inl (some (vI (z_val f x 9))), h) := by
  unfold m_X4_leastAt
  rw [q_vm ho]
  apply q_body
  simp only [b_X4_leastAt, q_obj ho, q_arr hc (by decide), qS_nop, qS_seq, qS_set, qS_setJ, qS_if, qS_brk, qS_ret, qS_retV, qS_throw, qS_inc, qS_cl, qS_ast, qS_aop, qS_fst, qS_fop, qS_sw, qT_eC, qT_eCB, qT_eL, qT_eLJ, qT_eLR, qT_eLB, qT_e1, qT_e2, qT_bCmp, qT_bCmpJ, qT_bAnd, qT_bOr, qT_bNot, qT_eBI, qT_eIf, qT_eLd, qT_eLdR, qT_eLen, qT_eF, qT_eFR, qT_aN, qT_aS, qT_eCl, qT_eClR, qT_eClB, qT_some, qT_x, z_nx_N, z_nx_B, z_nx_R, z_nx_X, z_bk_N, z_bk_B, z_bk_R, z_bk_X, oAdd, oSub, oMul, oNeg, cLt, cLe, cGt, cGe, cEq, cNe, Option.some.injEq, Sum.inl.injEq, Sum.inr.injEq, Prod.mk.injEq, exists_eq_left, exists_eq_left', exists_eq_right, exists_and_left, reduceCtorEq, and_true, true_and, and_false, false_and, List.getElem?_cons_zero, List.getElem?_cons_succ, List.set_cons_zero, List.set_cons_succ, List.replicate, List.length_cons, List.length_nil, List.cons_append, List.nil_append, Nat.reduceAdd, Nat.reduceSub, decide_eq_true_eq, decide_eq_false_iff_not, Bool.true_eq_false, Bool.false_eq_true, true_implies, false_implies, implies_true, Nat.reduceLT, exists_const, z_vB_inj, and_assoc, z_in_iff, oDiv, oRem, oI2L, oL2I, Int.toNat_natCast, z_toNat0]
  refine qS_for (fun k => [vR o, vI x, vI (z_val f x k), vI (k : Int)]) (fun _ => h) (fun _ => True) 9 rfl rfl trivial (by decide) ?_ ?_
  · intro k hk _
    have e1 := s_hasTerm (i := (k : Int)) ho hc hf (by omega) (by omega)
    have e2 := z_val_b hf h1 h2 k (by omega)
    have e3 := e2.2.2 k hk
    have e4 := hf.z hk
    have e5 := s_min (x := z_val f x k) (y := f k + (k : Int) * x) (h := h) ⟨by omega, by omega⟩ ⟨by omega, by omega⟩
    simp only [e1, q_obj ho, q_arr hc (by decide), e5, qS_nop, qS_seq, qS_set, qS_setJ, qS_if, qS_brk, qS_ret, qS_retV, qS_throw, qS_inc, qS_cl, qS_ast, qS_aop, qS_fst, qS_fop, qS_sw, qT_eC, qT_eCB, qT_eL, qT_eLJ, qT_eLR, qT_eLB, qT_e1, qT_e2, qT_bCmp, qT_bCmpJ, qT_bAnd, qT_bOr, qT_bNot, qT_eBI, qT_eIf, qT_eLd, qT_eLdR, qT_eLen, qT_eF, qT_eFR, qT_aN, qT_aS, qT_eCl, qT_eClR, qT_eClB, qT_some, qT_x, z_nx_N, z_nx_B, z_nx_R, z_nx_X, z_bk_N, z_bk_B, z_bk_R, z_bk_X, oAdd, oSub, oMul, oNeg, cLt, cLe, cGt, cGe, cEq, cNe, Option.some.injEq, Sum.inl.injEq, Sum.inr.injEq, Prod.mk.injEq, exists_eq_left, exists_eq_left', exists_eq_right, exists_and_left, reduceCtorEq, and_true, true_and, and_false, false_and, List.getElem?_cons_zero, List.getElem?_cons_succ, List.set_cons_zero, List.set_cons_succ, List.replicate, List.length_cons, List.length_nil, List.cons_append, List.nil_append, Nat.reduceAdd, Nat.reduceSub, decide_eq_true_eq, decide_eq_false_iff_not, Bool.true_eq_false, Bool.false_eq_true, true_implies, false_implies, implies_true, Nat.reduceLT, exists_const, z_vB_inj, and_assoc, z_in_iff, oDiv, oRem, oI2L, oL2I, Int.toNat_natCast, z_toNat0]
    refine ⟨by omega, by omega, by omega, by omega, by omega, fun q => ?_, fun q => ?_⟩
    · rw [z_dec_iff] at q
      refine ⟨by omega, by omega, ?_⟩
      simp [z_val, q]
    · rw [z_dec_f] at q
      simp only [z_val, ne_eq, Classical.not_not] at q ⊢
      simp [q]
  · intro _
    simp only [qS_nop, qS_seq, qS_set, qS_setJ, qS_if, qS_brk, qS_ret, qS_retV, qS_throw, qS_inc, qS_cl, qS_ast, qS_aop, qS_fst, qS_fop, qS_sw, qT_eC, qT_eCB, qT_eL, qT_eLJ, qT_eLR, qT_eLB, qT_e1, qT_e2, qT_bCmp, qT_bCmpJ, qT_bAnd, qT_bOr, qT_bNot, qT_eBI, qT_eIf, qT_eLd, qT_eLdR, qT_eLen, qT_eF, qT_eFR, qT_aN, qT_aS, qT_eCl, qT_eClR, qT_eClB, qT_some, qT_x, z_nx_N, z_nx_B, z_nx_R, z_nx_X, z_bk_N, z_bk_B, z_bk_R, z_bk_X, oAdd, oSub, oMul, oNeg, cLt, cLe, cGt, cGe, cEq, cNe, Option.some.injEq, Sum.inl.injEq, Sum.inr.injEq, Prod.mk.injEq, exists_eq_left, exists_eq_left', exists_eq_right, exists_and_left, reduceCtorEq, and_true, true_and, and_false, false_and, List.getElem?_cons_zero, List.getElem?_cons_succ, List.set_cons_zero, List.set_cons_succ, List.replicate, List.length_cons, List.length_nil, List.cons_append, List.nil_append, Nat.reduceAdd, Nat.reduceSub, decide_eq_true_eq, decide_eq_false_iff_not, Bool.true_eq_false, Bool.false_eq_true, true_implies, false_implies, implies_true, Nat.reduceLT, exists_const, z_vB_inj, and_assoc, z_in_iff, oDiv, oRem, oI2L, oL2I, Int.toNat_natCast, z_toNat0]
    refine ⟨by omega, by omega, by omega, by omega, by omega⟩
end PO
