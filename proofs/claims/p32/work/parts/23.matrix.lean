/-! Matrix: what its methods answer. The object o, its outer row e, its rows r .. r + 4, n rows that matter, M what they hold -/
def mAt (h : z_Hp) (o e r n : Nat) (M : Nat → Nat → Int) : Prop := h[o]? = some (.inl (2, [vR e, vI (n : Int)])) ∧ (∃ fo, h[e]? = some (.inr (4, 5, fo)) ∧ ∀ i, i < 5 → fo i = ((r + i : Nat) : Int)) ∧ ∀ i, i < 5 → h[r + i]? = some (.inr (0, 5, M i))
def mRow (r : Nat) : Nat → Prop := fun q => r ≤ q ∧ q < r + 5
theorem mAt.kept {h h' : z_Hp} {o e r n : Nat} {M : Nat → Nat → Int} (a : mAt h o e r n M) (ho : h'[o]? = h[o]?) (he : h'[e]? = h[e]?) (hr : ∀ i, i < 5 → h'[r + i]? = h[r + i]?) : mAt h' o e r n M := by
  obtain ⟨a1, ⟨fo, a2, a3⟩, a4⟩ := a
  exact ⟨ho.trans a1, ⟨fo, he.trans a2, a3⟩, fun i hi => (hr i hi).trans (a4 i hi)⟩
/-- a matrix's own cells are apart, by their kinds -/
theorem mAt.ne {h : z_Hp} {o e r n : Nat} {M : Nat → Nat → Int} (a : mAt h o e r n M) : ¬ mRow r o ∧ ¬ mRow r e := by
  obtain ⟨a1, ⟨fo, a2, a3⟩, a4⟩ := a
  refine ⟨fun w => ?_, fun w => ?_⟩
  · have := a4 (o - r) (by have := w.2; have := w.1; omega)
    rw [show r + (o - r) = o by have := w.1; omega, a1] at this
    cases this
  · have := a4 (e - r) (by have := w.2; have := w.1; omega)
    rw [show r + (e - r) = e by have := w.1; omega, a2] at this
    cases this
theorem mAt.set {h : z_Hp} {o e r n : Nat} {M : Nat → Nat → Int} (a : mAt h o e r n M) {i : Nat} (hi : i < 5) (g : Nat → Int) : mAt (h.set (r + i) (.inr (0, 5, g))) o e r n (fun x => if x = i then g else M x) := by
  have ne := a.ne
  obtain ⟨a1, ⟨fo, a2, a3⟩, a4⟩ := a
  refine ⟨(z_set_ne (fun q => ne.1 (by rw [← q]; exact ⟨by omega, by omega⟩))).trans a1, ⟨fo, (z_set_ne (fun q => ne.2 (by rw [← q]; exact ⟨by omega, by omega⟩))).trans a2, a3⟩, fun j hj => ?_⟩
  by_cases hij : j = i
  · subst hij
    rw [z_set_get (a4 j hj)]
    simp
  · rw [z_set_ne (by omega), a4 j hj]
    simp [hij]
section MO
variable {h : z_Hp} {o e r n : Nat} {M : Nat → Nat → Int}
/-- the row i -/
theorem mAt.row (a : mAt h o e r n M) {i : Int} (h0 : 0 ≤ i) (h1 : i < 5) : ∃ fo, z_obj h o 2 = some [vR e, vI (n : Int)] ∧ z_arr h e 4 = some (5, fo) ∧ 0 ≤ fo i.toNat ∧ (fo i.toNat).toNat = r + i.toNat ∧ z_arr h (r + i.toNat) 0 = some (5, M i.toNat) := by
  obtain ⟨a1, ⟨fo, a2, a3⟩, a4⟩ := a
  have := a3 i.toNat (by omega)
  exact ⟨fo, q_obj a1, q_arr a2 (by decide), by omega, by omega, q_arr (a4 _ (by omega)) (by decide)⟩
theorem s_becomeEmpty (a : mAt h o e r n M) {m : Nat} (hm : 1 ≤ m ∧ m ≤ 5) : ∃ h', m_X2_becomeEmpty [vR o, vI (m : Int)] h = some (.inl none, h') ∧ mAt h' o e r m (fun i j => if i < 5 ∧ j < 5 then INF else M i j) ∧ z_fr (fun q => q = o ∨ mRow r q) h h' := by
  unfold m_X2_becomeEmpty
  rw [q_vm a.1]
  apply q_bodyV
  simp only [b_X2_becomeEmpty, q_obj a.1, qS_nop, qS_seq, qS_set, qS_setJ, qS_if, qS_brk, qS_ret, qS_retV, qS_throw, qS_inc, qS_cl, qS_ast, qS_aop, qS_fst, qS_fop, qS_sw, qT_eC, qT_eCB, qT_eL, qT_eLJ, qT_eLR, qT_eLB, qT_e1, qT_e2, qT_bCmp, qT_bCmpJ, qT_bAnd, qT_bOr, qT_bNot, qT_eBI, qT_eIf, qT_eLd, qT_eLdR, qT_eLen, qT_eF, qT_eFR, qT_aN, qT_aS, qT_eCl, qT_eClR, qT_eClB, qT_some, qT_x, z_nx_N, z_nx_B, z_nx_R, z_nx_X, z_bk_N, z_bk_B, z_bk_R, z_bk_X, oAdd, oSub, oMul, oNeg, cLt, cLe, cGt, cGe, cEq, cNe, Option.some.injEq, Sum.inl.injEq, Sum.inr.injEq, Prod.mk.injEq, exists_eq_left, exists_eq_left', exists_eq_right, exists_and_left, reduceCtorEq, and_true, true_and, and_false, false_and, List.getElem?_cons_zero, List.getElem?_cons_succ, List.set_cons_zero, List.set_cons_succ, List.replicate, List.length_cons, List.length_nil, List.cons_append, List.nil_append, Nat.reduceAdd, Nat.reduceSub, decide_eq_true_eq, decide_eq_false_iff_not, Bool.true_eq_false, Bool.false_eq_true, true_implies, false_implies, implies_true, Nat.reduceLT, exists_const, z_vB_inj, and_assoc, z_in_iff, oI2L, oL2I, Int.toNat_natCast, z_toNat0, Bool.not_eq_true', Bool.not_eq_false', ne_eq, Bool.not_true, Bool.not_false, Nat.add_zero, Int.add_zero, z_sl_s]
  have ne := a.ne
  have a' : mAt (h.set o (.inl (2, [vR e, vI (m : Int)]))) o e r m M := by
    obtain ⟨a1, ⟨fo, a2, a3⟩, a4⟩ := a
    have oe : o ≠ e := fun q => by rw [q, a2] at a1; cases a1
    exact ⟨z_set_get a1, ⟨fo, (z_set_ne oe).trans a2, a3⟩, fun i hi => (z_set_ne (fun q => ne.1 (by rw [q]; exact ⟨by omega, by omega⟩))).trans (a4 i hi)⟩
  have f' : z_fr (fun q => q = o ∨ mRow r q) h (h.set o (.inl (2, [vR e, vI (m : Int)]))) := z_fr.set (Or.inl rfl)
  generalize h.set o (.inl (2, [vR e, vI (m : Int)])) = h1 at a' f'
  refine qS_fp (fun k => [vR o, vI (m : Int), vI (k : Int)]) (fun k h' => mAt h' o e r m (fun i j => if i < k ∧ j < 5 then INF else M i j) ∧ z_fr (fun q => q = o ∨ mRow r q) h h') 5 rfl ⟨by simpa using a', f'⟩ (by decide) ?_ ?_
  · intro k h' hk hp
    have b1 := hp.1
    have b2 := hp.2
    simp only [qS_nop, qS_seq, qS_set, qS_setJ, qS_if, qS_brk, qS_ret, qS_retV, qS_throw, qS_inc, qS_cl, qS_ast, qS_aop, qS_fst, qS_fop, qS_sw, qT_eC, qT_eCB, qT_eL, qT_eLJ, qT_eLR, qT_eLB, qT_e1, qT_e2, qT_bCmp, qT_bCmpJ, qT_bAnd, qT_bOr, qT_bNot, qT_eBI, qT_eIf, qT_eLd, qT_eLdR, qT_eLen, qT_eF, qT_eFR, qT_aN, qT_aS, qT_eCl, qT_eClR, qT_eClB, qT_some, qT_x, z_nx_N, z_nx_B, z_nx_R, z_nx_X, z_bk_N, z_bk_B, z_bk_R, z_bk_X, oAdd, oSub, oMul, oNeg, cLt, cLe, cGt, cGe, cEq, cNe, Option.some.injEq, Sum.inl.injEq, Sum.inr.injEq, Prod.mk.injEq, exists_eq_left, exists_eq_left', exists_eq_right, exists_and_left, reduceCtorEq, and_true, true_and, and_false, false_and, List.getElem?_cons_zero, List.getElem?_cons_succ, List.set_cons_zero, List.set_cons_succ, List.replicate, List.length_cons, List.length_nil, List.cons_append, List.nil_append, Nat.reduceAdd, Nat.reduceSub, decide_eq_true_eq, decide_eq_false_iff_not, Bool.true_eq_false, Bool.false_eq_true, true_implies, false_implies, implies_true, Nat.reduceLT, exists_const, z_vB_inj, and_assoc, z_in_iff, oI2L, oL2I, Int.toNat_natCast, z_toNat0, Bool.not_eq_true', Bool.not_eq_false', ne_eq, Bool.not_true, Bool.not_false, Nat.add_zero, Int.add_zero, z_sl_s]
    obtain ⟨fo, c1, c2, c3, c4, c5⟩ := b1.row (i := (k : Int)) (by omega) (by omega)
    rw [Int.toNat_natCast] at c3 c4 c5
    have e1 := s_fill (v := 1000000) (b1.2.2 k hk) (by decide)
    have st := b1.set hk (fun j => if j < 5 then (1000000 : Int) else (if k < k ∧ j < 5 then INF else M k j))
    simp only [c1, c2, c4, e1, qS_nop, qS_seq, qS_set, qS_setJ, qS_if, qS_brk, qS_ret, qS_retV, qS_throw, qS_inc, qS_cl, qS_ast, qS_aop, qS_fst, qS_fop, qS_sw, qT_eC, qT_eCB, qT_eL, qT_eLJ, qT_eLR, qT_eLB, qT_e1, qT_e2, qT_bCmp, qT_bCmpJ, qT_bAnd, qT_bOr, qT_bNot, qT_eBI, qT_eIf, qT_eLd, qT_eLdR, qT_eLen, qT_eF, qT_eFR, qT_aN, qT_aS, qT_eCl, qT_eClR, qT_eClB, qT_some, qT_x, z_nx_N, z_nx_B, z_nx_R, z_nx_X, z_bk_N, z_bk_B, z_bk_R, z_bk_X, oAdd, oSub, oMul, oNeg, cLt, cLe, cGt, cGe, cEq, cNe, Option.some.injEq, Sum.inl.injEq, Sum.inr.injEq, Prod.mk.injEq, exists_eq_left, exists_eq_left', exists_eq_right, exists_and_left, reduceCtorEq, and_true, true_and, and_false, false_and, List.getElem?_cons_zero, List.getElem?_cons_succ, List.set_cons_zero, List.set_cons_succ, List.replicate, List.length_cons, List.length_nil, List.cons_append, List.nil_append, Nat.reduceAdd, Nat.reduceSub, decide_eq_true_eq, decide_eq_false_iff_not, Bool.true_eq_false, Bool.false_eq_true, true_implies, false_implies, implies_true, Nat.reduceLT, exists_const, z_vB_inj, and_assoc, z_in_iff, oI2L, oL2I, Int.toNat_natCast, z_toNat0, Bool.not_eq_true', Bool.not_eq_false', ne_eq, Bool.not_true, Bool.not_false, Nat.add_zero, Int.add_zero, z_sl_s]
    refine ⟨by omega, by omega, by omega, by omega, by omega, by omega, by omega, c3, rfl, ?_, b2.tr (z_fr.set (Or.inr ⟨by omega, by omega⟩))⟩
    have ef : (fun x => if x = k then (fun j => if j < 5 then (1000000 : Int) else (if k < k ∧ j < 5 then INF else M k j)) else fun j => if x < k ∧ j < 5 then INF else M x j) = fun i j => if i < k + 1 ∧ j < 5 then INF else M i j := by
      funext x j
      by_cases hx : x = k
      · subst hx
        by_cases hj : j < 5 <;> simp [hj]
      · by_cases hx2 : x < k
        · simp [hx, hx2, show x < k + 1 by omega]
        · simp [hx, hx2, show ¬ x < k + 1 by omega]
    rw [ef] at st
    exact st
  · intro h' hp
    have b1 := hp.1
    have b2 := hp.2
    simp only [qS_nop, qS_seq, qS_set, qS_setJ, qS_if, qS_brk, qS_ret, qS_retV, qS_throw, qS_inc, qS_cl, qS_ast, qS_aop, qS_fst, qS_fop, qS_sw, qT_eC, qT_eCB, qT_eL, qT_eLJ, qT_eLR, qT_eLB, qT_e1, qT_e2, qT_bCmp, qT_bCmpJ, qT_bAnd, qT_bOr, qT_bNot, qT_eBI, qT_eIf, qT_eLd, qT_eLdR, qT_eLen, qT_eF, qT_eFR, qT_aN, qT_aS, qT_eCl, qT_eClR, qT_eClB, qT_some, qT_x, z_nx_N, z_nx_B, z_nx_R, z_nx_X, z_bk_N, z_bk_B, z_bk_R, z_bk_X, oAdd, oSub, oMul, oNeg, cLt, cLe, cGt, cGe, cEq, cNe, Option.some.injEq, Sum.inl.injEq, Sum.inr.injEq, Prod.mk.injEq, exists_eq_left, exists_eq_left', exists_eq_right, exists_and_left, reduceCtorEq, and_true, true_and, and_false, false_and, List.getElem?_cons_zero, List.getElem?_cons_succ, List.set_cons_zero, List.set_cons_succ, List.replicate, List.length_cons, List.length_nil, List.cons_append, List.nil_append, Nat.reduceAdd, Nat.reduceSub, decide_eq_true_eq, decide_eq_false_iff_not, Bool.true_eq_false, Bool.false_eq_true, true_implies, false_implies, implies_true, Nat.reduceLT, exists_const, z_vB_inj, and_assoc, z_in_iff, oI2L, oL2I, Int.toNat_natCast, z_toNat0, Bool.not_eq_true', Bool.not_eq_false', ne_eq, Bool.not_true, Bool.not_false, Nat.add_zero, Int.add_zero, z_sl_s]
    exact ⟨by omega, by omega, by omega, by omega, by omega, b1, b2⟩
/-- how many numbers, in the first i rows -/
noncomputable def mC (M : Nat → Nat → Int) (n : Nat) : Nat → Int
  | 0 => 0
  | i + 1 => mC M n i + z_cnt (fun j => z_dec (M i j ≠ INF)) n
theorem mC_b (M : Nat → Nat → Int) (n i : Nat) : 0 ≤ mC M n i ∧ mC M n i ≤ i * n := by
  induction i with
  | zero => exact ⟨Int.le_refl 0, by simp [mC]⟩
  | succ i ih =>
    have := z_cnt_b (fun j => z_dec (M i j ≠ INF)) n
    unfold mC
    have e1 : (((i + 1 : Nat) : Int)) * (n : Int) = (i : Int) * n + n := by
      rw [show ((i + 1 : Nat) : Int) = (i : Int) + 1 from rfl, Int.add_mul, Int.one_mul]
    omega
def mBd (M : Nat → Nat → Int) (B : Int) : Prop := ∀ i j, i < 5 → j < 5 → -B ≤ M i j ∧ M i j ≤ 1000000
theorem s_countNumbers (a : mAt h o e r n M) (hn : n ≤ 5) (hb : mBd M 1000000000) : m_X2_countNumbers [vR o] h = some (.inl (some (vI (mC M n n))), h) := by
  unfold m_X2_countNumbers
  rw [q_vm a.1]
  apply q_body
  simp only [b_X2_countNumbers, qS_nop, qS_seq, qS_set, qS_setJ, qS_if, qS_brk, qS_ret, qS_retV, qS_throw, qS_inc, qS_cl, qS_ast, qS_aop, qS_fst, qS_fop, qS_sw, qT_eC, qT_eCB, qT_eL, qT_eLJ, qT_eLR, qT_eLB, qT_e1, qT_e2, qT_bCmp, qT_bCmpJ, qT_bAnd, qT_bOr, qT_bNot, qT_eBI, qT_eIf, qT_eLd, qT_eLdR, qT_eLen, qT_eF, qT_eFR, qT_aN, qT_aS, qT_eCl, qT_eClR, qT_eClB, qT_some, qT_x, z_nx_N, z_nx_B, z_nx_R, z_nx_X, z_bk_N, z_bk_B, z_bk_R, z_bk_X, oAdd, oSub, oMul, oNeg, cLt, cLe, cGt, cGe, cEq, cNe, Option.some.injEq, Sum.inl.injEq, Sum.inr.injEq, Prod.mk.injEq, exists_eq_left, exists_eq_left', exists_eq_right, exists_and_left, reduceCtorEq, and_true, true_and, and_false, false_and, List.getElem?_cons_zero, List.getElem?_cons_succ, List.set_cons_zero, List.set_cons_succ, List.replicate, List.length_cons, List.length_nil, List.cons_append, List.nil_append, Nat.reduceAdd, Nat.reduceSub, decide_eq_true_eq, decide_eq_false_iff_not, Bool.true_eq_false, Bool.false_eq_true, true_implies, false_implies, implies_true, Nat.reduceLT, exists_const, z_vB_inj, and_assoc, z_in_iff, oI2L, oL2I, Int.toNat_natCast, z_toNat0, Bool.not_eq_true', Bool.not_eq_false', ne_eq, Bool.not_true, Bool.not_false, Nat.add_zero, Int.add_zero, z_sl_s]
  refine qS_for (fun k => [vR o, vI (mC M n k), vI (k : Int), z_sl k (vI (n : Int))]) (fun _ => h) (fun _ => True) n rfl rfl trivial (by omega) ?_ ?_
  · intro k hk _
    obtain ⟨fo, c1, c2, c3, c4, c5⟩ := a.row (i := (k : Int)) (by omega) (by omega)
    rw [Int.toNat_natCast] at c3 c4 c5
    have b0 := mC_b M n k
    have bm : (k : Int) * n ≤ 25 := Int.le_trans (Int.mul_le_mul (show (k : Int) ≤ 5 by omega) (show (n : Int) ≤ 5 by omega) (by omega) (by decide)) (by decide)
    simp only [c1, qS_nop, qS_seq, qS_set, qS_setJ, qS_if, qS_brk, qS_ret, qS_retV, qS_throw, qS_inc, qS_cl, qS_ast, qS_aop, qS_fst, qS_fop, qS_sw, qT_eC, qT_eCB, qT_eL, qT_eLJ, qT_eLR, qT_eLB, qT_e1, qT_e2, qT_bCmp, qT_bCmpJ, qT_bAnd, qT_bOr, qT_bNot, qT_eBI, qT_eIf, qT_eLd, qT_eLdR, qT_eLen, qT_eF, qT_eFR, qT_aN, qT_aS, qT_eCl, qT_eClR, qT_eClB, qT_some, qT_x, z_nx_N, z_nx_B, z_nx_R, z_nx_X, z_bk_N, z_bk_B, z_bk_R, z_bk_X, oAdd, oSub, oMul, oNeg, cLt, cLe, cGt, cGe, cEq, cNe, Option.some.injEq, Sum.inl.injEq, Sum.inr.injEq, Prod.mk.injEq, exists_eq_left, exists_eq_left', exists_eq_right, exists_and_left, reduceCtorEq, and_true, true_and, and_false, false_and, List.getElem?_cons_zero, List.getElem?_cons_succ, List.set_cons_zero, List.set_cons_succ, List.replicate, List.length_cons, List.length_nil, List.cons_append, List.nil_append, Nat.reduceAdd, Nat.reduceSub, decide_eq_true_eq, decide_eq_false_iff_not, Bool.true_eq_false, Bool.false_eq_true, true_implies, false_implies, implies_true, Nat.reduceLT, exists_const, z_vB_inj, and_assoc, z_in_iff, oI2L, oL2I, Int.toNat_natCast, z_toNat0, Bool.not_eq_true', Bool.not_eq_false', ne_eq, Bool.not_true, Bool.not_false, Nat.add_zero, Int.add_zero, z_sl_s]
    refine ⟨by omega, by omega, by omega, by omega, by omega, ?_⟩
    refine qS_for (fun j => [vR o, vI (mC M n k + z_cnt (fun j => z_dec (M k j ≠ INF)) j), vI (k : Int), vI (j : Int)]) (fun _ => h) (fun _ => True) n (by simp [z_cnt]) rfl trivial (by omega) ?_ ?_
    · intro j hj _
      have b1 := z_cnt_b (fun j => z_dec (M k j ≠ INF)) j
      have b2 := hb k j (by omega) (by omega)
      simp only [c1, c2, c4, c5, qS_nop, qS_seq, qS_set, qS_setJ, qS_if, qS_brk, qS_ret, qS_retV, qS_throw, qS_inc, qS_cl, qS_ast, qS_aop, qS_fst, qS_fop, qS_sw, qT_eC, qT_eCB, qT_eL, qT_eLJ, qT_eLR, qT_eLB, qT_e1, qT_e2, qT_bCmp, qT_bCmpJ, qT_bAnd, qT_bOr, qT_bNot, qT_eBI, qT_eIf, qT_eLd, qT_eLdR, qT_eLen, qT_eF, qT_eFR, qT_aN, qT_aS, qT_eCl, qT_eClR, qT_eClB, qT_some, qT_x, z_nx_N, z_nx_B, z_nx_R, z_nx_X, z_bk_N, z_bk_B, z_bk_R, z_bk_X, oAdd, oSub, oMul, oNeg, cLt, cLe, cGt, cGe, cEq, cNe, Option.some.injEq, Sum.inl.injEq, Sum.inr.injEq, Prod.mk.injEq, exists_eq_left, exists_eq_left', exists_eq_right, exists_and_left, reduceCtorEq, and_true, true_and, and_false, false_and, List.getElem?_cons_zero, List.getElem?_cons_succ, List.set_cons_zero, List.set_cons_succ, List.replicate, List.length_cons, List.length_nil, List.cons_append, List.nil_append, Nat.reduceAdd, Nat.reduceSub, decide_eq_true_eq, decide_eq_false_iff_not, Bool.true_eq_false, Bool.false_eq_true, true_implies, false_implies, implies_true, Nat.reduceLT, exists_const, z_vB_inj, and_assoc, z_in_iff, oI2L, oL2I, Int.toNat_natCast, z_toNat0, Bool.not_eq_true', Bool.not_eq_false', ne_eq, Bool.not_true, Bool.not_false, Nat.add_zero, Int.add_zero, z_sl_s]
      refine ⟨by omega, by omega, by omega, by omega, by omega, by omega, by omega, c3, by omega, by omega, by omega, by omega, by omega, by omega, fun w => ?_, fun w => ?_⟩
      · simp [z_cnt, (z_dec_iff (M k j ≠ INF)).mpr w, Int.add_assoc]
      · have w2 : ¬ (M k j ≠ INF) := fun z => by first | exact w z | exact absurd z w
        simp [z_cnt, (z_dec_f (M k j ≠ INF)).mpr w2]
    · intro _
      simp only [c1, qS_nop, qS_seq, qS_set, qS_setJ, qS_if, qS_brk, qS_ret, qS_retV, qS_throw, qS_inc, qS_cl, qS_ast, qS_aop, qS_fst, qS_fop, qS_sw, qT_eC, qT_eCB, qT_eL, qT_eLJ, qT_eLR, qT_eLB, qT_e1, qT_e2, qT_bCmp, qT_bCmpJ, qT_bAnd, qT_bOr, qT_bNot, qT_eBI, qT_eIf, qT_eLd, qT_eLdR, qT_eLen, qT_eF, qT_eFR, qT_aN, qT_aS, qT_eCl, qT_eClR, qT_eClB, qT_some, qT_x, z_nx_N, z_nx_B, z_nx_R, z_nx_X, z_bk_N, z_bk_B, z_bk_R, z_bk_X, oAdd, oSub, oMul, oNeg, cLt, cLe, cGt, cGe, cEq, cNe, Option.some.injEq, Sum.inl.injEq, Sum.inr.injEq, Prod.mk.injEq, exists_eq_left, exists_eq_left', exists_eq_right, exists_and_left, reduceCtorEq, and_true, true_and, and_false, false_and, List.getElem?_cons_zero, List.getElem?_cons_succ, List.set_cons_zero, List.set_cons_succ, List.replicate, List.length_cons, List.length_nil, List.cons_append, List.nil_append, Nat.reduceAdd, Nat.reduceSub, decide_eq_true_eq, decide_eq_false_iff_not, Bool.true_eq_false, Bool.false_eq_true, true_implies, false_implies, implies_true, Nat.reduceLT, exists_const, z_vB_inj, and_assoc, z_in_iff, oI2L, oL2I, Int.toNat_natCast, z_toNat0, Bool.not_eq_true', Bool.not_eq_false', ne_eq, Bool.not_true, Bool.not_false, Nat.add_zero, Int.add_zero, z_sl_s]
      exact ⟨by omega, by omega, by omega, by omega, by omega, rfl⟩
  · intro _
    simp only [q_obj a.1, qS_nop, qS_seq, qS_set, qS_setJ, qS_if, qS_brk, qS_ret, qS_retV, qS_throw, qS_inc, qS_cl, qS_ast, qS_aop, qS_fst, qS_fop, qS_sw, qT_eC, qT_eCB, qT_eL, qT_eLJ, qT_eLR, qT_eLB, qT_e1, qT_e2, qT_bCmp, qT_bCmpJ, qT_bAnd, qT_bOr, qT_bNot, qT_eBI, qT_eIf, qT_eLd, qT_eLdR, qT_eLen, qT_eF, qT_eFR, qT_aN, qT_aS, qT_eCl, qT_eClR, qT_eClB, qT_some, qT_x, z_nx_N, z_nx_B, z_nx_R, z_nx_X, z_bk_N, z_bk_B, z_bk_R, z_bk_X, oAdd, oSub, oMul, oNeg, cLt, cLe, cGt, cGe, cEq, cNe, Option.some.injEq, Sum.inl.injEq, Sum.inr.injEq, Prod.mk.injEq, exists_eq_left, exists_eq_left', exists_eq_right, exists_and_left, reduceCtorEq, and_true, true_and, and_false, false_and, List.getElem?_cons_zero, List.getElem?_cons_succ, List.set_cons_zero, List.set_cons_succ, List.replicate, List.length_cons, List.length_nil, List.cons_append, List.nil_append, Nat.reduceAdd, Nat.reduceSub, decide_eq_true_eq, decide_eq_false_iff_not, Bool.true_eq_false, Bool.false_eq_true, true_implies, false_implies, implies_true, Nat.reduceLT, exists_const, z_vB_inj, and_assoc, z_in_iff, oI2L, oL2I, Int.toNat_natCast, z_toNat0, Bool.not_eq_true', Bool.not_eq_false', ne_eq, Bool.not_true, Bool.not_false, Nat.add_zero, Int.add_zero, z_sl_s]
    exact ⟨by omega, by omega, by omega, by omega, by omega⟩
theorem mBd.mono {B B' : Int} (hb : mBd M B) (h : B ≤ B') : mBd M B' := fun i j hi hj => ⟨by have := (hb i j hi hj).1; omega, (hb i j hi hj).2⟩
def mNum (M : Nat → Nat → Int) (n : Nat) : Prop := ∀ i j, i < n → j < n → M i j ≠ INF
theorem z_cnt_all (p : Nat → Bool) (n : Nat) : z_cnt p n = n ↔ ∀ k, k < n → p k = true := by
  induction n with
  | zero => exact ⟨fun _ k hk => absurd hk (Nat.not_lt_zero k), fun _ => rfl⟩
  | succ n ih =>
    have hb := z_cnt_b p n
    unfold z_cnt
    constructor
    · intro q k hk
      by_cases hp : p n = true
      · rcases Nat.lt_succ_iff_lt_or_eq.mp hk with hk | rfl
        · refine ih.mp ?_ k hk
          rw [if_pos hp] at q
          omega
        · exact hp
      · rw [if_neg hp] at q
        omega
    · intro q
      rw [ih.mpr (fun k hk => q k (by omega)), if_pos (q n (by omega))]
      omega
theorem mC_all (M : Nat → Nat → Int) (n i : Nat) : mC M n i = i * n ↔ ∀ x j, x < i → j < n → M x j ≠ INF := by
  induction i with
  | zero => exact ⟨fun _ x j hx => absurd hx (Nat.not_lt_zero x), fun _ => by simp [mC]⟩
  | succ i ih =>
    have h1 := mC_b M n i
    have h2 := z_cnt_b (fun j => z_dec (M i j ≠ INF)) n
    have h3 := z_cnt_all (fun j => z_dec (M i j ≠ INF)) n
    have e1 : (((i + 1 : Nat) : Int)) * (n : Int) = (i : Int) * n + n := by
      rw [show ((i + 1 : Nat) : Int) = (i : Int) + 1 from rfl, Int.add_mul, Int.one_mul]
    unfold mC
    constructor
    · intro q x j hx hj
      have q1 : mC M n i = i * n := by omega
      have q2 : z_cnt (fun j => z_dec (M i j ≠ INF)) n = n := by omega
      rcases Nat.lt_succ_iff_lt_or_eq.mp hx with hx | rfl
      · exact ih.mp q1 x j hx hj
      · exact (z_dec_iff _).mp (h3.mp q2 j hj)
    · intro q
      have q1 := ih.mpr (fun x j hx hj => q x j (by omega) hj)
      have q2 := h3.mpr (fun j hj => (z_dec_iff _).mpr (q i j (by omega) hj))
      omega
theorem s_hasNumbersAlone (a : mAt h o e r n M) (hn : n ≤ 5) (hb : mBd M 1000000000) : m_X2_hasNumbersAlone [vR o] h = some (.inl (some (vB (z_dec (mNum M n)))), h) := by
  have e1 := s_countNumbers a hn hb
  have b0 := mC_b M n n
  have bm : (n : Int) * n ≤ 25 := Int.le_trans (Int.mul_le_mul (show (n : Int) ≤ 5 by omega) (show (n : Int) ≤ 5 by omega) (by omega) (by decide)) (by decide)
  unfold m_X2_hasNumbersAlone
  rw [q_vm a.1]
  apply q_body
  simp only [b_X2_hasNumbersAlone, e1, q_obj a.1, qS_nop, qS_seq, qS_set, qS_setJ, qS_if, qS_brk, qS_ret, qS_retV, qS_throw, qS_inc, qS_cl, qS_ast, qS_aop, qS_fst, qS_fop, qS_sw, qT_eC, qT_eCB, qT_eL, qT_eLJ, qT_eLR, qT_eLB, qT_e1, qT_e2, qT_bCmp, qT_bCmpJ, qT_bAnd, qT_bOr, qT_bNot, qT_eBI, qT_eIf, qT_eLd, qT_eLdR, qT_eLen, qT_eF, qT_eFR, qT_aN, qT_aS, qT_eCl, qT_eClR, qT_eClB, qT_some, qT_x, z_nx_N, z_nx_B, z_nx_R, z_nx_X, z_bk_N, z_bk_B, z_bk_R, z_bk_X, oAdd, oSub, oMul, oNeg, cLt, cLe, cGt, cGe, cEq, cNe, Option.some.injEq, Sum.inl.injEq, Sum.inr.injEq, Prod.mk.injEq, exists_eq_left, exists_eq_left', exists_eq_right, exists_and_left, reduceCtorEq, and_true, true_and, and_false, false_and, List.getElem?_cons_zero, List.getElem?_cons_succ, List.set_cons_zero, List.set_cons_succ, List.replicate, List.length_cons, List.length_nil, List.cons_append, List.nil_append, Nat.reduceAdd, Nat.reduceSub, decide_eq_true_eq, decide_eq_false_iff_not, Bool.true_eq_false, Bool.false_eq_true, true_implies, false_implies, implies_true, Nat.reduceLT, exists_const, z_vB_inj, and_assoc, z_in_iff, oI2L, oL2I, Int.toNat_natCast, z_toNat0, Bool.not_eq_true', Bool.not_eq_false', ne_eq, Bool.not_true, Bool.not_false, Nat.add_zero, Int.add_zero, z_sl_s]
  refine ⟨by omega, by omega, by omega, by omega, ?_⟩
  rw [z_dec_d, z_dec_inj, mC_all]
  exact Iff.rfl
def mWi (M : Nat → Nat → Int) (n : Nat) : Prop := ∀ i j, i < n → j < n → M i j = INF ∨ (-99999 ≤ M i j ∧ M i j ≤ 99999)
theorem s_isWithinM (a : mAt h o e r n M) (hn : n ≤ 5) (hb : mBd M 1000000000) : m_X2_isWithinLimit [vR o] h = some (.inl (some (vB (z_dec (mWi M n)))), h) := by
  unfold m_X2_isWithinLimit
  rw [q_vm a.1]
  apply q_body
  simp only [b_X2_isWithinLimit, qS_nop, qS_seq, qS_set, qS_setJ, qS_if, qS_brk, qS_ret, qS_retV, qS_throw, qS_inc, qS_cl, qS_ast, qS_aop, qS_fst, qS_fop, qS_sw, qT_eC, qT_eCB, qT_eL, qT_eLJ, qT_eLR, qT_eLB, qT_e1, qT_e2, qT_bCmp, qT_bCmpJ, qT_bAnd, qT_bOr, qT_bNot, qT_eBI, qT_eIf, qT_eLd, qT_eLdR, qT_eLen, qT_eF, qT_eFR, qT_aN, qT_aS, qT_eCl, qT_eClR, qT_eClB, qT_some, qT_x, z_nx_N, z_nx_B, z_nx_R, z_nx_X, z_bk_N, z_bk_B, z_bk_R, z_bk_X, oAdd, oSub, oMul, oNeg, cLt, cLe, cGt, cGe, cEq, cNe, Option.some.injEq, Sum.inl.injEq, Sum.inr.injEq, Prod.mk.injEq, exists_eq_left, exists_eq_left', exists_eq_right, exists_and_left, reduceCtorEq, and_true, true_and, and_false, false_and, List.getElem?_cons_zero, List.getElem?_cons_succ, List.set_cons_zero, List.set_cons_succ, List.replicate, List.length_cons, List.length_nil, List.cons_append, List.nil_append, Nat.reduceAdd, Nat.reduceSub, decide_eq_true_eq, decide_eq_false_iff_not, Bool.true_eq_false, Bool.false_eq_true, true_implies, false_implies, implies_true, Nat.reduceLT, exists_const, z_vB_inj, and_assoc, z_in_iff, oI2L, oL2I, Int.toNat_natCast, z_toNat0, Bool.not_eq_true', Bool.not_eq_false', ne_eq, Bool.not_true, Bool.not_false, Nat.add_zero, Int.add_zero, z_sl_s]
  refine qS_for (fun k => [vR o, vI (k : Int), z_sl k (vI (n : Int))]) (fun _ => h) (fun k => ∀ i j, i < k → j < n → M i j = INF ∨ (-99999 ≤ M i j ∧ M i j ≤ 99999)) n rfl rfl (fun i j hi => absurd hi (Nat.not_lt_zero i)) (by omega) ?_ ?_
  · intro k hk hP
    obtain ⟨fo, c1, c2, c3, c4, c5⟩ := a.row (i := (k : Int)) (by omega) (by omega)
    rw [Int.toNat_natCast] at c3 c4 c5
    simp only [c1, qS_nop, qS_seq, qS_set, qS_setJ, qS_if, qS_brk, qS_ret, qS_retV, qS_throw, qS_inc, qS_cl, qS_ast, qS_aop, qS_fst, qS_fop, qS_sw, qT_eC, qT_eCB, qT_eL, qT_eLJ, qT_eLR, qT_eLB, qT_e1, qT_e2, qT_bCmp, qT_bCmpJ, qT_bAnd, qT_bOr, qT_bNot, qT_eBI, qT_eIf, qT_eLd, qT_eLdR, qT_eLen, qT_eF, qT_eFR, qT_aN, qT_aS, qT_eCl, qT_eClR, qT_eClB, qT_some, qT_x, z_nx_N, z_nx_B, z_nx_R, z_nx_X, z_bk_N, z_bk_B, z_bk_R, z_bk_X, oAdd, oSub, oMul, oNeg, cLt, cLe, cGt, cGe, cEq, cNe, Option.some.injEq, Sum.inl.injEq, Sum.inr.injEq, Prod.mk.injEq, exists_eq_left, exists_eq_left', exists_eq_right, exists_and_left, reduceCtorEq, and_true, true_and, and_false, false_and, List.getElem?_cons_zero, List.getElem?_cons_succ, List.set_cons_zero, List.set_cons_succ, List.replicate, List.length_cons, List.length_nil, List.cons_append, List.nil_append, Nat.reduceAdd, Nat.reduceSub, decide_eq_true_eq, decide_eq_false_iff_not, Bool.true_eq_false, Bool.false_eq_true, true_implies, false_implies, implies_true, Nat.reduceLT, exists_const, z_vB_inj, and_assoc, z_in_iff, oI2L, oL2I, Int.toNat_natCast, z_toNat0, Bool.not_eq_true', Bool.not_eq_false', ne_eq, Bool.not_true, Bool.not_false, Nat.add_zero, Int.add_zero, z_sl_s]
    refine ⟨by omega, by omega, by omega, by omega, by omega, ?_⟩
    refine qS_for (fun j => [vR o, vI (k : Int), vI (j : Int)]) (fun _ => h) (fun n => ∀ j, j < n → M k j = INF ∨ (-99999 ≤ M k j ∧ M k j ≤ 99999)) n rfl rfl (fun j hj => absurd hj (Nat.not_lt_zero j)) (by omega) ?_ ?_
    · intro j hj hP2
      have b2 := hb k j (by omega) (by omega)
      have e1 := s_isBeyond (x := M k j) (y := 99999) (h := h) ⟨by omega, by omega⟩ ⟨by decide, by decide⟩
      simp only [c1, c2, c4, c5, e1, qS_nop, qS_seq, qS_set, qS_setJ, qS_if, qS_brk, qS_ret, qS_retV, qS_throw, qS_inc, qS_cl, qS_ast, qS_aop, qS_fst, qS_fop, qS_sw, qT_eC, qT_eCB, qT_eL, qT_eLJ, qT_eLR, qT_eLB, qT_e1, qT_e2, qT_bCmp, qT_bCmpJ, qT_bAnd, qT_bOr, qT_bNot, qT_eBI, qT_eIf, qT_eLd, qT_eLdR, qT_eLen, qT_eF, qT_eFR, qT_aN, qT_aS, qT_eCl, qT_eClR, qT_eClB, qT_some, qT_x, z_nx_N, z_nx_B, z_nx_R, z_nx_X, z_bk_N, z_bk_B, z_bk_R, z_bk_X, oAdd, oSub, oMul, oNeg, cLt, cLe, cGt, cGe, cEq, cNe, Option.some.injEq, Sum.inl.injEq, Sum.inr.injEq, Prod.mk.injEq, exists_eq_left, exists_eq_left', exists_eq_right, exists_and_left, reduceCtorEq, and_true, true_and, and_false, false_and, List.getElem?_cons_zero, List.getElem?_cons_succ, List.set_cons_zero, List.set_cons_succ, List.replicate, List.length_cons, List.length_nil, List.cons_append, List.nil_append, Nat.reduceAdd, Nat.reduceSub, decide_eq_true_eq, decide_eq_false_iff_not, Bool.true_eq_false, Bool.false_eq_true, true_implies, false_implies, implies_true, Nat.reduceLT, exists_const, z_vB_inj, and_assoc, z_in_iff, oI2L, oL2I, Int.toNat_natCast, z_toNat0, Bool.not_eq_true', Bool.not_eq_false', ne_eq, Bool.not_true, Bool.not_false, Nat.add_zero, Int.add_zero, z_sl_s]
      refine ⟨by omega, by omega, by omega, by omega, by omega, by omega, by omega, c3, by omega, by omega, fun w => ?_, fun w => ⟨rfl, fun i hi => ?_⟩⟩
      · rw [z_dec_iff] at w
        refine ((z_dec_f _).mpr (fun w2 => ?_)).symm
        rcases w2 k j hk hj with q | q
        · exact w.1 q
        · omega
      · rw [z_dec_f] at w
        rcases Nat.lt_succ_iff_lt_or_eq.mp hi with hi | rfl
        · exact hP2 i hi
        · by_cases q : M k i = INF
          · exact Or.inl q
          · exact Or.inr (by have := fun z => w ⟨q, z⟩; omega)
    · intro hP2
      simp only [c1, qS_nop, qS_seq, qS_set, qS_setJ, qS_if, qS_brk, qS_ret, qS_retV, qS_throw, qS_inc, qS_cl, qS_ast, qS_aop, qS_fst, qS_fop, qS_sw, qT_eC, qT_eCB, qT_eL, qT_eLJ, qT_eLR, qT_eLB, qT_e1, qT_e2, qT_bCmp, qT_bCmpJ, qT_bAnd, qT_bOr, qT_bNot, qT_eBI, qT_eIf, qT_eLd, qT_eLdR, qT_eLen, qT_eF, qT_eFR, qT_aN, qT_aS, qT_eCl, qT_eClR, qT_eClB, qT_some, qT_x, z_nx_N, z_nx_B, z_nx_R, z_nx_X, z_bk_N, z_bk_B, z_bk_R, z_bk_X, oAdd, oSub, oMul, oNeg, cLt, cLe, cGt, cGe, cEq, cNe, Option.some.injEq, Sum.inl.injEq, Sum.inr.injEq, Prod.mk.injEq, exists_eq_left, exists_eq_left', exists_eq_right, exists_and_left, reduceCtorEq, and_true, true_and, and_false, false_and, List.getElem?_cons_zero, List.getElem?_cons_succ, List.set_cons_zero, List.set_cons_succ, List.replicate, List.length_cons, List.length_nil, List.cons_append, List.nil_append, Nat.reduceAdd, Nat.reduceSub, decide_eq_true_eq, decide_eq_false_iff_not, Bool.true_eq_false, Bool.false_eq_true, true_implies, false_implies, implies_true, Nat.reduceLT, exists_const, z_vB_inj, and_assoc, z_in_iff, oI2L, oL2I, Int.toNat_natCast, z_toNat0, Bool.not_eq_true', Bool.not_eq_false', ne_eq, Bool.not_true, Bool.not_false, Nat.add_zero, Int.add_zero, z_sl_s]
      refine ⟨by omega, by omega, by omega, by omega, by omega, rfl, fun i j hi hj => ?_⟩
      rcases Nat.lt_succ_iff_lt_or_eq.mp hi with hi | rfl
      · exact hP i j hi hj
      · exact hP2 j hj
  · intro hP
    simp only [q_obj a.1, qS_nop, qS_seq, qS_set, qS_setJ, qS_if, qS_brk, qS_ret, qS_retV, qS_throw, qS_inc, qS_cl, qS_ast, qS_aop, qS_fst, qS_fop, qS_sw, qT_eC, qT_eCB, qT_eL, qT_eLJ, qT_eLR, qT_eLB, qT_e1, qT_e2, qT_bCmp, qT_bCmpJ, qT_bAnd, qT_bOr, qT_bNot, qT_eBI, qT_eIf, qT_eLd, qT_eLdR, qT_eLen, qT_eF, qT_eFR, qT_aN, qT_aS, qT_eCl, qT_eClR, qT_eClB, qT_some, qT_x, z_nx_N, z_nx_B, z_nx_R, z_nx_X, z_bk_N, z_bk_B, z_bk_R, z_bk_X, oAdd, oSub, oMul, oNeg, cLt, cLe, cGt, cGe, cEq, cNe, Option.some.injEq, Sum.inl.injEq, Sum.inr.injEq, Prod.mk.injEq, exists_eq_left, exists_eq_left', exists_eq_right, exists_and_left, reduceCtorEq, and_true, true_and, and_false, false_and, List.getElem?_cons_zero, List.getElem?_cons_succ, List.set_cons_zero, List.set_cons_succ, List.replicate, List.length_cons, List.length_nil, List.cons_append, List.nil_append, Nat.reduceAdd, Nat.reduceSub, decide_eq_true_eq, decide_eq_false_iff_not, Bool.true_eq_false, Bool.false_eq_true, true_implies, false_implies, implies_true, Nat.reduceLT, exists_const, z_vB_inj, and_assoc, z_in_iff, oI2L, oL2I, Int.toNat_natCast, z_toNat0, Bool.not_eq_true', Bool.not_eq_false', ne_eq, Bool.not_true, Bool.not_false, Nat.add_zero, Int.add_zero, z_sl_s]
    exact ⟨by omega, by omega, by omega, by omega, by omega, ((z_dec_iff _).mpr hP).symm⟩
theorem s_comesBack (a : mAt h o e r n M) (hn : n ≤ 5) (hb : mBd M 1000000000) : m_X2_comesBackBelowZero [vR o] h = some (.inl (some (vB (z_dec (∃ i, i < n ∧ M i i < 0)))), h) := by
  unfold m_X2_comesBackBelowZero
  rw [q_vm a.1]
  apply q_body
  simp only [b_X2_comesBackBelowZero, qS_nop, qS_seq, qS_set, qS_setJ, qS_if, qS_brk, qS_ret, qS_retV, qS_throw, qS_inc, qS_cl, qS_ast, qS_aop, qS_fst, qS_fop, qS_sw, qT_eC, qT_eCB, qT_eL, qT_eLJ, qT_eLR, qT_eLB, qT_e1, qT_e2, qT_bCmp, qT_bCmpJ, qT_bAnd, qT_bOr, qT_bNot, qT_eBI, qT_eIf, qT_eLd, qT_eLdR, qT_eLen, qT_eF, qT_eFR, qT_aN, qT_aS, qT_eCl, qT_eClR, qT_eClB, qT_some, qT_x, z_nx_N, z_nx_B, z_nx_R, z_nx_X, z_bk_N, z_bk_B, z_bk_R, z_bk_X, oAdd, oSub, oMul, oNeg, cLt, cLe, cGt, cGe, cEq, cNe, Option.some.injEq, Sum.inl.injEq, Sum.inr.injEq, Prod.mk.injEq, exists_eq_left, exists_eq_left', exists_eq_right, exists_and_left, reduceCtorEq, and_true, true_and, and_false, false_and, List.getElem?_cons_zero, List.getElem?_cons_succ, List.set_cons_zero, List.set_cons_succ, List.replicate, List.length_cons, List.length_nil, List.cons_append, List.nil_append, Nat.reduceAdd, Nat.reduceSub, decide_eq_true_eq, decide_eq_false_iff_not, Bool.true_eq_false, Bool.false_eq_true, true_implies, false_implies, implies_true, Nat.reduceLT, exists_const, z_vB_inj, and_assoc, z_in_iff, oI2L, oL2I, Int.toNat_natCast, z_toNat0, Bool.not_eq_true', Bool.not_eq_false', ne_eq, Bool.not_true, Bool.not_false, Nat.add_zero, Int.add_zero, z_sl_s]
  refine qS_for (fun k => [vR o, vI (k : Int)]) (fun _ => h) (fun k => ∀ i, i < k → ¬ M i i < 0) n rfl rfl (fun i hi => absurd hi (Nat.not_lt_zero i)) (by omega) ?_ ?_
  · intro k hk hP
    obtain ⟨fo, c1, c2, c3, c4, c5⟩ := a.row (i := (k : Int)) (by omega) (by omega)
    rw [Int.toNat_natCast] at c3 c4 c5
    have b2 := hb k k (by omega) (by omega)
    simp only [c1, c2, c4, c5, qS_nop, qS_seq, qS_set, qS_setJ, qS_if, qS_brk, qS_ret, qS_retV, qS_throw, qS_inc, qS_cl, qS_ast, qS_aop, qS_fst, qS_fop, qS_sw, qT_eC, qT_eCB, qT_eL, qT_eLJ, qT_eLR, qT_eLB, qT_e1, qT_e2, qT_bCmp, qT_bCmpJ, qT_bAnd, qT_bOr, qT_bNot, qT_eBI, qT_eIf, qT_eLd, qT_eLdR, qT_eLen, qT_eF, qT_eFR, qT_aN, qT_aS, qT_eCl, qT_eClR, qT_eClB, qT_some, qT_x, z_nx_N, z_nx_B, z_nx_R, z_nx_X, z_bk_N, z_bk_B, z_bk_R, z_bk_X, oAdd, oSub, oMul, oNeg, cLt, cLe, cGt, cGe, cEq, cNe, Option.some.injEq, Sum.inl.injEq, Sum.inr.injEq, Prod.mk.injEq, exists_eq_left, exists_eq_left', exists_eq_right, exists_and_left, reduceCtorEq, and_true, true_and, and_false, false_and, List.getElem?_cons_zero, List.getElem?_cons_succ, List.set_cons_zero, List.set_cons_succ, List.replicate, List.length_cons, List.length_nil, List.cons_append, List.nil_append, Nat.reduceAdd, Nat.reduceSub, decide_eq_true_eq, decide_eq_false_iff_not, Bool.true_eq_false, Bool.false_eq_true, true_implies, false_implies, implies_true, Nat.reduceLT, exists_const, z_vB_inj, and_assoc, z_in_iff, oI2L, oL2I, Int.toNat_natCast, z_toNat0, Bool.not_eq_true', Bool.not_eq_false', ne_eq, Bool.not_true, Bool.not_false, Nat.add_zero, Int.add_zero, z_sl_s]
    refine ⟨by omega, by omega, by omega, by omega, by omega, by omega, by omega, c3, by omega, by omega, by omega, by omega, by omega, by omega, fun w => ?_, fun w => ⟨rfl, fun i hi => ?_⟩⟩
    · exact ((z_dec_iff _).mpr ⟨k, hk, w⟩).symm
    · rcases Nat.lt_succ_iff_lt_or_eq.mp hi with hi | rfl
      · exact hP i hi
      · exact w
  · intro hP
    simp only [q_obj a.1, qS_nop, qS_seq, qS_set, qS_setJ, qS_if, qS_brk, qS_ret, qS_retV, qS_throw, qS_inc, qS_cl, qS_ast, qS_aop, qS_fst, qS_fop, qS_sw, qT_eC, qT_eCB, qT_eL, qT_eLJ, qT_eLR, qT_eLB, qT_e1, qT_e2, qT_bCmp, qT_bCmpJ, qT_bAnd, qT_bOr, qT_bNot, qT_eBI, qT_eIf, qT_eLd, qT_eLdR, qT_eLen, qT_eF, qT_eFR, qT_aN, qT_aS, qT_eCl, qT_eClR, qT_eClB, qT_some, qT_x, z_nx_N, z_nx_B, z_nx_R, z_nx_X, z_bk_N, z_bk_B, z_bk_R, z_bk_X, oAdd, oSub, oMul, oNeg, cLt, cLe, cGt, cGe, cEq, cNe, Option.some.injEq, Sum.inl.injEq, Sum.inr.injEq, Prod.mk.injEq, exists_eq_left, exists_eq_left', exists_eq_right, exists_and_left, reduceCtorEq, and_true, true_and, and_false, false_and, List.getElem?_cons_zero, List.getElem?_cons_succ, List.set_cons_zero, List.set_cons_succ, List.replicate, List.length_cons, List.length_nil, List.cons_append, List.nil_append, Nat.reduceAdd, Nat.reduceSub, decide_eq_true_eq, decide_eq_false_iff_not, Bool.true_eq_false, Bool.false_eq_true, true_implies, false_implies, implies_true, Nat.reduceLT, exists_const, z_vB_inj, and_assoc, z_in_iff, oI2L, oL2I, Int.toNat_natCast, z_toNat0, Bool.not_eq_true', Bool.not_eq_false', ne_eq, Bool.not_true, Bool.not_false, Nat.add_zero, Int.add_zero, z_sl_s]
    exact ⟨by omega, by omega, by omega, by omega, by omega, ((z_dec_f _).mpr (fun ⟨i, hi, w⟩ => hP i hi w)).symm⟩
end MO
