/-! Matrix: copies, products, the closing of ways -/
theorem mAt.obj {h : z_Hp} {o e r n : Nat} {M : Nat → Nat → Int} (a : mAt h o e r n M) {q : Nat} {x : z_Cl} (hq : h[q]? = some x) (hx : ∀ g, x ≠ .inr (0, 5, g)) : ¬ mRow r q := by
  intro w
  have := a.2.2 (q - r) (by have := w.2; have := w.1; omega)
  rw [show r + (q - r) = q by have := w.1; omega, hq] at this
  exact hx _ (Option.some.inj this)
theorem mAt.fr {h h' : z_Hp} {S : Nat → Prop} {o e r n : Nat} {M : Nat → Nat → Int} (a : mAt h o e r n M) (f : z_fr S h h') (ho : ¬ S o) (he : ¬ S e) (hr : ∀ i, i < 5 → ¬ S (r + i)) : mAt h' o e r n M := a.kept (f o ho) (f e he) (fun i hi => f _ (hr i hi))
/-- two matrices whose cells are apart -/
def mApart (o r o1 r1 : Nat) : Prop := o ≠ o1 ∧ ∀ i j, i < 5 → j < 5 → r + i ≠ r1 + j
theorem mAt.other {h h' : z_Hp} {o e r n o1 e1 r1 n1 : Nat} {M M1 : Nat → Nat → Int} (a : mAt h o e r n M) (a1 : mAt h o1 e1 r1 n1 M1) (hd : mApart o r o1 r1) (f : z_fr (fun q => q = o ∨ mRow r q) h h') : mAt h' o1 e1 r1 n1 M1 := by
  obtain ⟨b1, ⟨fo, b2, b3⟩, b4⟩ := id a1
  refine a1.fr f ?_ ?_ ?_
  · rintro (q | q)
    · exact hd.1 q.symm
    · exact a.obj b1 (fun g w => by cases w) q
  · rintro (q | q)
    · rw [q, a.1] at b2
      cases b2
    · exact a.obj b2 (fun g w => by cases w) q
  · rintro i hi (q | q)
    · have := b4 i hi
      rw [q, a.1] at this
      cases this
    · exact hd.2 (r1 + i - r) i (by have := q.1; have := q.2; omega) hi (by have := q.1; omega)
section MP
variable {h : z_Hp} {o e r n o1 e1 r1 n1 o2 e2 r2 n2 : Nat} {M M1 M2 : Nat → Nat → Int}
theorem mAt.rows (a : mAt h o e r n M) (m : Nat) : mAt (h.set o (.inl (2, [vR e, vI (m : Int)]))) o e r m M := by
  have ne := a.ne
  obtain ⟨a1, ⟨fo, a2, a3⟩, a4⟩ := a
  have oe : o ≠ e := fun q => by rw [q, a2] at a1; cases a1
  exact ⟨z_set_get a1, ⟨fo, (z_set_ne oe).trans a2, a3⟩, fun i hi => (z_set_ne (fun q => ne.1 (by rw [q]; exact ⟨by omega, by omega⟩))).trans (a4 i hi)⟩
theorem s_copyM (a : mAt h o e r n M) (a1 : mAt h o1 e1 r1 n1 M1) (hd : mApart o r o1 r1) : ∃ h', m_X2_becomeCopy [vR o, vR o1] h = some (.inl none, h') ∧ mAt h' o e r n1 (fun i j => if i < 5 ∧ j < 5 then M1 i j else M i j) ∧ z_fr (fun q => q = o ∨ mRow r q) h h' := by
  unfold m_X2_becomeCopy
  rw [q_vm a.1]
  apply q_bodyV
  simp only [b_X2_becomeCopy, q_obj a.1, q_obj a1.1, qS_nop, qS_seq, qS_set, qS_setJ, qS_if, qS_brk, qS_ret, qS_retV, qS_throw, qS_inc, qS_cl, qS_ast, qS_aop, qS_fst, qS_fop, qS_sw, qT_eC, qT_eCB, qT_eL, qT_eLJ, qT_eLR, qT_eLB, qT_e1, qT_e2, qT_bCmp, qT_bCmpJ, qT_bAnd, qT_bOr, qT_bNot, qT_eBI, qT_eIf, qT_eLd, qT_eLdR, qT_eLen, qT_eF, qT_eFR, qT_aN, qT_aS, qT_eCl, qT_eClR, qT_eClB, qT_some, qT_x, z_nx_N, z_nx_B, z_nx_R, z_nx_X, z_bk_N, z_bk_B, z_bk_R, z_bk_X, oAdd, oSub, oMul, oNeg, cLt, cLe, cGt, cGe, cEq, cNe, Option.some.injEq, Sum.inl.injEq, Sum.inr.injEq, Prod.mk.injEq, exists_eq_left, exists_eq_left', exists_eq_right, exists_and_left, reduceCtorEq, and_true, true_and, and_false, false_and, List.getElem?_cons_zero, List.getElem?_cons_succ, List.set_cons_zero, List.set_cons_succ, List.replicate, List.length_cons, List.length_nil, List.cons_append, List.nil_append, Nat.reduceAdd, Nat.reduceSub, decide_eq_true_eq, decide_eq_false_iff_not, Bool.true_eq_false, Bool.false_eq_true, true_implies, false_implies, implies_true, Nat.reduceLT, exists_const, z_vB_inj, and_assoc, z_in_iff, oI2L, oL2I, Int.toNat_natCast, z_toNat0, Bool.not_eq_true', Bool.not_eq_false', ne_eq, Bool.not_true, Bool.not_false, Nat.add_zero, Int.add_zero, z_sl_s]
  have a' := a.rows n1
  have f' : z_fr (fun q => q = o ∨ mRow r q) h (h.set o (.inl (2, [vR e, vI (n1 : Int)]))) := z_fr.set (Or.inl rfl)
  have a1' := a.other a1 hd f'
  generalize h.set o (.inl (2, [vR e, vI (n1 : Int)])) = h1 at a' f' a1'
  refine qS_fp (fun k => [vR o, vR o1, vI (k : Int)]) (fun k h' => mAt h' o e r n1 (fun i j => if i < k ∧ j < 5 then M1 i j else M i j) ∧ z_fr (fun q => q = o ∨ mRow r q) h h' ∧ mAt h' o1 e1 r1 n1 M1) 5 rfl ⟨by simpa using a', f', a1'⟩ (by decide) ?_ ?_
  · intro k h' hk hp
    have b1 := hp.1
    have b2 := hp.2.1
    have b3 := hp.2.2
    simp only [qS_nop, qS_seq, qS_set, qS_setJ, qS_if, qS_brk, qS_ret, qS_retV, qS_throw, qS_inc, qS_cl, qS_ast, qS_aop, qS_fst, qS_fop, qS_sw, qT_eC, qT_eCB, qT_eL, qT_eLJ, qT_eLR, qT_eLB, qT_e1, qT_e2, qT_bCmp, qT_bCmpJ, qT_bAnd, qT_bOr, qT_bNot, qT_eBI, qT_eIf, qT_eLd, qT_eLdR, qT_eLen, qT_eF, qT_eFR, qT_aN, qT_aS, qT_eCl, qT_eClR, qT_eClB, qT_some, qT_x, z_nx_N, z_nx_B, z_nx_R, z_nx_X, z_bk_N, z_bk_B, z_bk_R, z_bk_X, oAdd, oSub, oMul, oNeg, cLt, cLe, cGt, cGe, cEq, cNe, Option.some.injEq, Sum.inl.injEq, Sum.inr.injEq, Prod.mk.injEq, exists_eq_left, exists_eq_left', exists_eq_right, exists_and_left, reduceCtorEq, and_true, true_and, and_false, false_and, List.getElem?_cons_zero, List.getElem?_cons_succ, List.set_cons_zero, List.set_cons_succ, List.replicate, List.length_cons, List.length_nil, List.cons_append, List.nil_append, Nat.reduceAdd, Nat.reduceSub, decide_eq_true_eq, decide_eq_false_iff_not, Bool.true_eq_false, Bool.false_eq_true, true_implies, false_implies, implies_true, Nat.reduceLT, exists_const, z_vB_inj, and_assoc, z_in_iff, oI2L, oL2I, Int.toNat_natCast, z_toNat0, Bool.not_eq_true', Bool.not_eq_false', ne_eq, Bool.not_true, Bool.not_false, Nat.add_zero, Int.add_zero, z_sl_s]
    obtain ⟨fo, c1, c2, c3, c4, c5⟩ := b1.row (i := (k : Int)) (by omega) (by omega)
    obtain ⟨fp, d1, d2, d3, d4, d5⟩ := b3.row (i := (k : Int)) (by omega) (by omega)
    rw [Int.toNat_natCast] at c3 c4 c5 d3 d4 d5
    have e1 := s_copy (sp := 0) (dp := 0) (n := 5) (b3.2.2 k hk) (b1.2.2 k hk) (by decide) (by decide) (by decide) (by decide) (by decide) (by decide) (by decide)
    have e2 : z_cp (M1 k) (fun j => if k < k ∧ j < 5 then M1 k j else M k j) (0 : Int).toNat (0 : Int).toNat (5 : Int).toNat = fun j => if j < 5 then M1 k j else M k j := by
      funext j
      unfold z_cp
      simp
    rw [e2] at e1
    have st := b1.set hk (fun j => if j < 5 then M1 k j else M k j)
    have fs : z_fr (fun q => q = o ∨ mRow r q) h' (h'.set (r + k) (.inr (0, 5, fun j => if j < 5 then M1 k j else M k j))) := z_fr.set (Or.inr ⟨by omega, by omega⟩)
    simp only [c1, c2, c4, d1, d2, d4, e1, qS_nop, qS_seq, qS_set, qS_setJ, qS_if, qS_brk, qS_ret, qS_retV, qS_throw, qS_inc, qS_cl, qS_ast, qS_aop, qS_fst, qS_fop, qS_sw, qT_eC, qT_eCB, qT_eL, qT_eLJ, qT_eLR, qT_eLB, qT_e1, qT_e2, qT_bCmp, qT_bCmpJ, qT_bAnd, qT_bOr, qT_bNot, qT_eBI, qT_eIf, qT_eLd, qT_eLdR, qT_eLen, qT_eF, qT_eFR, qT_aN, qT_aS, qT_eCl, qT_eClR, qT_eClB, qT_some, qT_x, z_nx_N, z_nx_B, z_nx_R, z_nx_X, z_bk_N, z_bk_B, z_bk_R, z_bk_X, oAdd, oSub, oMul, oNeg, cLt, cLe, cGt, cGe, cEq, cNe, Option.some.injEq, Sum.inl.injEq, Sum.inr.injEq, Prod.mk.injEq, exists_eq_left, exists_eq_left', exists_eq_right, exists_and_left, reduceCtorEq, and_true, true_and, and_false, false_and, List.getElem?_cons_zero, List.getElem?_cons_succ, List.set_cons_zero, List.set_cons_succ, List.replicate, List.length_cons, List.length_nil, List.cons_append, List.nil_append, Nat.reduceAdd, Nat.reduceSub, decide_eq_true_eq, decide_eq_false_iff_not, Bool.true_eq_false, Bool.false_eq_true, true_implies, false_implies, implies_true, Nat.reduceLT, exists_const, z_vB_inj, and_assoc, z_in_iff, oI2L, oL2I, Int.toNat_natCast, z_toNat0, Bool.not_eq_true', Bool.not_eq_false', ne_eq, Bool.not_true, Bool.not_false, Nat.add_zero, Int.add_zero, z_sl_s]
    refine ⟨by omega, by omega, by omega, by omega, by omega, by omega, by omega, d3, by omega, by omega, c3, rfl, ?_, b2.tr fs, b1.other b3 hd fs⟩
    have ef : (fun x => if x = k then (fun j => if j < 5 then M1 k j else M k j) else fun j => if x < k ∧ j < 5 then M1 x j else M x j) = fun i j => if i < k + 1 ∧ j < 5 then M1 i j else M i j := by
      funext x j
      by_cases hx : x = k
      · subst hx
        by_cases hj : j < 5 <;> simp [hj]
      · by_cases hx2 : x < k
        · simp [hx, hx2, show x < k + 1 by omega]
        · simp [hx, hx2, show ¬ x < k + 1 by omega]
    rw [ef] at st
    exact st
  · intro h' hp
    simp only [qS_nop, qS_seq, qS_set, qS_setJ, qS_if, qS_brk, qS_ret, qS_retV, qS_throw, qS_inc, qS_cl, qS_ast, qS_aop, qS_fst, qS_fop, qS_sw, qT_eC, qT_eCB, qT_eL, qT_eLJ, qT_eLR, qT_eLB, qT_e1, qT_e2, qT_bCmp, qT_bCmpJ, qT_bAnd, qT_bOr, qT_bNot, qT_eBI, qT_eIf, qT_eLd, qT_eLdR, qT_eLen, qT_eF, qT_eFR, qT_aN, qT_aS, qT_eCl, qT_eClR, qT_eClB, qT_some, qT_x, z_nx_N, z_nx_B, z_nx_R, z_nx_X, z_bk_N, z_bk_B, z_bk_R, z_bk_X, oAdd, oSub, oMul, oNeg, cLt, cLe, cGt, cGe, cEq, cNe, Option.some.injEq, Sum.inl.injEq, Sum.inr.injEq, Prod.mk.injEq, exists_eq_left, exists_eq_left', exists_eq_right, exists_and_left, reduceCtorEq, and_true, true_and, and_false, false_and, List.getElem?_cons_zero, List.getElem?_cons_succ, List.set_cons_zero, List.set_cons_succ, List.replicate, List.length_cons, List.length_nil, List.cons_append, List.nil_append, Nat.reduceAdd, Nat.reduceSub, decide_eq_true_eq, decide_eq_false_iff_not, Bool.true_eq_false, Bool.false_eq_true, true_implies, false_implies, implies_true, Nat.reduceLT, exists_const, z_vB_inj, and_assoc, z_in_iff, oI2L, oL2I, Int.toNat_natCast, z_toNat0, Bool.not_eq_true', Bool.not_eq_false', ne_eq, Bool.not_true, Bool.not_false, Nat.add_zero, Int.add_zero, z_sl_s]
    exact ⟨by omega, by omega, by omega, by omega, by omega, hp.1, hp.2.1⟩
def mMul (A B : Nat → Nat → Int) (n i j : Nat) : Int := z_mn (fun k => z_plus (A i k) (B k j)) n
theorem mMul_b {A B : Nat → Nat → Int} {b1 b2 : Int} (hA : mBd A b1) (hB : mBd B b2) (h1 : 0 ≤ b1) (h2 : 0 ≤ b2) {n i j : Nat} (hn : n ≤ 5) (hi : i < 5) (hj : j < 5) : -(b1 + b2) ≤ mMul A B n i j ∧ mMul A B n i j ≤ 1000000 := by
  refine ⟨z_mn_b _ _ (by simp only [INF]; omega) n (fun k hk => ?_), z_mn_le _ _⟩
  have := (z_plus_b (x := A i k) (y := B k j) (a := -b1) (b := -b2) (hA i k hi (by omega)) (hB k j (by omega) hj) (by omega) (by omega)).1
  omega
theorem s_prodM (a : mAt h o e r n M) (a1 : mAt h o1 e1 r1 n1 M1) (a2 : mAt h o2 e2 r2 n1 M2) (hd1 : mApart o r o1 r1) (hd2 : mApart o r o2 r2) (hn : n1 ≤ 5) (hb1 : mBd M1 1000000000) (hb2 : mBd M2 1000000000) : ∃ h', m_X2_becomeProduct [vR o, vR o1, vR o2] h = some (.inl none, h') ∧ mAt h' o e r n1 (fun i j => if i < n1 ∧ j < n1 then mMul M1 M2 n1 i j else M i j) ∧ z_fr (fun q => q = o ∨ mRow r q) h h' := by
  unfold m_X2_becomeProduct
  rw [q_vm a.1]
  apply q_bodyV
  simp only [b_X2_becomeProduct, q_obj a.1, q_obj a1.1, qS_nop, qS_seq, qS_set, qS_setJ, qS_if, qS_brk, qS_ret, qS_retV, qS_throw, qS_inc, qS_cl, qS_ast, qS_aop, qS_fst, qS_fop, qS_sw, qT_eC, qT_eCB, qT_eL, qT_eLJ, qT_eLR, qT_eLB, qT_e1, qT_e2, qT_bCmp, qT_bCmpJ, qT_bAnd, qT_bOr, qT_bNot, qT_eBI, qT_eIf, qT_eLd, qT_eLdR, qT_eLen, qT_eF, qT_eFR, qT_aN, qT_aS, qT_eCl, qT_eClR, qT_eClB, qT_some, qT_x, z_nx_N, z_nx_B, z_nx_R, z_nx_X, z_bk_N, z_bk_B, z_bk_R, z_bk_X, oAdd, oSub, oMul, oNeg, cLt, cLe, cGt, cGe, cEq, cNe, Option.some.injEq, Sum.inl.injEq, Sum.inr.injEq, Prod.mk.injEq, exists_eq_left, exists_eq_left', exists_eq_right, exists_and_left, reduceCtorEq, and_true, true_and, and_false, false_and, List.getElem?_cons_zero, List.getElem?_cons_succ, List.set_cons_zero, List.set_cons_succ, List.replicate, List.length_cons, List.length_nil, List.cons_append, List.nil_append, Nat.reduceAdd, Nat.reduceSub, decide_eq_true_eq, decide_eq_false_iff_not, Bool.true_eq_false, Bool.false_eq_true, true_implies, false_implies, implies_true, Nat.reduceLT, exists_const, z_vB_inj, and_assoc, z_in_iff, oI2L, oL2I, Int.toNat_natCast, z_toNat0, Bool.not_eq_true', Bool.not_eq_false', ne_eq, Bool.not_true, Bool.not_false, Nat.add_zero, Int.add_zero, z_sl_s]
  have a' := a.rows n1
  have f' : z_fr (fun q => q = o ∨ mRow r q) h (h.set o (.inl (2, [vR e, vI (n1 : Int)]))) := z_fr.set (Or.inl rfl)
  have a1' := a.other a1 hd1 f'
  have a2' := a.other a2 hd2 f'
  generalize h.set o (.inl (2, [vR e, vI (n1 : Int)])) = h1 at a' f' a1' a2'
  refine qS_fp (fun i => [vR o, vR o1, vR o2, vI (i : Int), z_sl i (vI (n1 : Int)), z_sl i (z_sl n1 (vI (mMul M1 M2 n1 (i - 1) (n1 - 1)))), z_sl i (z_sl n1 (vI (n1 : Int)))]) (fun x h' => mAt h' o e r n1 (fun i j => if i < x ∧ j < n1 then mMul M1 M2 n1 i j else M i j) ∧ z_fr (fun q => q = o ∨ mRow r q) h h' ∧ mAt h' o1 e1 r1 n1 M1 ∧ mAt h' o2 e2 r2 n1 M2) n1 rfl ⟨by simpa using a', f', a1', a2'⟩ (by omega) ?_ ?_
  · intro i h' hi hp
    have b1 := hp.1
    have b2 := hp.2.1
    have b3 := hp.2.2.1
    have b4 := hp.2.2.2
    simp only [q_obj b1.1, qS_nop, qS_seq, qS_set, qS_setJ, qS_if, qS_brk, qS_ret, qS_retV, qS_throw, qS_inc, qS_cl, qS_ast, qS_aop, qS_fst, qS_fop, qS_sw, qT_eC, qT_eCB, qT_eL, qT_eLJ, qT_eLR, qT_eLB, qT_e1, qT_e2, qT_bCmp, qT_bCmpJ, qT_bAnd, qT_bOr, qT_bNot, qT_eBI, qT_eIf, qT_eLd, qT_eLdR, qT_eLen, qT_eF, qT_eFR, qT_aN, qT_aS, qT_eCl, qT_eClR, qT_eClB, qT_some, qT_x, z_nx_N, z_nx_B, z_nx_R, z_nx_X, z_bk_N, z_bk_B, z_bk_R, z_bk_X, oAdd, oSub, oMul, oNeg, cLt, cLe, cGt, cGe, cEq, cNe, Option.some.injEq, Sum.inl.injEq, Sum.inr.injEq, Prod.mk.injEq, exists_eq_left, exists_eq_left', exists_eq_right, exists_and_left, reduceCtorEq, and_true, true_and, and_false, false_and, List.getElem?_cons_zero, List.getElem?_cons_succ, List.set_cons_zero, List.set_cons_succ, List.replicate, List.length_cons, List.length_nil, List.cons_append, List.nil_append, Nat.reduceAdd, Nat.reduceSub, decide_eq_true_eq, decide_eq_false_iff_not, Bool.true_eq_false, Bool.false_eq_true, true_implies, false_implies, implies_true, Nat.reduceLT, exists_const, z_vB_inj, and_assoc, z_in_iff, oI2L, oL2I, Int.toNat_natCast, z_toNat0, Bool.not_eq_true', Bool.not_eq_false', ne_eq, Bool.not_true, Bool.not_false, Nat.add_zero, Int.add_zero, z_sl_s]
    refine ⟨by omega, by omega, by omega, by omega, by omega, ?_⟩
    refine qS_fp (fun j => [vR o, vR o1, vR o2, vI (i : Int), vI (j : Int), if j = 0 then z_sl i (z_sl n1 (vI (mMul M1 M2 n1 (i - 1) (n1 - 1)))) else vI (mMul M1 M2 n1 i (j - 1)), if j = 0 then z_sl i (z_sl n1 (vI (n1 : Int))) else vI (n1 : Int)]) (fun y h' => mAt h' o e r n1 (fun x j => if (x < i ∨ x = i ∧ j < y) ∧ j < n1 then mMul M1 M2 n1 x j else M x j) ∧ z_fr (fun q => q = o ∨ mRow r q) h h' ∧ mAt h' o1 e1 r1 n1 M1 ∧ mAt h' o2 e2 r2 n1 M2) n1 (by simp) ⟨by simpa using b1, b2, b3, b4⟩ (by omega) ?_ ?_
    · intro j h' hj hp
      have b1 := hp.1
      have b2 := hp.2.1
      have b3 := hp.2.2.1
      have b4 := hp.2.2.2
      simp only [q_obj b1.1, qS_nop, qS_seq, qS_set, qS_setJ, qS_if, qS_brk, qS_ret, qS_retV, qS_throw, qS_inc, qS_cl, qS_ast, qS_aop, qS_fst, qS_fop, qS_sw, qT_eC, qT_eCB, qT_eL, qT_eLJ, qT_eLR, qT_eLB, qT_e1, qT_e2, qT_bCmp, qT_bCmpJ, qT_bAnd, qT_bOr, qT_bNot, qT_eBI, qT_eIf, qT_eLd, qT_eLdR, qT_eLen, qT_eF, qT_eFR, qT_aN, qT_aS, qT_eCl, qT_eClR, qT_eClB, qT_some, qT_x, z_nx_N, z_nx_B, z_nx_R, z_nx_X, z_bk_N, z_bk_B, z_bk_R, z_bk_X, oAdd, oSub, oMul, oNeg, cLt, cLe, cGt, cGe, cEq, cNe, Option.some.injEq, Sum.inl.injEq, Sum.inr.injEq, Prod.mk.injEq, exists_eq_left, exists_eq_left', exists_eq_right, exists_and_left, reduceCtorEq, and_true, true_and, and_false, false_and, List.getElem?_cons_zero, List.getElem?_cons_succ, List.set_cons_zero, List.set_cons_succ, List.replicate, List.length_cons, List.length_nil, List.cons_append, List.nil_append, Nat.reduceAdd, Nat.reduceSub, decide_eq_true_eq, decide_eq_false_iff_not, Bool.true_eq_false, Bool.false_eq_true, true_implies, false_implies, implies_true, Nat.reduceLT, exists_const, z_vB_inj, and_assoc, z_in_iff, oI2L, oL2I, Int.toNat_natCast, z_toNat0, Bool.not_eq_true', Bool.not_eq_false', ne_eq, Bool.not_true, Bool.not_false, Nat.add_zero, Int.add_zero, z_sl_s]
      refine ⟨by omega, by omega, by omega, by omega, by omega, ?_⟩
      obtain ⟨fp, d1, d2, d3, d4, d5⟩ := b3.row (i := (i : Int)) (by omega) (by omega)
      rw [Int.toNat_natCast] at d3 d4 d5
      refine qS_for (fun k => [vR o, vR o1, vR o2, vI (i : Int), vI (j : Int), vI (z_mn (fun k => z_plus (M1 i k) (M2 k j)) k), vI (k : Int)]) (fun _ => h') (fun _ => True) n1 rfl rfl trivial (by omega) ?_ ?_
      · intro k hk _
        simp only [q_obj b1.1, qS_nop, qS_seq, qS_set, qS_setJ, qS_if, qS_brk, qS_ret, qS_retV, qS_throw, qS_inc, qS_cl, qS_ast, qS_aop, qS_fst, qS_fop, qS_sw, qT_eC, qT_eCB, qT_eL, qT_eLJ, qT_eLR, qT_eLB, qT_e1, qT_e2, qT_bCmp, qT_bCmpJ, qT_bAnd, qT_bOr, qT_bNot, qT_eBI, qT_eIf, qT_eLd, qT_eLdR, qT_eLen, qT_eF, qT_eFR, qT_aN, qT_aS, qT_eCl, qT_eClR, qT_eClB, qT_some, qT_x, z_nx_N, z_nx_B, z_nx_R, z_nx_X, z_bk_N, z_bk_B, z_bk_R, z_bk_X, oAdd, oSub, oMul, oNeg, cLt, cLe, cGt, cGe, cEq, cNe, Option.some.injEq, Sum.inl.injEq, Sum.inr.injEq, Prod.mk.injEq, exists_eq_left, exists_eq_left', exists_eq_right, exists_and_left, reduceCtorEq, and_true, true_and, and_false, false_and, List.getElem?_cons_zero, List.getElem?_cons_succ, List.set_cons_zero, List.set_cons_succ, List.replicate, List.length_cons, List.length_nil, List.cons_append, List.nil_append, Nat.reduceAdd, Nat.reduceSub, decide_eq_true_eq, decide_eq_false_iff_not, Bool.true_eq_false, Bool.false_eq_true, true_implies, false_implies, implies_true, Nat.reduceLT, exists_const, z_vB_inj, and_assoc, z_in_iff, oI2L, oL2I, Int.toNat_natCast, z_toNat0, Bool.not_eq_true', Bool.not_eq_false', ne_eq, Bool.not_true, Bool.not_false, Nat.add_zero, Int.add_zero, z_sl_s]
        obtain ⟨fq, g1, g2, g3, g4, g5⟩ := b4.row (i := (k : Int)) (by omega) (by omega)
        rw [Int.toNat_natCast] at g3 g4 g5
        have v1 := hb1 i k (by omega) (by omega)
        have v2 := hb2 k j (by omega) (by omega)
        have v3 := z_plus_b (x := M1 i k) (y := M2 k j) (a := -1000000000) (b := -1000000000) v1 v2 (by decide) (by decide)
        have v4 := z_mn_le (fun k => z_plus (M1 i k) (M2 k j)) k
        have v5 := z_mn_b (fun k => z_plus (M1 i k) (M2 k j)) (-2000000000) (by decide) k (fun x hx => (z_plus_b (a := -1000000000) (b := -1000000000) (hb1 i x (by omega) (by omega)) (hb2 x j (by omega) (by omega)) (by decide) (by decide)).1)
        simp only [INF] at v4
        have e1 := s_together (x := M1 i k) (y := M2 k j) (h := h') ⟨by omega, by omega⟩ ⟨by omega, by omega⟩
        rw [show (if M1 i k = INF ∨ M2 k j = INF then INF else M1 i k + M2 k j) = z_plus (M1 i k) (M2 k j) from rfl] at e1
        have e2 := s_min (x := z_mn (fun k => z_plus (M1 i k) (M2 k j)) k) (y := z_plus (M1 i k) (M2 k j)) (h := h') ⟨by omega, by omega⟩ ⟨by omega, by omega⟩
        simp only [d1, d2, d4, d5, g1, g2, g4, g5, e1, e2, qS_nop, qS_seq, qS_set, qS_setJ, qS_if, qS_brk, qS_ret, qS_retV, qS_throw, qS_inc, qS_cl, qS_ast, qS_aop, qS_fst, qS_fop, qS_sw, qT_eC, qT_eCB, qT_eL, qT_eLJ, qT_eLR, qT_eLB, qT_e1, qT_e2, qT_bCmp, qT_bCmpJ, qT_bAnd, qT_bOr, qT_bNot, qT_eBI, qT_eIf, qT_eLd, qT_eLdR, qT_eLen, qT_eF, qT_eFR, qT_aN, qT_aS, qT_eCl, qT_eClR, qT_eClB, qT_some, qT_x, z_nx_N, z_nx_B, z_nx_R, z_nx_X, z_bk_N, z_bk_B, z_bk_R, z_bk_X, oAdd, oSub, oMul, oNeg, cLt, cLe, cGt, cGe, cEq, cNe, Option.some.injEq, Sum.inl.injEq, Sum.inr.injEq, Prod.mk.injEq, exists_eq_left, exists_eq_left', exists_eq_right, exists_and_left, reduceCtorEq, and_true, true_and, and_false, false_and, List.getElem?_cons_zero, List.getElem?_cons_succ, List.set_cons_zero, List.set_cons_succ, List.replicate, List.length_cons, List.length_nil, List.cons_append, List.nil_append, Nat.reduceAdd, Nat.reduceSub, decide_eq_true_eq, decide_eq_false_iff_not, Bool.true_eq_false, Bool.false_eq_true, true_implies, false_implies, implies_true, Nat.reduceLT, exists_const, z_vB_inj, and_assoc, z_in_iff, oI2L, oL2I, Int.toNat_natCast, z_toNat0, Bool.not_eq_true', Bool.not_eq_false', ne_eq, Bool.not_true, Bool.not_false, Nat.add_zero, Int.add_zero, z_sl_s]
        exact ⟨by omega, by omega, by omega, by omega, by omega, by omega, by omega, d3, by omega, by omega, by omega, by omega, g3, by omega, by omega, rfl⟩
      · intro _
        simp only [q_obj b1.1, qS_nop, qS_seq, qS_set, qS_setJ, qS_if, qS_brk, qS_ret, qS_retV, qS_throw, qS_inc, qS_cl, qS_ast, qS_aop, qS_fst, qS_fop, qS_sw, qT_eC, qT_eCB, qT_eL, qT_eLJ, qT_eLR, qT_eLB, qT_e1, qT_e2, qT_bCmp, qT_bCmpJ, qT_bAnd, qT_bOr, qT_bNot, qT_eBI, qT_eIf, qT_eLd, qT_eLdR, qT_eLen, qT_eF, qT_eFR, qT_aN, qT_aS, qT_eCl, qT_eClR, qT_eClB, qT_some, qT_x, z_nx_N, z_nx_B, z_nx_R, z_nx_X, z_bk_N, z_bk_B, z_bk_R, z_bk_X, oAdd, oSub, oMul, oNeg, cLt, cLe, cGt, cGe, cEq, cNe, Option.some.injEq, Sum.inl.injEq, Sum.inr.injEq, Prod.mk.injEq, exists_eq_left, exists_eq_left', exists_eq_right, exists_and_left, reduceCtorEq, and_true, true_and, and_false, false_and, List.getElem?_cons_zero, List.getElem?_cons_succ, List.set_cons_zero, List.set_cons_succ, List.replicate, List.length_cons, List.length_nil, List.cons_append, List.nil_append, Nat.reduceAdd, Nat.reduceSub, decide_eq_true_eq, decide_eq_false_iff_not, Bool.true_eq_false, Bool.false_eq_true, true_implies, false_implies, implies_true, Nat.reduceLT, exists_const, z_vB_inj, and_assoc, z_in_iff, oI2L, oL2I, Int.toNat_natCast, z_toNat0, Bool.not_eq_true', Bool.not_eq_false', ne_eq, Bool.not_true, Bool.not_false, Nat.add_zero, Int.add_zero, z_sl_s]
        obtain ⟨fo, c1, c2, c3, c4, c5⟩ := b1.row (i := (i : Int)) (by omega) (by omega)
        rw [Int.toNat_natCast] at c3 c4 c5
        have st := b1.set (show i < 5 by omega) (z_up (fun y => if (i < i ∨ y < j) ∧ y < n1 then mMul M1 M2 n1 i y else M i y) j (z_mn (fun k => z_plus (M1 i k) (M2 k j)) n1))
        have fs : z_fr (fun q => q = o ∨ mRow r q) h' (h'.set (r + i) (.inr (0, 5, z_up (fun y => if (i < i ∨ y < j) ∧ y < n1 then mMul M1 M2 n1 i y else M i y) j (z_mn (fun k => z_plus (M1 i k) (M2 k j)) n1)))) := z_fr.set (Or.inr ⟨by omega, by omega⟩)
        simp only [c1, c2, c4, c5, qS_nop, qS_seq, qS_set, qS_setJ, qS_if, qS_brk, qS_ret, qS_retV, qS_throw, qS_inc, qS_cl, qS_ast, qS_aop, qS_fst, qS_fop, qS_sw, qT_eC, qT_eCB, qT_eL, qT_eLJ, qT_eLR, qT_eLB, qT_e1, qT_e2, qT_bCmp, qT_bCmpJ, qT_bAnd, qT_bOr, qT_bNot, qT_eBI, qT_eIf, qT_eLd, qT_eLdR, qT_eLen, qT_eF, qT_eFR, qT_aN, qT_aS, qT_eCl, qT_eClR, qT_eClB, qT_some, qT_x, z_nx_N, z_nx_B, z_nx_R, z_nx_X, z_bk_N, z_bk_B, z_bk_R, z_bk_X, oAdd, oSub, oMul, oNeg, cLt, cLe, cGt, cGe, cEq, cNe, Option.some.injEq, Sum.inl.injEq, Sum.inr.injEq, Prod.mk.injEq, exists_eq_left, exists_eq_left', exists_eq_right, exists_and_left, reduceCtorEq, and_true, true_and, and_false, false_and, List.getElem?_cons_zero, List.getElem?_cons_succ, List.set_cons_zero, List.set_cons_succ, List.replicate, List.length_cons, List.length_nil, List.cons_append, List.nil_append, Nat.reduceAdd, Nat.reduceSub, decide_eq_true_eq, decide_eq_false_iff_not, Bool.true_eq_false, Bool.false_eq_true, true_implies, false_implies, implies_true, Nat.reduceLT, exists_const, z_vB_inj, and_assoc, z_in_iff, oI2L, oL2I, Int.toNat_natCast, z_toNat0, Bool.not_eq_true', Bool.not_eq_false', ne_eq, Bool.not_true, Bool.not_false, Nat.add_zero, Int.add_zero, z_sl_s]
        refine ⟨by omega, by omega, by omega, by omega, by omega, by omega, by omega, c3, by omega, by omega, by simp [mMul], ?_, b2.tr fs, b1.other b3 hd1 fs, b1.other b4 hd2 fs⟩
        have ef : (fun x => if x = i then (z_up (fun y => if (i < i ∨ y < j) ∧ y < n1 then mMul M1 M2 n1 i y else M i y) j (z_mn (fun k => z_plus (M1 i k) (M2 k j)) n1)) else fun y => if (x < i ∨ x = i ∧ y < j) ∧ y < n1 then mMul M1 M2 n1 x y else M x y) = fun x y => if (x < i ∨ x = i ∧ y < j + 1) ∧ y < n1 then mMul M1 M2 n1 x y else M x y := by
          funext x y
          by_cases hx : x = i
          · subst hx
            unfold z_up
            by_cases hy : y = j
            · subst hy; simp [hj, mMul]
            · by_cases hy2 : y < j
              · simp [hy, hy2, show y < j + 1 by omega]
              · simp [hy, hy2, show ¬ y < j + 1 by omega]
          · simp [hx]
        rw [ef] at st
        exact st
    · intro h' hp
      have b1 := hp.1
      simp only [q_obj b1.1, qS_nop, qS_seq, qS_set, qS_setJ, qS_if, qS_brk, qS_ret, qS_retV, qS_throw, qS_inc, qS_cl, qS_ast, qS_aop, qS_fst, qS_fop, qS_sw, qT_eC, qT_eCB, qT_eL, qT_eLJ, qT_eLR, qT_eLB, qT_e1, qT_e2, qT_bCmp, qT_bCmpJ, qT_bAnd, qT_bOr, qT_bNot, qT_eBI, qT_eIf, qT_eLd, qT_eLdR, qT_eLen, qT_eF, qT_eFR, qT_aN, qT_aS, qT_eCl, qT_eClR, qT_eClB, qT_some, qT_x, z_nx_N, z_nx_B, z_nx_R, z_nx_X, z_bk_N, z_bk_B, z_bk_R, z_bk_X, oAdd, oSub, oMul, oNeg, cLt, cLe, cGt, cGe, cEq, cNe, Option.some.injEq, Sum.inl.injEq, Sum.inr.injEq, Prod.mk.injEq, exists_eq_left, exists_eq_left', exists_eq_right, exists_and_left, reduceCtorEq, and_true, true_and, and_false, false_and, List.getElem?_cons_zero, List.getElem?_cons_succ, List.set_cons_zero, List.set_cons_succ, List.replicate, List.length_cons, List.length_nil, List.cons_append, List.nil_append, Nat.reduceAdd, Nat.reduceSub, decide_eq_true_eq, decide_eq_false_iff_not, Bool.true_eq_false, Bool.false_eq_true, true_implies, false_implies, implies_true, Nat.reduceLT, exists_const, z_vB_inj, and_assoc, z_in_iff, oI2L, oL2I, Int.toNat_natCast, z_toNat0, Bool.not_eq_true', Bool.not_eq_false', ne_eq, Bool.not_true, Bool.not_false, Nat.add_zero, Int.add_zero, z_sl_s]
      refine ⟨by omega, by omega, by omega, by omega, by omega, ?_, ?_, hp.2⟩
      · obtain ⟨q, rfl⟩ : ∃ q, n1 = q + 1 := ⟨n1 - 1, by omega⟩
        simp [z_sl]
      · have ef : (fun x j => if (x < i ∨ x = i ∧ j < n1) ∧ j < n1 then mMul M1 M2 n1 x j else M x j) = fun x j => if x < i + 1 ∧ j < n1 then mMul M1 M2 n1 x j else M x j := by
          funext x j
          by_cases hj : j < n1
          · by_cases hx : x < i + 1
            · simp [hj, hx, show x < i ∨ x = i by omega]
            · simp [hj, hx, show ¬ (x < i ∨ x = i) by omega]
          · simp [hj]
        rw [ef] at b1
        exact b1
  · intro h' hp
    simp only [q_obj hp.1.1, qS_nop, qS_seq, qS_set, qS_setJ, qS_if, qS_brk, qS_ret, qS_retV, qS_throw, qS_inc, qS_cl, qS_ast, qS_aop, qS_fst, qS_fop, qS_sw, qT_eC, qT_eCB, qT_eL, qT_eLJ, qT_eLR, qT_eLB, qT_e1, qT_e2, qT_bCmp, qT_bCmpJ, qT_bAnd, qT_bOr, qT_bNot, qT_eBI, qT_eIf, qT_eLd, qT_eLdR, qT_eLen, qT_eF, qT_eFR, qT_aN, qT_aS, qT_eCl, qT_eClR, qT_eClB, qT_some, qT_x, z_nx_N, z_nx_B, z_nx_R, z_nx_X, z_bk_N, z_bk_B, z_bk_R, z_bk_X, oAdd, oSub, oMul, oNeg, cLt, cLe, cGt, cGe, cEq, cNe, Option.some.injEq, Sum.inl.injEq, Sum.inr.injEq, Prod.mk.injEq, exists_eq_left, exists_eq_left', exists_eq_right, exists_and_left, reduceCtorEq, and_true, true_and, and_false, false_and, List.getElem?_cons_zero, List.getElem?_cons_succ, List.set_cons_zero, List.set_cons_succ, List.replicate, List.length_cons, List.length_nil, List.cons_append, List.nil_append, Nat.reduceAdd, Nat.reduceSub, decide_eq_true_eq, decide_eq_false_iff_not, Bool.true_eq_false, Bool.false_eq_true, true_implies, false_implies, implies_true, Nat.reduceLT, exists_const, z_vB_inj, and_assoc, z_in_iff, oI2L, oL2I, Int.toNat_natCast, z_toNat0, Bool.not_eq_true', Bool.not_eq_false', ne_eq, Bool.not_true, Bool.not_false, Nat.add_zero, Int.add_zero, z_sl_s]
    exact ⟨by omega, by omega, by omega, by omega, by omega, hp.1, hp.2.1⟩
def m_up (M : Nat → Nat → Int) (i j : Nat) (v : Int) : Nat → Nat → Int := fun x y => if x = i ∧ y = j then v else M x y
theorem mAt.upd (a : mAt h o e r n M) {i : Nat} (hi : i < 5) (j : Nat) (v : Int) : mAt (h.set (r + i) (.inr (0, 5, z_up (M i) j v))) o e r n (m_up M i j v) := by
  have st := a.set hi (z_up (M i) j v)
  have ef : (fun x => if x = i then z_up (M i) j v else M x) = m_up M i j v := by
    funext x y
    unfold m_up z_up
    by_cases hx : x = i
    · subst hx; simp
    · simp [hx]
  rw [ef] at st
  exact st
/-- the closing of ways, step by step -/
def mDg (M : Nat → Nat → Int) : Nat → Nat → Nat → Int
  | 0 => M
  | i + 1 => m_up (mDg M i) i i (if mDg M i i i < 0 then mDg M i i i else 0)
def mJ (M : Nat → Nat → Int) (k i : Nat) : Nat → Nat → Nat → Int
  | 0 => M
  | j + 1 => m_up (mJ M k i j) i j (if z_plus (mJ M k i j i k) (mJ M k i j k j) < mJ M k i j i j then z_plus (mJ M k i j i k) (mJ M k i j k j) else mJ M k i j i j)
def mI (n : Nat) (M : Nat → Nat → Int) (k : Nat) : Nat → Nat → Nat → Int
  | 0 => M
  | i + 1 => mJ (mI n M k i) k i n
def mK (n : Nat) (M : Nat → Nat → Int) : Nat → Nat → Nat → Int
  | 0 => M
  | k + 1 => mI n (mK n M k) k n
theorem mAt.row2 (a : mAt h o e r n M) : ∃ fo, z_obj h o 2 = some [vR e, vI (n : Int)] ∧ z_arr h e 4 = some (5, fo) ∧ ∀ i, i < 5 → 0 ≤ fo i ∧ (fo i).toNat = r + i ∧ z_arr h (r + i) 0 = some (5, M i) := by
  obtain ⟨a1, ⟨fo, a2, a3⟩, a4⟩ := a
  refine ⟨fo, q_obj a1, q_arr a2 (by decide), fun i hi => ⟨?_, ?_, q_arr (a4 i hi) (by decide)⟩⟩
  · rw [a3 i hi]; omega
  · rw [a3 i hi]; omega
theorem s_closeWays (a : mAt h o e r n M) (hn : n ≤ 5) (hbD : ∀ i, i ≤ n → mBd (mDg M i) 1000000000) (hb : ∀ k i j, k < n → i < n → j ≤ n → mBd (mJ (mI n (mK n (mDg M n) k) k i) k i j) 1000000000) :
    ∃ h', m_X2_closeWays [vR o] h = some (.inl none, h') ∧ mAt h' o e r n (mK n (mDg M n) n) ∧ z_fr (fun q => mRow r q) h h' := by
  unfold m_X2_closeWays
  rw [q_vm a.1]
  apply q_bodyV
  simp only [b_X2_closeWays, qS_nop, qS_seq, qS_set, qS_setJ, qS_if, qS_brk, qS_ret, qS_retV, qS_throw, qS_inc, qS_cl, qS_ast, qS_aop, qS_fst, qS_fop, qS_sw, qT_eC, qT_eCB, qT_eL, qT_eLJ, qT_eLR, qT_eLB, qT_e1, qT_e2, qT_bCmp, qT_bCmpJ, qT_bAnd, qT_bOr, qT_bNot, qT_eBI, qT_eIf, qT_eLd, qT_eLdR, qT_eLen, qT_eF, qT_eFR, qT_aN, qT_aS, qT_eCl, qT_eClR, qT_eClB, qT_some, qT_x, z_nx_N, z_nx_B, z_nx_R, z_nx_X, z_bk_N, z_bk_B, z_bk_R, z_bk_X, oAdd, oSub, oMul, oNeg, cLt, cLe, cGt, cGe, cEq, cNe, Option.some.injEq, Sum.inl.injEq, Sum.inr.injEq, Prod.mk.injEq, exists_eq_left, exists_eq_left', exists_eq_right, exists_and_left, reduceCtorEq, and_true, true_and, and_false, false_and, List.getElem?_cons_zero, List.getElem?_cons_succ, List.set_cons_zero, List.set_cons_succ, List.replicate, List.length_cons, List.length_nil, List.cons_append, List.nil_append, Nat.reduceAdd, Nat.reduceSub, decide_eq_true_eq, decide_eq_false_iff_not, Bool.true_eq_false, Bool.false_eq_true, true_implies, false_implies, implies_true, Nat.reduceLT, exists_const, z_vB_inj, and_assoc, z_in_iff, oI2L, oL2I, Int.toNat_natCast, z_toNat0, Bool.not_eq_true', Bool.not_eq_false', ne_eq, Bool.not_true, Bool.not_false, Nat.add_zero, Int.add_zero, z_sl_s]
  refine qS_fp (fun k => [vR o, vI (k : Int), vU, vU, vU]) (fun i h' => mAt h' o e r n (mDg M i) ∧ z_fr (fun q => mRow r q) h h') n rfl ⟨a, z_fr.rf⟩ (by omega) ?_ ?_
  · intro i h' hi hp
    have b1 := hp.1
    have b2 := hp.2
    simp only [q_obj b1.1, qS_nop, qS_seq, qS_set, qS_setJ, qS_if, qS_brk, qS_ret, qS_retV, qS_throw, qS_inc, qS_cl, qS_ast, qS_aop, qS_fst, qS_fop, qS_sw, qT_eC, qT_eCB, qT_eL, qT_eLJ, qT_eLR, qT_eLB, qT_e1, qT_e2, qT_bCmp, qT_bCmpJ, qT_bAnd, qT_bOr, qT_bNot, qT_eBI, qT_eIf, qT_eLd, qT_eLdR, qT_eLen, qT_eF, qT_eFR, qT_aN, qT_aS, qT_eCl, qT_eClR, qT_eClB, qT_some, qT_x, z_nx_N, z_nx_B, z_nx_R, z_nx_X, z_bk_N, z_bk_B, z_bk_R, z_bk_X, oAdd, oSub, oMul, oNeg, cLt, cLe, cGt, cGe, cEq, cNe, Option.some.injEq, Sum.inl.injEq, Sum.inr.injEq, Prod.mk.injEq, exists_eq_left, exists_eq_left', exists_eq_right, exists_and_left, reduceCtorEq, and_true, true_and, and_false, false_and, List.getElem?_cons_zero, List.getElem?_cons_succ, List.set_cons_zero, List.set_cons_succ, List.replicate, List.length_cons, List.length_nil, List.cons_append, List.nil_append, Nat.reduceAdd, Nat.reduceSub, decide_eq_true_eq, decide_eq_false_iff_not, Bool.true_eq_false, Bool.false_eq_true, true_implies, false_implies, implies_true, Nat.reduceLT, exists_const, z_vB_inj, and_assoc, z_in_iff, oI2L, oL2I, Int.toNat_natCast, z_toNat0, Bool.not_eq_true', Bool.not_eq_false', ne_eq, Bool.not_true, Bool.not_false, Nat.add_zero, Int.add_zero, z_sl_s]
    obtain ⟨fo, c1, c2, c3, c4, c5⟩ := b1.row (i := (i : Int)) (by omega) (by omega)
    rw [Int.toNat_natCast] at c3 c4 c5
    have v1 := hbD i (by omega) i i (by omega) (by omega)
    have e1 := s_min (x := 0) (y := mDg M i i i) (h := h') ⟨by decide, by decide⟩ ⟨by omega, by omega⟩
    have st := b1.upd (show i < 5 by omega) i (if mDg M i i i < 0 then mDg M i i i else 0)
    simp only [c2, c4, c5, e1, qS_nop, qS_seq, qS_set, qS_setJ, qS_if, qS_brk, qS_ret, qS_retV, qS_throw, qS_inc, qS_cl, qS_ast, qS_aop, qS_fst, qS_fop, qS_sw, qT_eC, qT_eCB, qT_eL, qT_eLJ, qT_eLR, qT_eLB, qT_e1, qT_e2, qT_bCmp, qT_bCmpJ, qT_bAnd, qT_bOr, qT_bNot, qT_eBI, qT_eIf, qT_eLd, qT_eLdR, qT_eLen, qT_eF, qT_eFR, qT_aN, qT_aS, qT_eCl, qT_eClR, qT_eClB, qT_some, qT_x, z_nx_N, z_nx_B, z_nx_R, z_nx_X, z_bk_N, z_bk_B, z_bk_R, z_bk_X, oAdd, oSub, oMul, oNeg, cLt, cLe, cGt, cGe, cEq, cNe, Option.some.injEq, Sum.inl.injEq, Sum.inr.injEq, Prod.mk.injEq, exists_eq_left, exists_eq_left', exists_eq_right, exists_and_left, reduceCtorEq, and_true, true_and, and_false, false_and, List.getElem?_cons_zero, List.getElem?_cons_succ, List.set_cons_zero, List.set_cons_succ, List.replicate, List.length_cons, List.length_nil, List.cons_append, List.nil_append, Nat.reduceAdd, Nat.reduceSub, decide_eq_true_eq, decide_eq_false_iff_not, Bool.true_eq_false, Bool.false_eq_true, true_implies, false_implies, implies_true, Nat.reduceLT, exists_const, z_vB_inj, and_assoc, z_in_iff, oI2L, oL2I, Int.toNat_natCast, z_toNat0, Bool.not_eq_true', Bool.not_eq_false', ne_eq, Bool.not_true, Bool.not_false, Nat.add_zero, Int.add_zero, z_sl_s]
    repeat (first | refine ⟨by omega, ?_⟩ | refine ⟨c3, ?_⟩ | refine ⟨rfl, ?_⟩)
    exact ⟨st, b2.tr (z_fr.set ⟨by omega, by omega⟩)⟩
  · intro h0 hp
    have b1 := hp.1
    have b2 := hp.2
    simp only [q_obj b1.1, qS_nop, qS_seq, qS_set, qS_setJ, qS_if, qS_brk, qS_ret, qS_retV, qS_throw, qS_inc, qS_cl, qS_ast, qS_aop, qS_fst, qS_fop, qS_sw, qT_eC, qT_eCB, qT_eL, qT_eLJ, qT_eLR, qT_eLB, qT_e1, qT_e2, qT_bCmp, qT_bCmpJ, qT_bAnd, qT_bOr, qT_bNot, qT_eBI, qT_eIf, qT_eLd, qT_eLdR, qT_eLen, qT_eF, qT_eFR, qT_aN, qT_aS, qT_eCl, qT_eClR, qT_eClB, qT_some, qT_x, z_nx_N, z_nx_B, z_nx_R, z_nx_X, z_bk_N, z_bk_B, z_bk_R, z_bk_X, oAdd, oSub, oMul, oNeg, cLt, cLe, cGt, cGe, cEq, cNe, Option.some.injEq, Sum.inl.injEq, Sum.inr.injEq, Prod.mk.injEq, exists_eq_left, exists_eq_left', exists_eq_right, exists_and_left, reduceCtorEq, and_true, true_and, and_false, false_and, List.getElem?_cons_zero, List.getElem?_cons_succ, List.set_cons_zero, List.set_cons_succ, List.replicate, List.length_cons, List.length_nil, List.cons_append, List.nil_append, Nat.reduceAdd, Nat.reduceSub, decide_eq_true_eq, decide_eq_false_iff_not, Bool.true_eq_false, Bool.false_eq_true, true_implies, false_implies, implies_true, Nat.reduceLT, exists_const, z_vB_inj, and_assoc, z_in_iff, oI2L, oL2I, Int.toNat_natCast, z_toNat0, Bool.not_eq_true', Bool.not_eq_false', ne_eq, Bool.not_true, Bool.not_false, Nat.add_zero, Int.add_zero, z_sl_s]
    refine ⟨by omega, by omega, by omega, by omega, by omega, ?_⟩
    refine qS_loop (fun k ρ h' => mAt h' o e r n (mK n (mDg M n) k) ∧ z_fr (fun q => mRow r q) h h' ∧ ∃ x y z, ρ = [vR o, vI (k : Int), x, y, z]) n ?_ ?_ n 0 z_fuel _ _ (by omega) (z_fuel_lt (by omega)) ⟨b1, b2, vU, vU, vU, rfl⟩
    · rintro k ρ h' hk ⟨b1, b2, x, y, z, rfl⟩
      simp only [q_obj b1.1, qS_nop, qS_seq, qS_set, qS_setJ, qS_if, qS_brk, qS_ret, qS_retV, qS_throw, qS_inc, qS_cl, qS_ast, qS_aop, qS_fst, qS_fop, qS_sw, qT_eC, qT_eCB, qT_eL, qT_eLJ, qT_eLR, qT_eLB, qT_e1, qT_e2, qT_bCmp, qT_bCmpJ, qT_bAnd, qT_bOr, qT_bNot, qT_eBI, qT_eIf, qT_eLd, qT_eLdR, qT_eLen, qT_eF, qT_eFR, qT_aN, qT_aS, qT_eCl, qT_eClR, qT_eClB, qT_some, qT_x, z_nx_N, z_nx_B, z_nx_R, z_nx_X, z_bk_N, z_bk_B, z_bk_R, z_bk_X, oAdd, oSub, oMul, oNeg, cLt, cLe, cGt, cGe, cEq, cNe, Option.some.injEq, Sum.inl.injEq, Sum.inr.injEq, Prod.mk.injEq, exists_eq_left, exists_eq_left', exists_eq_right, exists_and_left, reduceCtorEq, and_true, true_and, and_false, false_and, List.getElem?_cons_zero, List.getElem?_cons_succ, List.set_cons_zero, List.set_cons_succ, List.replicate, List.length_cons, List.length_nil, List.cons_append, List.nil_append, Nat.reduceAdd, Nat.reduceSub, decide_eq_true_eq, decide_eq_false_iff_not, Bool.true_eq_false, Bool.false_eq_true, true_implies, false_implies, implies_true, Nat.reduceLT, exists_const, z_vB_inj, and_assoc, z_in_iff, oI2L, oL2I, Int.toNat_natCast, z_toNat0, Bool.not_eq_true', Bool.not_eq_false', ne_eq, Bool.not_true, Bool.not_false, Nat.add_zero, Int.add_zero, z_sl_s]
      refine ⟨by omega, by omega, by omega, by omega, by omega, ?_⟩
      refine qS_loop (fun i ρ h' => mAt h' o e r n (mI n (mK n (mDg M n) k) k i) ∧ z_fr (fun q => mRow r q) h h' ∧ ∃ y z, ρ = [vR o, vI (k : Int), vI (i : Int), y, z]) n ?_ ?_ n 0 z_fuel _ _ (by omega) (z_fuel_lt (by omega)) ⟨b1, b2, y, z, rfl⟩
      · rintro i ρ h' hi ⟨b1, b2, y, z, rfl⟩
        simp only [q_obj b1.1, qS_nop, qS_seq, qS_set, qS_setJ, qS_if, qS_brk, qS_ret, qS_retV, qS_throw, qS_inc, qS_cl, qS_ast, qS_aop, qS_fst, qS_fop, qS_sw, qT_eC, qT_eCB, qT_eL, qT_eLJ, qT_eLR, qT_eLB, qT_e1, qT_e2, qT_bCmp, qT_bCmpJ, qT_bAnd, qT_bOr, qT_bNot, qT_eBI, qT_eIf, qT_eLd, qT_eLdR, qT_eLen, qT_eF, qT_eFR, qT_aN, qT_aS, qT_eCl, qT_eClR, qT_eClB, qT_some, qT_x, z_nx_N, z_nx_B, z_nx_R, z_nx_X, z_bk_N, z_bk_B, z_bk_R, z_bk_X, oAdd, oSub, oMul, oNeg, cLt, cLe, cGt, cGe, cEq, cNe, Option.some.injEq, Sum.inl.injEq, Sum.inr.injEq, Prod.mk.injEq, exists_eq_left, exists_eq_left', exists_eq_right, exists_and_left, reduceCtorEq, and_true, true_and, and_false, false_and, List.getElem?_cons_zero, List.getElem?_cons_succ, List.set_cons_zero, List.set_cons_succ, List.replicate, List.length_cons, List.length_nil, List.cons_append, List.nil_append, Nat.reduceAdd, Nat.reduceSub, decide_eq_true_eq, decide_eq_false_iff_not, Bool.true_eq_false, Bool.false_eq_true, true_implies, false_implies, implies_true, Nat.reduceLT, exists_const, z_vB_inj, and_assoc, z_in_iff, oI2L, oL2I, Int.toNat_natCast, z_toNat0, Bool.not_eq_true', Bool.not_eq_false', ne_eq, Bool.not_true, Bool.not_false, Nat.add_zero, Int.add_zero, z_sl_s]
        refine ⟨by omega, by omega, by omega, by omega, by omega, ?_⟩
        refine qS_loop (fun j ρ h' => mAt h' o e r n (mJ (mI n (mK n (mDg M n) k) k i) k i j) ∧ z_fr (fun q => mRow r q) h h' ∧ ∃ z, ρ = [vR o, vI (k : Int), vI (i : Int), vI (j : Int), z]) n ?_ ?_ n 0 z_fuel _ _ (by omega) (z_fuel_lt (by omega)) ⟨b1, b2, z, rfl⟩
        · rintro j ρ h' hj ⟨b1, b2, z, rfl⟩
          simp only [q_obj b1.1, qS_nop, qS_seq, qS_set, qS_setJ, qS_if, qS_brk, qS_ret, qS_retV, qS_throw, qS_inc, qS_cl, qS_ast, qS_aop, qS_fst, qS_fop, qS_sw, qT_eC, qT_eCB, qT_eL, qT_eLJ, qT_eLR, qT_eLB, qT_e1, qT_e2, qT_bCmp, qT_bCmpJ, qT_bAnd, qT_bOr, qT_bNot, qT_eBI, qT_eIf, qT_eLd, qT_eLdR, qT_eLen, qT_eF, qT_eFR, qT_aN, qT_aS, qT_eCl, qT_eClR, qT_eClB, qT_some, qT_x, z_nx_N, z_nx_B, z_nx_R, z_nx_X, z_bk_N, z_bk_B, z_bk_R, z_bk_X, oAdd, oSub, oMul, oNeg, cLt, cLe, cGt, cGe, cEq, cNe, Option.some.injEq, Sum.inl.injEq, Sum.inr.injEq, Prod.mk.injEq, exists_eq_left, exists_eq_left', exists_eq_right, exists_and_left, reduceCtorEq, and_true, true_and, and_false, false_and, List.getElem?_cons_zero, List.getElem?_cons_succ, List.set_cons_zero, List.set_cons_succ, List.replicate, List.length_cons, List.length_nil, List.cons_append, List.nil_append, Nat.reduceAdd, Nat.reduceSub, decide_eq_true_eq, decide_eq_false_iff_not, Bool.true_eq_false, Bool.false_eq_true, true_implies, false_implies, implies_true, Nat.reduceLT, exists_const, z_vB_inj, and_assoc, z_in_iff, oI2L, oL2I, Int.toNat_natCast, z_toNat0, Bool.not_eq_true', Bool.not_eq_false', ne_eq, Bool.not_true, Bool.not_false, Nat.add_zero, Int.add_zero, z_sl_s]
          obtain ⟨fo, c1, c2, cc⟩ := b1.row2
          obtain ⟨c3, c4, c5⟩ := cc i (by omega)
          obtain ⟨d3, d4, d5⟩ := cc k (by omega)
          have v := hb k i j hk hi (by omega)
          generalize hX : mJ (mI n (mK n (mDg M n) k) k i) k i j = X at b1 c5 d5 v
          have v1 := v i k (by omega) (by omega)
          have v2 := v k j (by omega) (by omega)
          have v3 := v i j (by omega) (by omega)
          have v4 := z_plus_b (x := X i k) (y := X k j) (a := -1000000000) (b := -1000000000) v1 v2 (by decide) (by decide)
          have e0 := s_together (x := X i k) (y := X k j) (h := h') ⟨by omega, by omega⟩ ⟨by omega, by omega⟩
          rw [show (if X i k = INF ∨ X k j = INF then INF else X i k + X k j) = z_plus (X i k) (X k j) from rfl] at e0
          have e1 := s_min (x := X i j) (y := z_plus (X i k) (X k j)) (h := h') ⟨by omega, by omega⟩ ⟨by omega, by omega⟩
          have st := b1.upd (show i < 5 by omega) j (if z_plus (X i k) (X k j) < X i j then z_plus (X i k) (X k j) else X i j)
          have ef : m_up X i j (if z_plus (X i k) (X k j) < X i j then z_plus (X i k) (X k j) else X i j) = mJ (mI n (mK n (mDg M n) k) k i) k i (j + 1) := by
            rw [mJ, hX]
          rw [ef] at st
          simp only [c1, c2, c4, c5, d4, d5, e0, e1, qS_nop, qS_seq, qS_set, qS_setJ, qS_if, qS_brk, qS_ret, qS_retV, qS_throw, qS_inc, qS_cl, qS_ast, qS_aop, qS_fst, qS_fop, qS_sw, qT_eC, qT_eCB, qT_eL, qT_eLJ, qT_eLR, qT_eLB, qT_e1, qT_e2, qT_bCmp, qT_bCmpJ, qT_bAnd, qT_bOr, qT_bNot, qT_eBI, qT_eIf, qT_eLd, qT_eLdR, qT_eLen, qT_eF, qT_eFR, qT_aN, qT_aS, qT_eCl, qT_eClR, qT_eClB, qT_some, qT_x, z_nx_N, z_nx_B, z_nx_R, z_nx_X, z_bk_N, z_bk_B, z_bk_R, z_bk_X, oAdd, oSub, oMul, oNeg, cLt, cLe, cGt, cGe, cEq, cNe, Option.some.injEq, Sum.inl.injEq, Sum.inr.injEq, Prod.mk.injEq, exists_eq_left, exists_eq_left', exists_eq_right, exists_and_left, reduceCtorEq, and_true, true_and, and_false, false_and, List.getElem?_cons_zero, List.getElem?_cons_succ, List.set_cons_zero, List.set_cons_succ, List.replicate, List.length_cons, List.length_nil, List.cons_append, List.nil_append, Nat.reduceAdd, Nat.reduceSub, decide_eq_true_eq, decide_eq_false_iff_not, Bool.true_eq_false, Bool.false_eq_true, true_implies, false_implies, implies_true, Nat.reduceLT, exists_const, z_vB_inj, and_assoc, z_in_iff, oI2L, oL2I, Int.toNat_natCast, z_toNat0, Bool.not_eq_true', Bool.not_eq_false', ne_eq, Bool.not_true, Bool.not_false, Nat.add_zero, Int.add_zero, z_sl_s]
          refine ⟨by omega, by omega, by omega, by omega, by omega, by omega, by omega, c3, by omega, by omega, by omega, by omega, d3, by omega, by omega, by omega, by omega, c3, by omega, by omega, c3, by omega, by omega, by omega, by omega, ?_⟩
          refine ⟨st, ?_⟩
          refine ⟨b2.tr (z_fr.set ⟨by omega, by omega⟩), ?_⟩
          exact ⟨_, rfl⟩
        · rintro ρ h' ⟨b1, b2, z, rfl⟩
          simp only [q_obj b1.1, qS_nop, qS_seq, qS_set, qS_setJ, qS_if, qS_brk, qS_ret, qS_retV, qS_throw, qS_inc, qS_cl, qS_ast, qS_aop, qS_fst, qS_fop, qS_sw, qT_eC, qT_eCB, qT_eL, qT_eLJ, qT_eLR, qT_eLB, qT_e1, qT_e2, qT_bCmp, qT_bCmpJ, qT_bAnd, qT_bOr, qT_bNot, qT_eBI, qT_eIf, qT_eLd, qT_eLdR, qT_eLen, qT_eF, qT_eFR, qT_aN, qT_aS, qT_eCl, qT_eClR, qT_eClB, qT_some, qT_x, z_nx_N, z_nx_B, z_nx_R, z_nx_X, z_bk_N, z_bk_B, z_bk_R, z_bk_X, oAdd, oSub, oMul, oNeg, cLt, cLe, cGt, cGe, cEq, cNe, Option.some.injEq, Sum.inl.injEq, Sum.inr.injEq, Prod.mk.injEq, exists_eq_left, exists_eq_left', exists_eq_right, exists_and_left, reduceCtorEq, and_true, true_and, and_false, false_and, List.getElem?_cons_zero, List.getElem?_cons_succ, List.set_cons_zero, List.set_cons_succ, List.replicate, List.length_cons, List.length_nil, List.cons_append, List.nil_append, Nat.reduceAdd, Nat.reduceSub, decide_eq_true_eq, decide_eq_false_iff_not, Bool.true_eq_false, Bool.false_eq_true, true_implies, false_implies, implies_true, Nat.reduceLT, exists_const, z_vB_inj, and_assoc, z_in_iff, oI2L, oL2I, Int.toNat_natCast, z_toNat0, Bool.not_eq_true', Bool.not_eq_false', ne_eq, Bool.not_true, Bool.not_false, Nat.add_zero, Int.add_zero, z_sl_s]
          exact ⟨by omega, by omega, by omega, by omega, by omega, b1, b2, _, _, rfl⟩
      · rintro ρ h' ⟨b1, b2, y, z, rfl⟩
        simp only [q_obj b1.1, qS_nop, qS_seq, qS_set, qS_setJ, qS_if, qS_brk, qS_ret, qS_retV, qS_throw, qS_inc, qS_cl, qS_ast, qS_aop, qS_fst, qS_fop, qS_sw, qT_eC, qT_eCB, qT_eL, qT_eLJ, qT_eLR, qT_eLB, qT_e1, qT_e2, qT_bCmp, qT_bCmpJ, qT_bAnd, qT_bOr, qT_bNot, qT_eBI, qT_eIf, qT_eLd, qT_eLdR, qT_eLen, qT_eF, qT_eFR, qT_aN, qT_aS, qT_eCl, qT_eClR, qT_eClB, qT_some, qT_x, z_nx_N, z_nx_B, z_nx_R, z_nx_X, z_bk_N, z_bk_B, z_bk_R, z_bk_X, oAdd, oSub, oMul, oNeg, cLt, cLe, cGt, cGe, cEq, cNe, Option.some.injEq, Sum.inl.injEq, Sum.inr.injEq, Prod.mk.injEq, exists_eq_left, exists_eq_left', exists_eq_right, exists_and_left, reduceCtorEq, and_true, true_and, and_false, false_and, List.getElem?_cons_zero, List.getElem?_cons_succ, List.set_cons_zero, List.set_cons_succ, List.replicate, List.length_cons, List.length_nil, List.cons_append, List.nil_append, Nat.reduceAdd, Nat.reduceSub, decide_eq_true_eq, decide_eq_false_iff_not, Bool.true_eq_false, Bool.false_eq_true, true_implies, false_implies, implies_true, Nat.reduceLT, exists_const, z_vB_inj, and_assoc, z_in_iff, oI2L, oL2I, Int.toNat_natCast, z_toNat0, Bool.not_eq_true', Bool.not_eq_false', ne_eq, Bool.not_true, Bool.not_false, Nat.add_zero, Int.add_zero, z_sl_s]
        exact ⟨by omega, by omega, by omega, by omega, by omega, b1, b2, _, _, _, rfl⟩
    · rintro ρ h' ⟨b1, b2, x, y, z, rfl⟩
      simp only [q_obj b1.1, qS_nop, qS_seq, qS_set, qS_setJ, qS_if, qS_brk, qS_ret, qS_retV, qS_throw, qS_inc, qS_cl, qS_ast, qS_aop, qS_fst, qS_fop, qS_sw, qT_eC, qT_eCB, qT_eL, qT_eLJ, qT_eLR, qT_eLB, qT_e1, qT_e2, qT_bCmp, qT_bCmpJ, qT_bAnd, qT_bOr, qT_bNot, qT_eBI, qT_eIf, qT_eLd, qT_eLdR, qT_eLen, qT_eF, qT_eFR, qT_aN, qT_aS, qT_eCl, qT_eClR, qT_eClB, qT_some, qT_x, z_nx_N, z_nx_B, z_nx_R, z_nx_X, z_bk_N, z_bk_B, z_bk_R, z_bk_X, oAdd, oSub, oMul, oNeg, cLt, cLe, cGt, cGe, cEq, cNe, Option.some.injEq, Sum.inl.injEq, Sum.inr.injEq, Prod.mk.injEq, exists_eq_left, exists_eq_left', exists_eq_right, exists_and_left, reduceCtorEq, and_true, true_and, and_false, false_and, List.getElem?_cons_zero, List.getElem?_cons_succ, List.set_cons_zero, List.set_cons_succ, List.replicate, List.length_cons, List.length_nil, List.cons_append, List.nil_append, Nat.reduceAdd, Nat.reduceSub, decide_eq_true_eq, decide_eq_false_iff_not, Bool.true_eq_false, Bool.false_eq_true, true_implies, false_implies, implies_true, Nat.reduceLT, exists_const, z_vB_inj, and_assoc, z_in_iff, oI2L, oL2I, Int.toNat_natCast, z_toNat0, Bool.not_eq_true', Bool.not_eq_false', ne_eq, Bool.not_true, Bool.not_false, Nat.add_zero, Int.add_zero, z_sl_s]
      exact ⟨by omega, by omega, by omega, by omega, by omega, b1, b2⟩
end MP
