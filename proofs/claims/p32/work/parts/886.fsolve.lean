/-! THE FACE: solve, project -/
section SV2
variable {h : z_Hp} {o e r n v w : Nat} {M : Nat → Nat → Int} {V W : Nat → Int}
theorem s_leadsTo2 (a : mAt h o e r n M) (hn : n ≤ 5) (hb : mBd M 1000000000) (hv : h[v]? = some (.inr (0, 5, V))) (hw : h[w]? = some (.inr (0, 5, W))) (hV : ∀ i, i < n → -1000000000 ≤ V i ∧ V i ≤ 1000000) (hW : vBd W 1000000000) :
    m_X2_leadsTo [vR o, vR v, vR w] h = some (.inl (some (vB (z_dec (∀ i, i < n → mLd M V n i = W i)))), h) := by
  unfold m_X2_leadsTo
  rw [q_vm a.1]
  apply q_body
  have b6 : INF = 1000000 := rfl
  simp only [b_X2_leadsTo, qS_nop, qS_seq, qS_set, qS_setJ, qS_if, qS_brk, qS_ret, qS_retV, qS_throw, qS_inc, qS_cl, qS_ast, qS_aop, qS_fst, qS_fop, qS_sw, qT_eC, qT_eCB, qT_eL, qT_eLJ, qT_eLR, qT_eLS, qT_eSLen, qT_eSLd, qT_eLB, qT_e1, qT_e2, qT_bCmp, qT_bCmpJ, qT_bAnd, qT_bOr, qT_bNot, qT_eBI, qT_eIf, qT_eLd, qT_eLdR, qT_eLen, qT_eF, qT_eFR, qT_aN, qT_aS, qT_eCl, qT_eClR, qT_eClB, qT_some, qT_x, z_nx_N, z_nx_B, z_nx_R, z_nx_X, z_bk_N, z_bk_B, z_bk_R, z_bk_X, oAdd, oSub, oMul, oNeg, cLt, cLe, cGt, cGe, cEq, cNe, Option.some.injEq, Sum.inl.injEq, Sum.inr.injEq, Prod.mk.injEq, exists_eq_left, exists_eq_left', exists_eq_right, exists_and_left, reduceCtorEq, and_true, true_and, and_false, false_and, List.getElem?_cons_zero, List.getElem?_cons_succ, List.set_cons_zero, List.set_cons_succ, List.replicate, List.length_cons, List.length_nil, List.cons_append, List.nil_append, Nat.reduceAdd, Nat.reduceSub, decide_eq_true_eq, decide_eq_false_iff_not, Bool.true_eq_false, Bool.false_eq_true, true_implies, false_implies, implies_true, Nat.reduceLT, exists_const, z_vB_inj, and_assoc, z_in_iff, oI2L, oL2I, Int.toNat_natCast, z_toNat0, Bool.not_eq_true', Bool.not_eq_false', ne_eq, Bool.not_true, Bool.not_false, Nat.add_zero, Int.add_zero, z_sl_s]
  refine qS_for (fun k => [vR o, vR v, vR w, vI (k : Int), z_sl k (vI (mLd M V n (k - 1))), z_sl k (vI (n : Int))]) (fun _ => h) (fun k => ∀ i, i < k → mLd M V n i = W i) n rfl rfl (fun i hi => absurd hi (Nat.not_lt_zero i)) (by omega) ?_ ?_
  · intro i hi hP
    simp only [q_obj a.1, qS_nop, qS_seq, qS_set, qS_setJ, qS_if, qS_brk, qS_ret, qS_retV, qS_throw, qS_inc, qS_cl, qS_ast, qS_aop, qS_fst, qS_fop, qS_sw, qT_eC, qT_eCB, qT_eL, qT_eLJ, qT_eLR, qT_eLS, qT_eSLen, qT_eSLd, qT_eLB, qT_e1, qT_e2, qT_bCmp, qT_bCmpJ, qT_bAnd, qT_bOr, qT_bNot, qT_eBI, qT_eIf, qT_eLd, qT_eLdR, qT_eLen, qT_eF, qT_eFR, qT_aN, qT_aS, qT_eCl, qT_eClR, qT_eClB, qT_some, qT_x, z_nx_N, z_nx_B, z_nx_R, z_nx_X, z_bk_N, z_bk_B, z_bk_R, z_bk_X, oAdd, oSub, oMul, oNeg, cLt, cLe, cGt, cGe, cEq, cNe, Option.some.injEq, Sum.inl.injEq, Sum.inr.injEq, Prod.mk.injEq, exists_eq_left, exists_eq_left', exists_eq_right, exists_and_left, reduceCtorEq, and_true, true_and, and_false, false_and, List.getElem?_cons_zero, List.getElem?_cons_succ, List.set_cons_zero, List.set_cons_succ, List.replicate, List.length_cons, List.length_nil, List.cons_append, List.nil_append, Nat.reduceAdd, Nat.reduceSub, decide_eq_true_eq, decide_eq_false_iff_not, Bool.true_eq_false, Bool.false_eq_true, true_implies, false_implies, implies_true, Nat.reduceLT, exists_const, z_vB_inj, and_assoc, z_in_iff, oI2L, oL2I, Int.toNat_natCast, z_toNat0, Bool.not_eq_true', Bool.not_eq_false', ne_eq, Bool.not_true, Bool.not_false, Nat.add_zero, Int.add_zero, z_sl_s]
    refine ⟨by omega, by omega, by omega, by omega, by omega, ?_⟩
    obtain ⟨fo, c1, c2, cc⟩ := a.row2
    obtain ⟨c3, c4, c5⟩ := cc i (by omega)
    refine qS_for (fun k => [vR o, vR v, vR w, vI (i : Int), vI (z_mn (fun j => z_plus (M i j) (V j)) k), vI (k : Int)]) (fun _ => h) (fun _ => True) n rfl rfl trivial (by omega) ?_ ?_
    · intro k hk _
      have v1 := hb i k (by omega) (by omega)
      have v2 := hV k (by omega)
      have v3 := z_plus_b (x := M i k) (y := V k) (a := -1000000000) (b := -1000000000) v1 v2 (by decide) (by decide)
      have v4 := z_mn_le (fun k => z_plus (M i k) (V k)) k
      have v5 := z_mn_b (fun k => z_plus (M i k) (V k)) (-2000000000) (by decide) k (fun x hx => (z_plus_b (a := -1000000000) (b := -1000000000) (hb i x (by omega) (by omega)) (hV x (by omega)) (by decide) (by decide)).1)
      simp only [INF] at v4
      have e1 := s_together (x := M i k) (y := V k) (h := h) ⟨by omega, by omega⟩ ⟨by omega, by omega⟩
      rw [show (if M i k = INF ∨ V k = INF then INF else M i k + V k) = z_plus (M i k) (V k) from rfl] at e1
      have e2 := s_min (x := z_mn (fun k => z_plus (M i k) (V k)) k) (y := z_plus (M i k) (V k)) (h := h) ⟨by omega, by omega⟩ ⟨by omega, by omega⟩
      simp only [c1, c2, c4, c5, q_arr hv (by decide), e1, e2, qS_nop, qS_seq, qS_set, qS_setJ, qS_if, qS_brk, qS_ret, qS_retV, qS_throw, qS_inc, qS_cl, qS_ast, qS_aop, qS_fst, qS_fop, qS_sw, qT_eC, qT_eCB, qT_eL, qT_eLJ, qT_eLR, qT_eLS, qT_eSLen, qT_eSLd, qT_eLB, qT_e1, qT_e2, qT_bCmp, qT_bCmpJ, qT_bAnd, qT_bOr, qT_bNot, qT_eBI, qT_eIf, qT_eLd, qT_eLdR, qT_eLen, qT_eF, qT_eFR, qT_aN, qT_aS, qT_eCl, qT_eClR, qT_eClB, qT_some, qT_x, z_nx_N, z_nx_B, z_nx_R, z_nx_X, z_bk_N, z_bk_B, z_bk_R, z_bk_X, oAdd, oSub, oMul, oNeg, cLt, cLe, cGt, cGe, cEq, cNe, Option.some.injEq, Sum.inl.injEq, Sum.inr.injEq, Prod.mk.injEq, exists_eq_left, exists_eq_left', exists_eq_right, exists_and_left, reduceCtorEq, and_true, true_and, and_false, false_and, List.getElem?_cons_zero, List.getElem?_cons_succ, List.set_cons_zero, List.set_cons_succ, List.replicate, List.length_cons, List.length_nil, List.cons_append, List.nil_append, Nat.reduceAdd, Nat.reduceSub, decide_eq_true_eq, decide_eq_false_iff_not, Bool.true_eq_false, Bool.false_eq_true, true_implies, false_implies, implies_true, Nat.reduceLT, exists_const, z_vB_inj, and_assoc, z_in_iff, oI2L, oL2I, Int.toNat_natCast, z_toNat0, Bool.not_eq_true', Bool.not_eq_false', ne_eq, Bool.not_true, Bool.not_false, Nat.add_zero, Int.add_zero, z_sl_s]
      exact ⟨by omega, by omega, by omega, by omega, by omega, by omega, by omega, c3, by omega, by omega, by omega, by omega, rfl⟩
    · intro _
      have v4 := z_mn_le (fun k => z_plus (M i k) (V k)) n
      have v5 := z_mn_b (fun k => z_plus (M i k) (V k)) (-2000000000) (by decide) n (fun x hx => (z_plus_b (a := -1000000000) (b := -1000000000) (hb i x (by omega) (by omega)) (hV x (by omega)) (by decide) (by decide)).1)
      simp only [INF] at v4
      have v6 := hW i (by omega)
      simp only [q_obj a.1, q_arr hw (by decide), qS_nop, qS_seq, qS_set, qS_setJ, qS_if, qS_brk, qS_ret, qS_retV, qS_throw, qS_inc, qS_cl, qS_ast, qS_aop, qS_fst, qS_fop, qS_sw, qT_eC, qT_eCB, qT_eL, qT_eLJ, qT_eLR, qT_eLS, qT_eSLen, qT_eSLd, qT_eLB, qT_e1, qT_e2, qT_bCmp, qT_bCmpJ, qT_bAnd, qT_bOr, qT_bNot, qT_eBI, qT_eIf, qT_eLd, qT_eLdR, qT_eLen, qT_eF, qT_eFR, qT_aN, qT_aS, qT_eCl, qT_eClR, qT_eClB, qT_some, qT_x, z_nx_N, z_nx_B, z_nx_R, z_nx_X, z_bk_N, z_bk_B, z_bk_R, z_bk_X, oAdd, oSub, oMul, oNeg, cLt, cLe, cGt, cGe, cEq, cNe, Option.some.injEq, Sum.inl.injEq, Sum.inr.injEq, Prod.mk.injEq, exists_eq_left, exists_eq_left', exists_eq_right, exists_and_left, reduceCtorEq, and_true, true_and, and_false, false_and, List.getElem?_cons_zero, List.getElem?_cons_succ, List.set_cons_zero, List.set_cons_succ, List.replicate, List.length_cons, List.length_nil, List.cons_append, List.nil_append, Nat.reduceAdd, Nat.reduceSub, decide_eq_true_eq, decide_eq_false_iff_not, Bool.true_eq_false, Bool.false_eq_true, true_implies, false_implies, implies_true, Nat.reduceLT, exists_const, z_vB_inj, and_assoc, z_in_iff, oI2L, oL2I, Int.toNat_natCast, z_toNat0, Bool.not_eq_true', Bool.not_eq_false', ne_eq, Bool.not_true, Bool.not_false, Nat.add_zero, Int.add_zero, z_sl_s]
      refine ⟨by omega, by omega, by omega, by omega, by omega, by omega, by omega, by omega, by omega, by omega, by omega, fun q => ?_, fun q => ⟨rfl, fun x hx => ?_⟩⟩
      · exact ((z_dec_f _).mpr (fun w => q (w i hi))).symm
      · rcases Nat.lt_succ_iff_lt_or_eq.mp hx with hx | rfl
        · exact hP x hx
        · exact Classical.not_not.mp q
  · intro hP
    simp only [q_obj a.1, qS_nop, qS_seq, qS_set, qS_setJ, qS_if, qS_brk, qS_ret, qS_retV, qS_throw, qS_inc, qS_cl, qS_ast, qS_aop, qS_fst, qS_fop, qS_sw, qT_eC, qT_eCB, qT_eL, qT_eLJ, qT_eLR, qT_eLS, qT_eSLen, qT_eSLd, qT_eLB, qT_e1, qT_e2, qT_bCmp, qT_bCmpJ, qT_bAnd, qT_bOr, qT_bNot, qT_eBI, qT_eIf, qT_eLd, qT_eLdR, qT_eLen, qT_eF, qT_eFR, qT_aN, qT_aS, qT_eCl, qT_eClR, qT_eClB, qT_some, qT_x, z_nx_N, z_nx_B, z_nx_R, z_nx_X, z_bk_N, z_bk_B, z_bk_R, z_bk_X, oAdd, oSub, oMul, oNeg, cLt, cLe, cGt, cGe, cEq, cNe, Option.some.injEq, Sum.inl.injEq, Sum.inr.injEq, Prod.mk.injEq, exists_eq_left, exists_eq_left', exists_eq_right, exists_and_left, reduceCtorEq, and_true, true_and, and_false, false_and, List.getElem?_cons_zero, List.getElem?_cons_succ, List.set_cons_zero, List.set_cons_succ, List.replicate, List.length_cons, List.length_nil, List.cons_append, List.nil_append, Nat.reduceAdd, Nat.reduceSub, decide_eq_true_eq, decide_eq_false_iff_not, Bool.true_eq_false, Bool.false_eq_true, true_implies, false_implies, implies_true, Nat.reduceLT, exists_const, z_vB_inj, and_assoc, z_in_iff, oI2L, oL2I, Int.toNat_natCast, z_toNat0, Bool.not_eq_true', Bool.not_eq_false', ne_eq, Bool.not_true, Bool.not_false, Nat.add_zero, Int.add_zero, z_sl_s]
    exact ⟨by omega, by omega, by omega, by omega, by omega, ((z_dec_iff _).mpr hP).symm⟩
end SV2
section PV2
variable {h : z_Hp} {v w : Nat} {V W : Nat → Int}
theorem s_areAlike2 (hv : h[v]? = some (.inr (0, 5, V))) (hw : h[w]? = some (.inr (0, 5, W))) {n : Nat} (hn : n ≤ 5) (hV : ∀ k, k < n → -2147483648 ≤ V k ∧ V k < 2147483648) (hW : ∀ k, k < n → -2147483648 ≤ W k ∧ W k < 2147483648) : m_X5_areAlike [vR v, vR w, vI (n : Int)] h = some (.inl (some (vB (z_dec (∀ k, k < n → V k = W k)))), h) := by
  unfold m_X5_areAlike
  apply q_body
  have b6 : INF = 1000000 := rfl
  simp only [b_X5_areAlike, qS_nop, qS_seq, qS_set, qS_setJ, qS_if, qS_brk, qS_ret, qS_retV, qS_throw, qS_inc, qS_cl, qS_ast, qS_aop, qS_fst, qS_fop, qS_sw, qT_eC, qT_eCB, qT_eL, qT_eLJ, qT_eLR, qT_eLS, qT_eSLen, qT_eSLd, qT_eLB, qT_e1, qT_e2, qT_bCmp, qT_bCmpJ, qT_bAnd, qT_bOr, qT_bNot, qT_eBI, qT_eIf, qT_eLd, qT_eLdR, qT_eLen, qT_eF, qT_eFR, qT_aN, qT_aS, qT_eCl, qT_eClR, qT_eClB, qT_some, qT_x, z_nx_N, z_nx_B, z_nx_R, z_nx_X, z_bk_N, z_bk_B, z_bk_R, z_bk_X, oAdd, oSub, oMul, oNeg, cLt, cLe, cGt, cGe, cEq, cNe, Option.some.injEq, Sum.inl.injEq, Sum.inr.injEq, Prod.mk.injEq, exists_eq_left, exists_eq_left', exists_eq_right, exists_and_left, reduceCtorEq, and_true, true_and, and_false, false_and, List.getElem?_cons_zero, List.getElem?_cons_succ, List.set_cons_zero, List.set_cons_succ, List.replicate, List.length_cons, List.length_nil, List.cons_append, List.nil_append, Nat.reduceAdd, Nat.reduceSub, decide_eq_true_eq, decide_eq_false_iff_not, Bool.true_eq_false, Bool.false_eq_true, true_implies, false_implies, implies_true, Nat.reduceLT, exists_const, z_vB_inj, and_assoc, z_in_iff, oI2L, oL2I, Int.toNat_natCast, z_toNat0, Bool.not_eq_true', Bool.not_eq_false', ne_eq, Bool.not_true, Bool.not_false, Nat.add_zero, Int.add_zero, z_sl_s]
  refine qS_for (fun k => [vR v, vR w, vI (n : Int), vI (k : Int)]) (fun _ => h) (fun m => ∀ k, k < m → V k = W k) n rfl rfl (fun k hk => absurd hk (Nat.not_lt_zero k)) (by omega) ?_ ?_
  · intro k hk hP
    have b1 := hV k (by omega)
    have b2 := hW k (by omega)
    simp only [q_arr hv (by decide : 5 < 2147483648), q_arr hw (by decide : 5 < 2147483648), qS_nop, qS_seq, qS_set, qS_setJ, qS_if, qS_brk, qS_ret, qS_retV, qS_throw, qS_inc, qS_cl, qS_ast, qS_aop, qS_fst, qS_fop, qS_sw, qT_eC, qT_eCB, qT_eL, qT_eLJ, qT_eLR, qT_eLS, qT_eSLen, qT_eSLd, qT_eLB, qT_e1, qT_e2, qT_bCmp, qT_bCmpJ, qT_bAnd, qT_bOr, qT_bNot, qT_eBI, qT_eIf, qT_eLd, qT_eLdR, qT_eLen, qT_eF, qT_eFR, qT_aN, qT_aS, qT_eCl, qT_eClR, qT_eClB, qT_some, qT_x, z_nx_N, z_nx_B, z_nx_R, z_nx_X, z_bk_N, z_bk_B, z_bk_R, z_bk_X, oAdd, oSub, oMul, oNeg, cLt, cLe, cGt, cGe, cEq, cNe, Option.some.injEq, Sum.inl.injEq, Sum.inr.injEq, Prod.mk.injEq, exists_eq_left, exists_eq_left', exists_eq_right, exists_and_left, reduceCtorEq, and_true, true_and, and_false, false_and, List.getElem?_cons_zero, List.getElem?_cons_succ, List.set_cons_zero, List.set_cons_succ, List.replicate, List.length_cons, List.length_nil, List.cons_append, List.nil_append, Nat.reduceAdd, Nat.reduceSub, decide_eq_true_eq, decide_eq_false_iff_not, Bool.true_eq_false, Bool.false_eq_true, true_implies, false_implies, implies_true, Nat.reduceLT, exists_const, z_vB_inj, and_assoc, z_in_iff, oI2L, oL2I, Int.toNat_natCast, z_toNat0, Bool.not_eq_true', Bool.not_eq_false', ne_eq, Bool.not_true, Bool.not_false, Nat.add_zero, Int.add_zero, z_sl_s]
    repeat (refine And.intro (by omega) ?_)
    refine ⟨fun q => ((z_dec_f _).mpr (fun w => q (w k hk))).symm, fun q => ⟨rfl, fun j hj => ?_⟩⟩
    rcases Nat.lt_succ_iff_lt_or_eq.mp hj with l | rfl
    · exact hP j l
    · exact Classical.not_not.mp q
  · intro hP
    simp only [qS_nop, qS_seq, qS_set, qS_setJ, qS_if, qS_brk, qS_ret, qS_retV, qS_throw, qS_inc, qS_cl, qS_ast, qS_aop, qS_fst, qS_fop, qS_sw, qT_eC, qT_eCB, qT_eL, qT_eLJ, qT_eLR, qT_eLS, qT_eSLen, qT_eSLd, qT_eLB, qT_e1, qT_e2, qT_bCmp, qT_bCmpJ, qT_bAnd, qT_bOr, qT_bNot, qT_eBI, qT_eIf, qT_eLd, qT_eLdR, qT_eLen, qT_eF, qT_eFR, qT_aN, qT_aS, qT_eCl, qT_eClR, qT_eClB, qT_some, qT_x, z_nx_N, z_nx_B, z_nx_R, z_nx_X, z_bk_N, z_bk_B, z_bk_R, z_bk_X, oAdd, oSub, oMul, oNeg, cLt, cLe, cGt, cGe, cEq, cNe, Option.some.injEq, Sum.inl.injEq, Sum.inr.injEq, Prod.mk.injEq, exists_eq_left, exists_eq_left', exists_eq_right, exists_and_left, reduceCtorEq, and_true, true_and, and_false, false_and, List.getElem?_cons_zero, List.getElem?_cons_succ, List.set_cons_zero, List.set_cons_succ, List.replicate, List.length_cons, List.length_nil, List.cons_append, List.nil_append, Nat.reduceAdd, Nat.reduceSub, decide_eq_true_eq, decide_eq_false_iff_not, Bool.true_eq_false, Bool.false_eq_true, true_implies, false_implies, implies_true, Nat.reduceLT, exists_const, z_vB_inj, and_assoc, z_in_iff, oI2L, oL2I, Int.toNat_natCast, z_toNat0, Bool.not_eq_true', Bool.not_eq_false', ne_eq, Bool.not_true, Bool.not_false, Nat.add_zero, Int.add_zero, z_sl_s]
    repeat (refine And.intro (by omega) ?_)
    exact ((z_dec_iff _).mpr hP).symm
theorem s_needParts2 (hv : h[v]? = some (.inr (0, 5, V))) {n : Nat} (hn : n ≤ 5) (hV : ∀ k, k < n → -2147483648 ≤ V k ∧ V k < 2147483648) : m_X5_needPartsWithinLimit [vR v, vI (n : Int)] h = some (if z_dec (∀ k, k < n → ¬ (V k ≠ INF ∧ (V k < -99999 ∨ 99999 < V k))) = true then .inl none else .inr kIS, h) := by
  unfold m_X5_needPartsWithinLimit
  apply q_body
  have b6 : INF = 1000000 := rfl
  simp only [b_X5_needPartsWithinLimit, qS_nop, qS_seq, qS_set, qS_setJ, qS_if, qS_brk, qS_ret, qS_retV, qS_throw, qS_inc, qS_cl, qS_ast, qS_aop, qS_fst, qS_fop, qS_sw, qT_eC, qT_eCB, qT_eL, qT_eLJ, qT_eLR, qT_eLS, qT_eSLen, qT_eSLd, qT_eLB, qT_e1, qT_e2, qT_bCmp, qT_bCmpJ, qT_bAnd, qT_bOr, qT_bNot, qT_eBI, qT_eIf, qT_eLd, qT_eLdR, qT_eLen, qT_eF, qT_eFR, qT_aN, qT_aS, qT_eCl, qT_eClR, qT_eClB, qT_some, qT_x, z_nx_N, z_nx_B, z_nx_R, z_nx_X, z_bk_N, z_bk_B, z_bk_R, z_bk_X, oAdd, oSub, oMul, oNeg, cLt, cLe, cGt, cGe, cEq, cNe, Option.some.injEq, Sum.inl.injEq, Sum.inr.injEq, Prod.mk.injEq, exists_eq_left, exists_eq_left', exists_eq_right, exists_and_left, reduceCtorEq, and_true, true_and, and_false, false_and, List.getElem?_cons_zero, List.getElem?_cons_succ, List.set_cons_zero, List.set_cons_succ, List.replicate, List.length_cons, List.length_nil, List.cons_append, List.nil_append, Nat.reduceAdd, Nat.reduceSub, decide_eq_true_eq, decide_eq_false_iff_not, Bool.true_eq_false, Bool.false_eq_true, true_implies, false_implies, implies_true, Nat.reduceLT, exists_const, z_vB_inj, and_assoc, z_in_iff, oI2L, oL2I, Int.toNat_natCast, z_toNat0, Bool.not_eq_true', Bool.not_eq_false', ne_eq, Bool.not_true, Bool.not_false, Nat.add_zero, Int.add_zero, z_sl_s]
  refine qS_for (fun k => [vR v, vI (n : Int), vI (k : Int)]) (fun _ => h) (fun m => ∀ k, k < m → ¬ (V k ≠ INF ∧ (V k < -99999 ∨ 99999 < V k))) n rfl rfl (fun k hk => absurd hk (Nat.not_lt_zero k)) (by omega) ?_ ?_
  · intro k hk hP
    have b := hV k (by omega)
    have e := s_isBeyond (h := h) (x := V k) (y := 99999) ⟨by omega, by omega⟩ ⟨by decide, by decide⟩
    simp only [q_arr hv (by decide : 5 < 2147483648), e, qS_nop, qS_seq, qS_set, qS_setJ, qS_if, qS_brk, qS_ret, qS_retV, qS_throw, qS_inc, qS_cl, qS_ast, qS_aop, qS_fst, qS_fop, qS_sw, qT_eC, qT_eCB, qT_eL, qT_eLJ, qT_eLR, qT_eLS, qT_eSLen, qT_eSLd, qT_eLB, qT_e1, qT_e2, qT_bCmp, qT_bCmpJ, qT_bAnd, qT_bOr, qT_bNot, qT_eBI, qT_eIf, qT_eLd, qT_eLdR, qT_eLen, qT_eF, qT_eFR, qT_aN, qT_aS, qT_eCl, qT_eClR, qT_eClB, qT_some, qT_x, z_nx_N, z_nx_B, z_nx_R, z_nx_X, z_bk_N, z_bk_B, z_bk_R, z_bk_X, oAdd, oSub, oMul, oNeg, cLt, cLe, cGt, cGe, cEq, cNe, Option.some.injEq, Sum.inl.injEq, Sum.inr.injEq, Prod.mk.injEq, exists_eq_left, exists_eq_left', exists_eq_right, exists_and_left, reduceCtorEq, and_true, true_and, and_false, false_and, List.getElem?_cons_zero, List.getElem?_cons_succ, List.set_cons_zero, List.set_cons_succ, List.replicate, List.length_cons, List.length_nil, List.cons_append, List.nil_append, Nat.reduceAdd, Nat.reduceSub, decide_eq_true_eq, decide_eq_false_iff_not, Bool.true_eq_false, Bool.false_eq_true, true_implies, false_implies, implies_true, Nat.reduceLT, exists_const, z_vB_inj, and_assoc, z_in_iff, oI2L, oL2I, Int.toNat_natCast, z_toNat0, Bool.not_eq_true', Bool.not_eq_false', ne_eq, Bool.not_true, Bool.not_false, Nat.add_zero, Int.add_zero, z_sl_s]
    repeat (refine And.intro (by omega) ?_)
    refine ⟨fun q => ?_, fun q => ⟨rfl, fun j hj => ?_⟩⟩
    · have no : ¬ (z_dec (∀ k, k < n → ¬ (¬ V k = INF ∧ (V k < -99999 ∨ 99999 < V k))) = true) := fun w => (z_dec_iff _).mp w k hk ((z_dec_iff _).mp q)
      rw [if_neg no]
      rfl
    · rcases Nat.lt_succ_iff_lt_or_eq.mp hj with l | rfl
      · exact hP j l
      · exact (z_dec_f _).mp q
  · intro hP
    rw [if_pos ((z_dec_iff _).mpr hP)]
    simp only [qS_nop, qS_seq, qS_set, qS_setJ, qS_if, qS_brk, qS_ret, qS_retV, qS_throw, qS_inc, qS_cl, qS_ast, qS_aop, qS_fst, qS_fop, qS_sw, qT_eC, qT_eCB, qT_eL, qT_eLJ, qT_eLR, qT_eLS, qT_eSLen, qT_eSLd, qT_eLB, qT_e1, qT_e2, qT_bCmp, qT_bCmpJ, qT_bAnd, qT_bOr, qT_bNot, qT_eBI, qT_eIf, qT_eLd, qT_eLdR, qT_eLen, qT_eF, qT_eFR, qT_aN, qT_aS, qT_eCl, qT_eClR, qT_eClB, qT_some, qT_x, z_nx_N, z_nx_B, z_nx_R, z_nx_X, z_bk_N, z_bk_B, z_bk_R, z_bk_X, oAdd, oSub, oMul, oNeg, cLt, cLe, cGt, cGe, cEq, cNe, Option.some.injEq, Sum.inl.injEq, Sum.inr.injEq, Prod.mk.injEq, exists_eq_left, exists_eq_left', exists_eq_right, exists_and_left, reduceCtorEq, and_true, true_and, and_false, false_and, List.getElem?_cons_zero, List.getElem?_cons_succ, List.set_cons_zero, List.set_cons_succ, List.replicate, List.length_cons, List.length_nil, List.cons_append, List.nil_append, Nat.reduceAdd, Nat.reduceSub, decide_eq_true_eq, decide_eq_false_iff_not, Bool.true_eq_false, Bool.false_eq_true, true_implies, false_implies, implies_true, Nat.reduceLT, exists_const, z_vB_inj, and_assoc, z_in_iff, oI2L, oL2I, Int.toNat_natCast, z_toNat0, Bool.not_eq_true', Bool.not_eq_false', ne_eq, Bool.not_true, Bool.not_false, Nat.add_zero, Int.add_zero, z_sl_s]
    omega
end PV2
section SP
theorem mSh_b2 {M : Nat → Nat → Int} {V : Nat → Int} {r : Nat} : ∀ k, (∀ i, i < k + 1 → -99999 ≤ M r i ∧ M r i ≤ 99999) → (∀ i, i < k + 1 → -99999 ≤ V i ∧ V i ≤ 99999) → -199998 ≤ mSh M V r k ∧ mSh M V r k ≤ 199998
  | 0, hM, hV => by
    have b1 := hM 0 (by omega)
    have b2 := hV 0 (by omega)
    simp only [mSh]
    omega
  | k + 1, hM, hV => by
    have ih := mSh_b2 k (fun i hi => hM i (by omega)) (fun i hi => hV i (by omega))
    have b1 := hM (k + 1) (by omega)
    have b2 := hV (k + 1) (by omega)
    unfold mSh
    split <;> omega
theorem mPr_b2 {M : Nat → Nat → Int} {V : Nat → Int} {n i : Nat} (hn : 1 ≤ n) (hi : i < n) (hM : ∀ x y, x < n → y < n → -99999 ≤ M x y ∧ M x y ≤ 99999) (hV : ∀ i, i < n → -99999 ≤ V i ∧ V i ≤ 99999) : ∀ x, x ≤ n → -299997 ≤ mPr M V n i x ∧ mPr M V n i x ≤ 299997
  | 0, _ => by simp [mPr]
  | x + 1, hx => by
    have ih := mPr_b2 hn hi hM hV x (by omega)
    have b1 := hM x i (by omega) hi
    have b2 := mSh_b2 (M := M) (V := V) (r := x) (n - 1) (fun i hi => hM x i (by omega) (by omega)) (fun i hi => hV i (by omega))
    unfold mPr
    (repeat' split) <;> omega
theorem mGr_b2 {M : Nat → Nat → Int} {V : Nat → Int} {j : Nat} : ∀ n, (∀ i, i < n → -100000 ≤ M i j ∧ M i j ≤ 1000000) → (∀ i, i < n → -100000 ≤ V i ∧ V i ≤ 100000) → -1000000000 ≤ mGr M V j n ∧ mGr M V j n ≤ 1000000
  | 0, _, _ => by simp [mGr, INF]
  | i + 1, hM, hV => by
    have ih := mGr_b2 i (fun k hk => hM k (by omega)) (fun k hk => hV k (by omega))
    have b1 := hM i (by omega)
    have b2 := hV i (by omega)
    have b6 : INF = 1000000 := rfl
    unfold mGr
    (repeat' split) <;> omega
end SP
section SPF
variable {X : z_Hp} {S : Nat → Nat → Int}
theorem cInv.vb (I : cInv S) {j : Nat} (hj : j < 4) : vBd (S (4 + j)) 1000000000 := fun k hk => by
  have b6 : INF = 1000000 := rfl
  have := I.2.2.1 j hj k hk
  omega
/-- a vector is so, in the first n places; as it was behind -/
theorem f_solve (I : cInv S) {i j l n : Nat} (hi : i < 4) (hj : j < 4) (hl : l < 4) (n51 : S (51 + 9 * i) 0 = (n : Int)) (Q : ∀ k, k < n → S (4 + j) k ≠ INF) (L : ∀ k, k < n → mGr (cM S i) (S (4 + j)) k n = INF ∨ (-99999 ≤ mGr (cM S i) (S (4 + j)) k n ∧ mGr (cM S i) (S (4 + j)) k n ≤ 99999)) : ∃ S' F, m_X5_solve [vR 0, vI (i : Int), vI (j : Int), vI (l : Int)] (k_W X S) = some (.inl (some (vB (z_dec (∀ x, x < n → mLd (cM S i) F n x = S (4 + j) x)))), k_W X S') ∧ (∀ k, k < n → F k = mGr (cM S i) (S (4 + j)) k n) ∧ (∀ k, S' (4 + l) k = if k < n then F k else S (4 + l) k) ∧ cFr (fun a => a = 4 + l) S S' ∧ cInv S' := by
  have b6 : INF = 1000000 := rfl
  have c0 := s_nH1 (i := (i : Int)) (by omega)
  have c1 := s_nH1 (i := (j : Int)) (by omega)
  have c2 := s_nH1 (i := (l : Int)) (by omega)
  obtain ⟨n1, nb, n51', nB, nW⟩ := I.2.1 i hi
  have q1 : n1 = n := by omega
  subst q1
  have r3 := k_2r hi
  have r4 := k_3r hj
  have r5 := k_3r hl
  have hNu := s_hasNumbers (k_vc (X := X) (S := S) hj) (n := n1) nb.2 (I.vb hj)
  rw [(z_dec_iff _).mpr Q] at hNu
  have ps := s_putSolution (k_mat (X := X) (S := S) hi n51) nb.2 nB (k_vc (S := S) hj) (w := 44) (W := S 44) (k_get (by decide)) (by omega) (by unfold mRow; omega) (I.vb hj)
  have s44 : ∀ g, (k_W X S).set 44 (.inr (0, 5, g)) = k_W X (k_u S 44 g) := fun g => k_set rfl
  rw [s44] at ps
  obtain ⟨F, hF⟩ : ∃ F, F = fun k => if k < n1 then mGr (kF S (53 + 9 * i) 5) (S (4 + j)) k n1 else S 44 k := ⟨_, rfl⟩
  rw [← hF] at ps
  have Fe : ∀ k, k < n1 → F k = mGr (cM S i) (S (4 + j)) k n1 := fun k hk => by
    rw [hF]
    simp only [hk, if_true]
    rfl
  have Fb : ∀ k, k < n1 → -1000000000 ≤ F k ∧ F k ≤ 1000000 := fun k hk => by
    rw [Fe k hk]
    have := L k hk
    omega
  obtain ⟨Y, hY⟩ : ∃ Y, Y = k_u S 44 F := ⟨_, rfl⟩
  rw [← hY] at ps
  have Yo : ∀ a, a ≠ 44 → Y a = S a := fun a h1 => by rw [hY, k_u_n h1]
  have Y44 : Y 44 = F := by rw [hY, k_u_s]
  have np := s_needParts2 (h := k_W X Y) (v := 44) (V := F) (by rw [← Y44]; exact k_get (by decide)) (n := n1) nb.2 (fun k hk => by have := Fb k hk; omega)
  have L2 : ∀ k, k < n1 → ¬ (F k ≠ INF ∧ (F k < -99999 ∨ 99999 < F k)) := fun k hk => by
    rw [Fe k hk]
    have := L k hk
    omega
  rw [(z_dec_iff _).mpr L2, if_pos rfl] at np
  have Y4 : Y (4 + j) = S (4 + j) := Yo _ (by omega)
  have Yn : Y (51 + 9 * i) 0 = (n1 : Int) := by rw [Yo _ (by omega)]; exact n51
  have YF : kF Y (53 + 9 * i) 5 = kF S (53 + 9 * i) 5 := kF_e (fun x hx => Yo _ (by omega))
  have lt := s_leadsTo2 (k_mat (X := X) (S := Y) hi Yn) nb.2 (by rw [YF]; exact nB) (v := 44) (w := 4 + j) (V := F) (W := Y (4 + j)) (by rw [← Y44]; exact k_get (by decide)) (k_vc (S := Y) hj) Fb (by rw [Y4]; exact I.vb hj)
  have cp := s_copy (h := k_W X Y) (a := 44) (b := 4 + l) (f := F) (g := Y (4 + l)) (by rw [← Y44]; exact k_get (by decide)) (k_vc (S := Y) hl) (by decide) (by decide) (sp := 0) (dp := 0) (n := (n1 : Int)) (by decide) (by decide) (by omega) (by omega) (by omega)
  rw [k_vs hl] at cp
  obtain ⟨C, hC⟩ : ∃ C, C = z_cp F (Y (4 + l)) (0 : Int).toNat (0 : Int).toNat ((n1 : Int)).toNat := ⟨_, rfl⟩
  rw [← hC] at cp
  have Ce : ∀ k, C k = if k < n1 then F k else S (4 + l) k := fun k => by
    rw [hC]
    unfold z_cp
    rw [Int.toNat_natCast, z_toNat0, Nat.zero_add, Yo _ (by omega)]
    simp
  obtain ⟨Z, hZ⟩ : ∃ Z, Z = k_u Y (4 + l) C := ⟨_, rfl⟩
  rw [← hZ] at cp
  have Zo : ∀ a, a ≠ 44 → a ≠ 4 + l → Z a = S a := fun a h1 h2 => by rw [hZ, k_u_n h2, Yo a h1]
  have Z4 : ∀ k, Z (4 + l) k = if k < n1 then F k else S (4 + l) k := fun k => by rw [hZ, k_u_s]; exact Ce k
  have y51 : Y (51 + 9 * i) = S (51 + 9 * i) := Yo _ (by omega)
  rw [YF, Y4] at lt
  have fr : cFr (fun a => a = 4 + l) S Z := fun a h1 h2 => Zo a (fun e => h1 (by subst e; unfold cFree; omega)) h2
  refine ⟨Z, F, ?_, Fe, Z4, fr, I.v hl (fun k hk => ?_) fr⟩
  · unfold cM
    unfold m_X5_solve
    rw [k_v0]
    apply q_body
    have b6 : INF = 1000000 := rfl
    generalize z_dec (∀ x, x < n1 → mLd (kF S (53 + 9 * i) 5) F n1 x = S (4 + j) x) = bb at lt ⊢
    simp only [b_X5_solve, c0, c1, c2, k_o0, k_a2, k_a3, r3, r4, r5, k_mo hi, y51, n51, hNu, ps, np, lt, cp, z_vB1, z_vB0, if_true, if_false, not_true_eq_false, not_false_eq_true, exists_eq, qS_nop, qS_seq, qS_set, qS_setJ, qS_if, qS_brk, qS_ret, qS_retV, qS_throw, qS_inc, qS_cl, qS_ast, qS_aop, qS_fst, qS_fop, qS_sw, qT_eC, qT_eCB, qT_eL, qT_eLJ, qT_eLR, qT_eLS, qT_eSLen, qT_eSLd, qT_eLB, qT_e1, qT_e2, qT_bCmp, qT_bCmpJ, qT_bAnd, qT_bOr, qT_bNot, qT_eBI, qT_eIf, qT_eLd, qT_eLdR, qT_eLen, qT_eF, qT_eFR, qT_aN, qT_aS, qT_eCl, qT_eClR, qT_eClB, qT_some, qT_x, z_nx_N, z_nx_B, z_nx_R, z_nx_X, z_bk_N, z_bk_B, z_bk_R, z_bk_X, oAdd, oSub, oMul, oNeg, cLt, cLe, cGt, cGe, cEq, cNe, Option.some.injEq, Sum.inl.injEq, Sum.inr.injEq, Prod.mk.injEq, exists_eq_left, exists_eq_left', exists_eq_right, exists_and_left, reduceCtorEq, and_true, true_and, and_false, false_and, List.getElem?_cons_zero, List.getElem?_cons_succ, List.set_cons_zero, List.set_cons_succ, List.replicate, List.length_cons, List.length_nil, List.cons_append, List.nil_append, Nat.reduceAdd, Nat.reduceSub, decide_eq_true_eq, decide_eq_false_iff_not, Bool.true_eq_false, Bool.false_eq_true, true_implies, false_implies, implies_true, Nat.reduceLT, exists_const, z_vB_inj, and_assoc, z_in_iff, oI2L, oL2I, Int.toNat_natCast, z_toNat0, Bool.not_eq_true', Bool.not_eq_false', ne_eq, Bool.not_true, Bool.not_false, Nat.add_zero, Int.add_zero, z_sl_s]
    omega
  · rw [Z4 k]
    split
    · next c =>
      rw [Fe k c]
      exact L k c
    · exact I.2.2.1 l hl k hk
theorem f_project (I : cInv S) {i j l n : Nat} (hi : i < 4) (hj : j < 4) (hl : l < 4) (n51 : S (51 + 9 * i) 0 = (n : Int)) (QA : mNum (cM S i) n) (Q : ∀ k, k < n → S (4 + j) k ≠ INF) (L : ∀ k, k < n → (-99999 ≤ mPr (cM S i) (S (4 + j)) n k n ∧ mPr (cM S i) (S (4 + j)) n k n ≤ 99999)) : ∃ S', m_X5_project [vR 0, vI (i : Int), vI (j : Int), vI (l : Int)] (k_W X S) = some (.inl (some (vB (z_dec (∀ x, x < n → mPr (cM S i) (S (4 + j)) n x n = S (4 + j) x)))), k_W X S') ∧ (∀ k, S' (4 + l) k = if k < n then mPr (cM S i) (S (4 + j)) n k n else S (4 + l) k) ∧ cFr (fun a => a = 4 + l) S S' ∧ cInv S' := by
  have b6 : INF = 1000000 := rfl
  have c0 := s_nH1 (i := (i : Int)) (by omega)
  have c1 := s_nH1 (i := (j : Int)) (by omega)
  have c2 := s_nH1 (i := (l : Int)) (by omega)
  obtain ⟨n1, nb, n51', nB, nW⟩ := I.2.1 i hi
  have q1 : n1 = n := by omega
  subst q1
  have r3 := k_2r hi
  have r4 := k_3r hj
  have r5 := k_3r hl
  have hNa := s_hasNumbersAlone (k_mat (X := X) (S := S) hi n51) nb.2 nB
  have QA' : mNum (kF S (53 + 9 * i) 5) n1 := QA
  rw [(z_dec_iff _).mpr QA'] at hNa
  have hNu := s_hasNumbers (k_vc (X := X) (S := S) hj) (n := n1) nb.2 (I.vb hj)
  rw [(z_dec_iff _).mpr Q] at hNu
  have ps := s_putProjection (k_mat (X := X) (S := S) hi n51) nb nB (k_vc (S := S) hj) (w := 44) (W := S 44) (k_get (by decide)) (by omega) (by unfold mRow; omega) (I.vb hj)
  have s44 : ∀ g, (k_W X S).set 44 (.inr (0, 5, g)) = k_W X (k_u S 44 g) := fun g => k_set rfl
  rw [s44] at ps
  obtain ⟨F, hF⟩ : ∃ F, F = fun k => if k < n1 then mPr (kF S (53 + 9 * i) 5) (S (4 + j)) n1 k n1 else S 44 k := ⟨_, rfl⟩
  rw [← hF] at ps
  have Fe : ∀ k, k < n1 → F k = mPr (cM S i) (S (4 + j)) n1 k n1 := fun k hk => by
    rw [hF]
    simp only [hk, if_true]
    rfl
  have Fb : ∀ k, k < n1 → -99999 ≤ F k ∧ F k ≤ 99999 := fun k hk => by
    rw [Fe k hk]
    exact L k hk
  obtain ⟨Y, hY⟩ : ∃ Y, Y = k_u S 44 F := ⟨_, rfl⟩
  rw [← hY] at ps
  have Yo : ∀ a, a ≠ 44 → Y a = S a := fun a h1 => by rw [hY, k_u_n h1]
  have Y44 : Y 44 = F := by rw [hY, k_u_s]
  have np := s_needParts2 (h := k_W X Y) (v := 44) (V := F) (by rw [← Y44]; exact k_get (by decide)) (n := n1) nb.2 (fun k hk => by have := Fb k hk; omega)
  have L2 : ∀ k, k < n1 → ¬ (F k ≠ INF ∧ (F k < -99999 ∨ 99999 < F k)) := fun k hk => by
    have := Fb k hk
    omega
  rw [(z_dec_iff _).mpr L2, if_pos rfl] at np
  have Y4 : Y (4 + j) = S (4 + j) := Yo _ (by omega)
  have al := s_areAlike2 (h := k_W X Y) (v := 44) (w := 4 + j) (V := F) (W := S (4 + j)) (by rw [← Y44]; exact k_get (by decide)) (by rw [← Y4]; exact k_vc (S := Y) hj) (n := n1) nb.2 (fun k hk => by have := Fb k hk; omega) (fun k hk => by have := I.2.2.1 j hj k (by omega); omega)
  have cp := s_copy (h := k_W X Y) (a := 44) (b := 4 + l) (f := F) (g := Y (4 + l)) (by rw [← Y44]; exact k_get (by decide)) (k_vc (S := Y) hl) (by decide) (by decide) (sp := 0) (dp := 0) (n := (n1 : Int)) (by decide) (by decide) (by omega) (by omega) (by omega)
  rw [k_vs hl] at cp
  obtain ⟨C, hC⟩ : ∃ C, C = z_cp F (Y (4 + l)) (0 : Int).toNat (0 : Int).toNat ((n1 : Int)).toNat := ⟨_, rfl⟩
  rw [← hC] at cp
  have Ce : ∀ k, C k = if k < n1 then F k else S (4 + l) k := fun k => by
    rw [hC]
    unfold z_cp
    rw [Int.toNat_natCast, z_toNat0, Nat.zero_add, Yo _ (by omega)]
    simp
  obtain ⟨Z, hZ⟩ : ∃ Z, Z = k_u Y (4 + l) C := ⟨_, rfl⟩
  rw [← hZ] at cp
  have Zo : ∀ a, a ≠ 44 → a ≠ 4 + l → Z a = S a := fun a h1 h2 => by rw [hZ, k_u_n h2, Yo a h1]
  have Z4 : ∀ k, Z (4 + l) k = if k < n1 then mPr (cM S i) (S (4 + j)) n1 k n1 else S (4 + l) k := fun k => by
    rw [hZ, k_u_s, Ce k]
    split
    · next c => rw [Fe k c]
    · rfl
  have y51 : Y (51 + 9 * i) = S (51 + 9 * i) := Yo _ (by omega)
  have fr : cFr (fun a => a = 4 + l) S Z := fun a h1 h2 => Zo a (fun e => h1 (by subst e; unfold cFree; omega)) h2
  have lq : (∀ k, k < n1 → F k = S (4 + j) k) ↔ (∀ x, x < n1 → mPr (cM S i) (S (4 + j)) n1 x n1 = S (4 + j) x) := ⟨fun q x hx => by rw [← Fe x hx]; exact q x hx, fun q x hx => by rw [Fe x hx]; exact q x hx⟩
  rw [z_dec_c _ _ lq] at al
  refine ⟨Z, ?_, Z4, fr, I.v hl (fun k hk => ?_) fr⟩
  · unfold m_X5_project
    rw [k_v0]
    apply q_body
    have b6 : INF = 1000000 := rfl
    generalize z_dec (∀ x, x < n1 → mPr (cM S i) (S (4 + j)) n1 x n1 = S (4 + j) x) = bb at al ⊢
    simp only [b_X5_project, c0, c1, c2, k_o0, k_a2, k_a3, r3, r4, r5, k_mo hi, y51, n51, hNa, hNu, ps, np, al, cp, z_vB1, z_vB0, if_true, if_false, not_true_eq_false, not_false_eq_true, exists_eq, qS_nop, qS_seq, qS_set, qS_setJ, qS_if, qS_brk, qS_ret, qS_retV, qS_throw, qS_inc, qS_cl, qS_ast, qS_aop, qS_fst, qS_fop, qS_sw, qT_eC, qT_eCB, qT_eL, qT_eLJ, qT_eLR, qT_eLS, qT_eSLen, qT_eSLd, qT_eLB, qT_e1, qT_e2, qT_bCmp, qT_bCmpJ, qT_bAnd, qT_bOr, qT_bNot, qT_eBI, qT_eIf, qT_eLd, qT_eLdR, qT_eLen, qT_eF, qT_eFR, qT_aN, qT_aS, qT_eCl, qT_eClR, qT_eClB, qT_some, qT_x, z_nx_N, z_nx_B, z_nx_R, z_nx_X, z_bk_N, z_bk_B, z_bk_R, z_bk_X, oAdd, oSub, oMul, oNeg, cLt, cLe, cGt, cGe, cEq, cNe, Option.some.injEq, Sum.inl.injEq, Sum.inr.injEq, Prod.mk.injEq, exists_eq_left, exists_eq_left', exists_eq_right, exists_and_left, reduceCtorEq, and_true, true_and, and_false, false_and, List.getElem?_cons_zero, List.getElem?_cons_succ, List.set_cons_zero, List.set_cons_succ, List.replicate, List.length_cons, List.length_nil, List.cons_append, List.nil_append, Nat.reduceAdd, Nat.reduceSub, decide_eq_true_eq, decide_eq_false_iff_not, Bool.true_eq_false, Bool.false_eq_true, true_implies, false_implies, implies_true, Nat.reduceLT, exists_const, z_vB_inj, and_assoc, z_in_iff, oI2L, oL2I, Int.toNat_natCast, z_toNat0, Bool.not_eq_true', Bool.not_eq_false', ne_eq, Bool.not_true, Bool.not_false, Nat.add_zero, Int.add_zero, z_sl_s]
    omega
  · rw [Z4 k]
    split
    · next c => exact Or.inr (L k c)
    · exact I.2.2.1 l hl k hk
end SPF
