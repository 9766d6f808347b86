/-! THE FACE: solve -/
section SV2
variable {h : z_Hp} {o e r n v w : Nat} {M : Nat → Nat → Int} {V W : Nat → Int}
theorem s_leadsTo2 (a : mAt h o e r n M) (hn : n ≤ 5) (hb : mBd M 1000000000) (hv : h[v]? = some (.inr (0, 5, V))) (hw : h[w]? = some (.inr (0, 5, W))) (hV : ∀ i, i < n → -1000000000 ≤ V i ∧ V i ≤ 1000000) (hW : vBd W 1000000000) :
    m_X2_leadsTo [vR o, vR v, vR w] h = some (.inl (some (vB (z_dec (∀ i, i < n → mLd M V n i = W i)))), h) := by
  unfold m_X2_leadsTo
  rw [q_vm a.1]
  apply q_body
  have b6 : INF = 1000000 := rfl
  simp only [b_X2_leadsTo, qS_nop, qS_seq, qS_set, qS_setJ, qS_if, qS_brk, qS_ret, qS_retV, qS_throw, qS_inc, qS_cl, qS_ast, qS_aop, qS_fst, qS_fop, qS_sw, qT_eC, qT_eCB, qT_eL, qT_eLJ, qT_eLR, qT_eLB, qT_e1, qT_e2, qT_bCmp, qT_bCmpJ, qT_bAnd, qT_bOr, qT_bNot, qT_eBI, qT_eIf, qT_eLd, qT_eLdR, qT_eLen, qT_eF, qT_eFR, qT_aN, qT_aS, qT_eCl, qT_eClR, qT_eClB, qT_some, qT_x, z_nx_N, z_nx_B, z_nx_R, z_nx_X, z_bk_N, z_bk_B, z_bk_R, z_bk_X, oAdd, oSub, oMul, oNeg, cLt, cLe, cGt, cGe, cEq, cNe, Option.some.injEq, Sum.inl.injEq, Sum.inr.injEq, Prod.mk.injEq, exists_eq_left, exists_eq_left', exists_eq_right, exists_and_left, reduceCtorEq, and_true, true_and, and_false, false_and, List.getElem?_cons_zero, List.getElem?_cons_succ, List.set_cons_zero, List.set_cons_succ, List.replicate, List.length_cons, List.length_nil, List.cons_append, List.nil_append, Nat.reduceAdd, Nat.reduceSub, decide_eq_true_eq, decide_eq_false_iff_not, Bool.true_eq_false, Bool.false_eq_true, true_implies, false_implies, implies_true, Nat.reduceLT, exists_const, z_vB_inj, and_assoc, z_in_iff, oI2L, oL2I, Int.toNat_natCast, z_toNat0, Bool.not_eq_true', Bool.not_eq_false', ne_eq, Bool.not_true, Bool.not_false, Nat.add_zero, Int.add_zero, z_sl_s]
  refine qS_for (fun k => [vR o, vR v, vR w, vI (k : Int), z_sl k (vI (mLd M V n (k - 1))), z_sl k (vI (n : Int))]) (fun _ => h) (fun k => ∀ i, i < k → mLd M V n i = W i) n rfl rfl (fun i hi => absurd hi (Nat.not_lt_zero i)) (by omega) ?_ ?_
  · intro i hi hP
    simp only [q_obj a.1, qS_nop, qS_seq, qS_set, qS_setJ, qS_if, qS_brk, qS_ret, qS_retV, qS_throw, qS_inc, qS_cl, qS_ast, qS_aop, qS_fst, qS_fop, qS_sw, qT_eC, qT_eCB, qT_eL, qT_eLJ, qT_eLR, qT_eLB, qT_e1, qT_e2, qT_bCmp, qT_bCmpJ, qT_bAnd, qT_bOr, qT_bNot, qT_eBI, qT_eIf, qT_eLd, qT_eLdR, qT_eLen, qT_eF, qT_eFR, qT_aN, qT_aS, qT_eCl, qT_eClR, qT_eClB, qT_some, qT_x, z_nx_N, z_nx_B, z_nx_R, z_nx_X, z_bk_N, z_bk_B, z_bk_R, z_bk_X, oAdd, oSub, oMul, oNeg, cLt, cLe, cGt, cGe, cEq, cNe, Option.some.injEq, Sum.inl.injEq, Sum.inr.injEq, Prod.mk.injEq, exists_eq_left, exists_eq_left', exists_eq_right, exists_and_left, reduceCtorEq, and_true, true_and, and_false, false_and, List.getElem?_cons_zero, List.getElem?_cons_succ, List.set_cons_zero, List.set_cons_succ, List.replicate, List.length_cons, List.length_nil, List.cons_append, List.nil_append, Nat.reduceAdd, Nat.reduceSub, decide_eq_true_eq, decide_eq_false_iff_not, Bool.true_eq_false, Bool.false_eq_true, true_implies, false_implies, implies_true, Nat.reduceLT, exists_const, z_vB_inj, and_assoc, z_in_iff, oI2L, oL2I, Int.toNat_natCast, z_toNat0, Bool.not_eq_true', Bool.not_eq_false', ne_eq, Bool.not_true, Bool.not_false, Nat.add_zero, Int.add_zero, z_sl_s]
    refine ⟨by omega, by omega, by omega, by omega, by omega, ?_⟩
    obtain ⟨fo, c1, c2, cc⟩ := a.row2
    obtain ⟨c3, c4, c5⟩ := cc i (by omega)
    refine qS_for (fun k => [vR o, vR v, vR w, vI (i : Int), vI (z_mn (fun j => z_plus (M i j) (V j)) k), vI (k : Int)]) (fun _ => h) (fun _ => True) n rfl rfl trivial (by omega) ?_ ?_
    · intro k hk _
      have v1 := hb i k (by omega) (by omega)
      have v2 := hV k (by omega)
      have v3 := z_plus_b (x := M i k) (y := V k) (a := -1000000000) (b := -1000000000) v1 v2 (by decide) (by decide)
      have v4 := z_mn_le (fun k => z_plus (M i k) (V k)) k
      have v5 := z_mn_b (fun k => z_plus (M i k) (V k)) (-2000000000) (by decide) k (fun x hx => (z_plus_b (a := -1000000000) (b := -1000000000) (hb i x (by omega) (by omega)) (hV x (by omega)) (by decide) (by decide)).1)
      simp only [INF] at v4
      have e1 := s_together (x := M i k) (y := V k) (h := h) ⟨by omega, by omega⟩ ⟨by omega, by omega⟩
      rw [show (if M i k = INF ∨ V k = INF then INF else M i k + V k) = z_plus (M i k) (V k) from rfl] at e1
      have e2 := s_min (x := z_mn (fun k => z_plus (M i k) (V k)) k) (y := z_plus (M i k) (V k)) (h := h) ⟨by omega, by omega⟩ ⟨by omega, by omega⟩
      simp only [c1, c2, c4, c5, q_arr hv (by decide), e1, e2, qS_nop, qS_seq, qS_set, qS_setJ, qS_if, qS_brk, qS_ret, qS_retV, qS_throw, qS_inc, qS_cl, qS_ast, qS_aop, qS_fst, qS_fop, qS_sw, qT_eC, qT_eCB, qT_eL, qT_eLJ, qT_eLR, qT_eLB, qT_e1, qT_e2, qT_bCmp, qT_bCmpJ, qT_bAnd, qT_bOr, qT_bNot, qT_eBI, qT_eIf, qT_eLd, qT_eLdR, qT_eLen, qT_eF, qT_eFR, qT_aN, qT_aS, qT_eCl, qT_eClR, qT_eClB, qT_some, qT_x, z_nx_N, z_nx_B, z_nx_R, z_nx_X, z_bk_N, z_bk_B, z_bk_R, z_bk_X, oAdd, oSub, oMul, oNeg, cLt, cLe, cGt, cGe, cEq, cNe, Option.some.injEq, Sum.inl.injEq, Sum.inr.injEq, Prod.mk.injEq, exists_eq_left, exists_eq_left', exists_eq_right, exists_and_left, reduceCtorEq, and_true, true_and, and_false, false_and, List.getElem?_cons_zero, List.getElem?_cons_succ, List.set_cons_zero, List.set_cons_succ, List.replicate, List.length_cons, List.length_nil, List.cons_append, List.nil_append, Nat.reduceAdd, Nat.reduceSub, decide_eq_true_eq, decide_eq_false_iff_not, Bool.true_eq_false, Bool.false_eq_true, true_implies, false_implies, implies_true, Nat.reduceLT, exists_const, z_vB_inj, and_assoc, z_in_iff, oI2L, oL2I, Int.toNat_natCast, z_toNat0, Bool.not_eq_true', Bool.not_eq_false', ne_eq, Bool.not_true, Bool.not_false, Nat.add_zero, Int.add_zero, z_sl_s]
      exact ⟨by omega, by omega, by omega, by omega, by omega, by omega, by omega, c3, by omega, by omega, by omega, by omega, rfl⟩
    · intro _
      have v4 := z_mn_le (fun k => z_plus (M i k) (V k)) n
      have v5 := z_mn_b (fun k => z_plus (M i k) (V k)) (-2000000000) (by decide) n (fun x hx => (z_plus_b (a := -1000000000) (b := -1000000000) (hb i x (by omega) (by omega)) (hV x (by omega)) (by decide) (by decide)).1)
      simp only [INF] at v4
      have v6 := hW i (by omega)
      simp only [q_obj a.1, q_arr hw (by decide), qS_nop, qS_seq, qS_set, qS_setJ, qS_if, qS_brk, qS_ret, qS_retV, qS_throw, qS_inc, qS_cl, qS_ast, qS_aop, qS_fst, qS_fop, qS_sw, qT_eC, qT_eCB, qT_eL, qT_eLJ, qT_eLR, qT_eLB, qT_e1, qT_e2, qT_bCmp, qT_bCmpJ, qT_bAnd, qT_bOr, qT_bNot, qT_eBI, qT_eIf, qT_eLd, qT_eLdR, qT_eLen, qT_eF, qT_eFR, qT_aN, qT_aS, qT_eCl, qT_eClR, qT_eClB, qT_some, qT_x, z_nx_N, z_nx_B, z_nx_R, z_nx_X, z_bk_N, z_bk_B, z_bk_R, z_bk_X, oAdd, oSub, oMul, oNeg, cLt, cLe, cGt, cGe, cEq, cNe, Option.some.injEq, Sum.inl.injEq, Sum.inr.injEq, Prod.mk.injEq, exists_eq_left, exists_eq_left', exists_eq_right, exists_and_left, reduceCtorEq, and_true, true_and, and_false, false_and, List.getElem?_cons_zero, List.getElem?_cons_succ, List.set_cons_zero, List.set_cons_succ, List.replicate, List.length_cons, List.length_nil, List.cons_append, List.nil_append, Nat.reduceAdd, Nat.reduceSub, decide_eq_true_eq, decide_eq_false_iff_not, Bool.true_eq_false, Bool.false_eq_true, true_implies, false_implies, implies_true, Nat.reduceLT, exists_const, z_vB_inj, and_assoc, z_in_iff, oI2L, oL2I, Int.toNat_natCast, z_toNat0, Bool.not_eq_true', Bool.not_eq_false', ne_eq, Bool.not_true, Bool.not_false, Nat.add_zero, Int.add_zero, z_sl_s]
      refine ⟨by omega, by omega, by omega, by omega, by omega, by omega, by omega, by omega, by omega, by omega, by omega, fun q => ?_, fun q => ⟨rfl, fun x hx => ?_⟩⟩
      · exact ((z_dec_f _).mpr (fun w => q (w i hi))).symm
      · rcases Nat.lt_succ_iff_lt_or_eq.mp hx with hx | rfl
        · exact hP x hx
        · exact Classical.not_not.mp q
  · intro hP
    simp only [q_obj a.1, qS_nop, qS_seq, qS_set, qS_setJ, qS_if, qS_brk, qS_ret, qS_retV, qS_throw, qS_inc, qS_cl, qS_ast, qS_aop, qS_fst, qS_fop, qS_sw, qT_eC, qT_eCB, qT_eL, qT_eLJ, qT_eLR, qT_eLB, qT_e1, qT_e2, qT_bCmp, qT_bCmpJ, qT_bAnd, qT_bOr, qT_bNot, qT_eBI, qT_eIf, qT_eLd, qT_eLdR, qT_eLen, qT_eF, qT_eFR, qT_aN, qT_aS, qT_eCl, qT_eClR, qT_eClB, qT_some, qT_x, z_nx_N, z_nx_B, z_nx_R, z_nx_X, z_bk_N, z_bk_B, z_bk_R, z_bk_X, oAdd, oSub, oMul, oNeg, cLt, cLe, cGt, cGe, cEq, cNe, Option.some.injEq, Sum.inl.injEq, Sum.inr.injEq, Prod.mk.injEq, exists_eq_left, exists_eq_left', exists_eq_right, exists_and_left, reduceCtorEq, and_true, true_and, and_false, false_and, List.getElem?_cons_zero, List.getElem?_cons_succ, List.set_cons_zero, List.set_cons_succ, List.replicate, List.length_cons, List.length_nil, List.cons_append, List.nil_append, Nat.reduceAdd, Nat.reduceSub, decide_eq_true_eq, decide_eq_false_iff_not, Bool.true_eq_false, Bool.false_eq_true, true_implies, false_implies, implies_true, Nat.reduceLT, exists_const, z_vB_inj, and_assoc, z_in_iff, oI2L, oL2I, Int.toNat_natCast, z_toNat0, Bool.not_eq_true', Bool.not_eq_false', ne_eq, Bool.not_true, Bool.not_false, Nat.add_zero, Int.add_zero, z_sl_s]
    exact ⟨by omega, by omega, by omega, by omega, by omega, ((z_dec_iff _).mpr hP).symm⟩
end SV2
section PV2
variable {h : z_Hp} {v w : Nat} {V W : Nat → Int}
theorem s_areAlike2 (hv : h[v]? = some (.inr (0, 5, V))) (hw : h[w]? = some (.inr (0, 5, W))) {n : Nat} (hn : n ≤ 5) (hV : ∀ k, k < n → -2147483648 ≤ V k ∧ V k < 2147483648) (hW : ∀ k, k < n → -2147483648 ≤ W k ∧ W k < 2147483648) : m_X5_areAlike [vR v, vR w, vI (n : Int)] h = some (.inl (some (vB (z_dec (∀ k, k < n → V k = W k)))), h) := by
  unfold m_X5_areAlike
  apply q_body
  have b6 : INF = 1000000 := rfl
  simp only [b_X5_areAlike, qS_nop, qS_seq, qS_set, qS_setJ, qS_if, qS_brk, qS_ret, qS_retV, qS_throw, qS_inc, qS_cl, qS_ast, qS_aop, qS_fst, qS_fop, qS_sw, qT_eC, qT_eCB, qT_eL, qT_eLJ, qT_eLR, qT_eLB, qT_e1, qT_e2, qT_bCmp, qT_bCmpJ, qT_bAnd, qT_bOr, qT_bNot, qT_eBI, qT_eIf, qT_eLd, qT_eLdR, qT_eLen, qT_eF, qT_eFR, qT_aN, qT_aS, qT_eCl, qT_eClR, qT_eClB, qT_some, qT_x, z_nx_N, z_nx_B, z_nx_R, z_nx_X, z_bk_N, z_bk_B, z_bk_R, z_bk_X, oAdd, oSub, oMul, oNeg, cLt, cLe, cGt, cGe, cEq, cNe, Option.some.injEq, Sum.inl.injEq, Sum.inr.injEq, Prod.mk.injEq, exists_eq_left, exists_eq_left', exists_eq_right, exists_and_left, reduceCtorEq, and_true, true_and, and_false, false_and, List.getElem?_cons_zero, List.getElem?_cons_succ, List.set_cons_zero, List.set_cons_succ, List.replicate, List.length_cons, List.length_nil, List.cons_append, List.nil_append, Nat.reduceAdd, Nat.reduceSub, decide_eq_true_eq, decide_eq_false_iff_not, Bool.true_eq_false, Bool.false_eq_true, true_implies, false_implies, implies_true, Nat.reduceLT, exists_const, z_vB_inj, and_assoc, z_in_iff, oI2L, oL2I, Int.toNat_natCast, z_toNat0, Bool.not_eq_true', Bool.not_eq_false', ne_eq, Bool.not_true, Bool.not_false, Nat.add_zero, Int.add_zero, z_sl_s]
  refine qS_for (fun k => [vR v, vR w, vI (n : Int), vI (k : Int)]) (fun _ => h) (fun m => ∀ k, k < m → V k = W k) n rfl rfl (fun k hk => absurd hk (Nat.not_lt_zero k)) (by omega) ?_ ?_
  · intro k hk hP
    have b1 := hV k (by omega)
    have b2 := hW k (by omega)
    simp only [q_arr hv (by decide : 5 < 2147483648), q_arr hw (by decide : 5 < 2147483648), qS_nop, qS_seq, qS_set, qS_setJ, qS_if, qS_brk, qS_ret, qS_retV, qS_throw, qS_inc, qS_cl, qS_ast, qS_aop, qS_fst, qS_fop, qS_sw, qT_eC, qT_eCB, qT_eL, qT_eLJ, qT_eLR, qT_eLB, qT_e1, qT_e2, qT_bCmp, qT_bCmpJ, qT_bAnd, qT_bOr, qT_bNot, qT_eBI, qT_eIf, qT_eLd, qT_eLdR, qT_eLen, qT_eF, qT_eFR, qT_aN, qT_aS, qT_eCl, qT_eClR, qT_eClB, qT_some, qT_x, z_nx_N, z_nx_B, z_nx_R, z_nx_X, z_bk_N, z_bk_B, z_bk_R, z_bk_X, oAdd, oSub, oMul, oNeg, cLt, cLe, cGt, cGe, cEq, cNe, Option.some.injEq, Sum.inl.injEq, Sum.inr.injEq, Prod.mk.injEq, exists_eq_left, exists_eq_left', exists_eq_right, exists_and_left, reduceCtorEq, and_true, true_and, and_false, false_and, List.getElem?_cons_zero, List.getElem?_cons_succ, List.set_cons_zero, List.set_cons_succ, List.replicate, List.length_cons, List.length_nil, List.cons_append, List.nil_append, Nat.reduceAdd, Nat.reduceSub, decide_eq_true_eq, decide_eq_false_iff_not, Bool.true_eq_false, Bool.false_eq_true, true_implies, false_implies, implies_true, Nat.reduceLT, exists_const, z_vB_inj, and_assoc, z_in_iff, oI2L, oL2I, Int.toNat_natCast, z_toNat0, Bool.not_eq_true', Bool.not_eq_false', ne_eq, Bool.not_true, Bool.not_false, Nat.add_zero, Int.add_zero, z_sl_s]
    repeat (refine And.intro (by omega) ?_)
    refine ⟨fun q => ((z_dec_f _).mpr (fun w => q (w k hk))).symm, fun q => ⟨rfl, fun j hj => ?_⟩⟩
    rcases Nat.lt_succ_iff_lt_or_eq.mp hj with l | rfl
    · exact hP j l
    · exact Classical.not_not.mp q
  · intro hP
    simp only [qS_nop, qS_seq, qS_set, qS_setJ, qS_if, qS_brk, qS_ret, qS_retV, qS_throw, qS_inc, qS_cl, qS_ast, qS_aop, qS_fst, qS_fop, qS_sw, qT_eC, qT_eCB, qT_eL, qT_eLJ, qT_eLR, qT_eLB, qT_e1, qT_e2, qT_bCmp, qT_bCmpJ, qT_bAnd, qT_bOr, qT_bNot, qT_eBI, qT_eIf, qT_eLd, qT_eLdR, qT_eLen, qT_eF, qT_eFR, qT_aN, qT_aS, qT_eCl, qT_eClR, qT_eClB, qT_some, qT_x, z_nx_N, z_nx_B, z_nx_R, z_nx_X, z_bk_N, z_bk_B, z_bk_R, z_bk_X, oAdd, oSub, oMul, oNeg, cLt, cLe, cGt, cGe, cEq, cNe, Option.some.injEq, Sum.inl.injEq, Sum.inr.injEq, Prod.mk.injEq, exists_eq_left, exists_eq_left', exists_eq_right, exists_and_left, reduceCtorEq, and_true, true_and, and_false, false_and, List.getElem?_cons_zero, List.getElem?_cons_succ, List.set_cons_zero, List.set_cons_succ, List.replicate, List.length_cons, List.length_nil, List.cons_append, List.nil_append, Nat.reduceAdd, Nat.reduceSub, decide_eq_true_eq, decide_eq_false_iff_not, Bool.true_eq_false, Bool.false_eq_true, true_implies, false_implies, implies_true, Nat.reduceLT, exists_const, z_vB_inj, and_assoc, z_in_iff, oI2L, oL2I, Int.toNat_natCast, z_toNat0, Bool.not_eq_true', Bool.not_eq_false', ne_eq, Bool.not_true, Bool.not_false, Nat.add_zero, Int.add_zero, z_sl_s]
    repeat (refine And.intro (by omega) ?_)
    exact ((z_dec_iff _).mpr hP).symm
theorem s_needParts2 (hv : h[v]? = some (.inr (0, 5, V))) {n : Nat} (hn : n ≤ 5) (hV : ∀ k, k < n → -2147483648 ≤ V k ∧ V k < 2147483648) : m_X5_needPartsWithinLimit [vR v, vI (n : Int)] h = some (if z_dec (∀ k, k < n → ¬ (V k ≠ INF ∧ (V k < -99999 ∨ 99999 < V k))) = true then .inl none else .inr kIS, h) := by
  unfold m_X5_needPartsWithinLimit
  apply q_body
  have b6 : INF = 1000000 := rfl
  simp only [b_X5_needPartsWithinLimit, qS_nop, qS_seq, qS_set, qS_setJ, qS_if, qS_brk, qS_ret, qS_retV, qS_throw, qS_inc, qS_cl, qS_ast, qS_aop, qS_fst, qS_fop, qS_sw, qT_eC, qT_eCB, qT_eL, qT_eLJ, qT_eLR, qT_eLB, qT_e1, qT_e2, qT_bCmp, qT_bCmpJ, qT_bAnd, qT_bOr, qT_bNot, qT_eBI, qT_eIf, qT_eLd, qT_eLdR, qT_eLen, qT_eF, qT_eFR, qT_aN, qT_aS, qT_eCl, qT_eClR, qT_eClB, qT_some, qT_x, z_nx_N, z_nx_B, z_nx_R, z_nx_X, z_bk_N, z_bk_B, z_bk_R, z_bk_X, oAdd, oSub, oMul, oNeg, cLt, cLe, cGt, cGe, cEq, cNe, Option.some.injEq, Sum.inl.injEq, Sum.inr.injEq, Prod.mk.injEq, exists_eq_left, exists_eq_left', exists_eq_right, exists_and_left, reduceCtorEq, and_true, true_and, and_false, false_and, List.getElem?_cons_zero, List.getElem?_cons_succ, List.set_cons_zero, List.set_cons_succ, List.replicate, List.length_cons, List.length_nil, List.cons_append, List.nil_append, Nat.reduceAdd, Nat.reduceSub, decide_eq_true_eq, decide_eq_false_iff_not, Bool.true_eq_false, Bool.false_eq_true, true_implies, false_implies, implies_true, Nat.reduceLT, exists_const, z_vB_inj, and_assoc, z_in_iff, oI2L, oL2I, Int.toNat_natCast, z_toNat0, Bool.not_eq_true', Bool.not_eq_false', ne_eq, Bool.not_true, Bool.not_false, Nat.add_zero, Int.add_zero, z_sl_s]
  refine qS_for (fun k => [vR v, vI (n : Int), vI (k : Int)]) (fun _ => h) (fun m => ∀ k, k < m → ¬ (V k ≠ INF ∧ (V k < -99999 ∨ 99999 < V k))) n rfl rfl (fun k hk => absurd hk (Nat.not_lt_zero k)) (by omega) ?_ ?_
  · intro k hk hP
    have b := hV k (by omega)
    have e := s_isBeyond (h := h) (x := V k) (y := 99999) ⟨by omega, by omega⟩ ⟨by decide, by decide⟩
    simp only [q_arr hv (by decide : 5 < 2147483648), e, qS_nop, qS_seq, qS_set, qS_setJ, qS_if, qS_brk, qS_ret, qS_retV, qS_throw, qS_inc, qS_cl, qS_ast, qS_aop, qS_fst, qS_fop, qS_sw, qT_eC, qT_eCB, qT_eL, qT_eLJ, qT_eLR, qT_eLB, qT_e1, qT_e2, qT_bCmp, qT_bCmpJ, qT_bAnd, qT_bOr, qT_bNot, qT_eBI, qT_eIf, qT_eLd, qT_eLdR, qT_eLen, qT_eF, qT_eFR, qT_aN, qT_aS, qT_eCl, qT_eClR, qT_eClB, qT_some, qT_x, z_nx_N, z_nx_B, z_nx_R, z_nx_X, z_bk_N, z_bk_B, z_bk_R, z_bk_X, oAdd, oSub, oMul, oNeg, cLt, cLe, cGt, cGe, cEq, cNe, Option.some.injEq, Sum.inl.injEq, Sum.inr.injEq, Prod.mk.injEq, exists_eq_left, exists_eq_left', exists_eq_right, exists_and_left, reduceCtorEq, and_true, true_and, and_false, false_and, List.getElem?_cons_zero, List.getElem?_cons_succ, List.set_cons_zero, List.set_cons_succ, List.replicate, List.length_cons, List.length_nil, List.cons_append, List.nil_append, Nat.reduceAdd, Nat.reduceSub, decide_eq_true_eq, decide_eq_false_iff_not, Bool.true_eq_false, Bool.false_eq_true, true_implies, false_implies, implies_true, Nat.reduceLT, exists_const, z_vB_inj, and_assoc, z_in_iff, oI2L, oL2I, Int.toNat_natCast, z_toNat0, Bool.not_eq_true', Bool.not_eq_false', ne_eq, Bool.not_true, Bool.not_false, Nat.add_zero, Int.add_zero, z_sl_s]
    repeat (refine And.intro (by omega) ?_)
    refine ⟨fun q => ?_, fun q => ⟨rfl, fun j hj => ?_⟩⟩
    · have no : ¬ (z_dec (∀ k, k < n → ¬ (¬ V k = INF ∧ (V k < -99999 ∨ 99999 < V k))) = true) := fun w => (z_dec_iff _).mp w k hk ((z_dec_iff _).mp q)
      rw [if_neg no]
      rfl
    · rcases Nat.lt_succ_iff_lt_or_eq.mp hj with l | rfl
      · exact hP j l
      · exact (z_dec_f _).mp q
  · intro hP
    rw [if_pos ((z_dec_iff _).mpr hP)]
    simp only [qS_nop, qS_seq, qS_set, qS_setJ, qS_if, qS_brk, qS_ret, qS_retV, qS_throw, qS_inc, qS_cl, qS_ast, qS_aop, qS_fst, qS_fop, qS_sw, qT_eC, qT_eCB, qT_eL, qT_eLJ, qT_eLR, qT_eLB, qT_e1, qT_e2, qT_bCmp, qT_bCmpJ, qT_bAnd, qT_bOr, qT_bNot, qT_eBI, qT_eIf, qT_eLd, qT_eLdR, qT_eLen, qT_eF, qT_eFR, qT_aN, qT_aS, qT_eCl, qT_eClR, qT_eClB, qT_some, qT_x, z_nx_N, z_nx_B, z_nx_R, z_nx_X, z_bk_N, z_bk_B, z_bk_R, z_bk_X, oAdd, oSub, oMul, oNeg, cLt, cLe, cGt, cGe, cEq, cNe, Option.some.injEq, Sum.inl.injEq, Sum.inr.injEq, Prod.mk.injEq, exists_eq_left, exists_eq_left', exists_eq_right, exists_and_left, reduceCtorEq, and_true, true_and, and_false, false_and, List.getElem?_cons_zero, List.getElem?_cons_succ, List.set_cons_zero, List.set_cons_succ, List.replicate, List.length_cons, List.length_nil, List.cons_append, List.nil_append, Nat.reduceAdd, Nat.reduceSub, decide_eq_true_eq, decide_eq_false_iff_not, Bool.true_eq_false, Bool.false_eq_true, true_implies, false_implies, implies_true, Nat.reduceLT, exists_const, z_vB_inj, and_assoc, z_in_iff, oI2L, oL2I, Int.toNat_natCast, z_toNat0, Bool.not_eq_true', Bool.not_eq_false', ne_eq, Bool.not_true, Bool.not_false, Nat.add_zero, Int.add_zero, z_sl_s]
    omega
end PV2
section FSo
variable {S : Nat → Nat → Int}
theorem rf_solves {m v n : Nat} (hm : m < 4) (hv : v < 4) (hn : 1 ≤ n ∧ n ≤ 5) (h89 : S 89 m = (n : Int)) (hM : mBd (rM S m) 100000) (hV : vBd (rV S v) 100000) (hF : ∀ k, k < n → -1000000000 ≤ S 95 k ∧ S 95 k ≤ 1000000) :
    m_X6_solves [vR 85, vI (m : Int), vI (v : Int)] (k_W S) = some (.inl (some (vB (z_dec (∀ i, i < n → mLd (rM S m) (S 95) n i = rV S v i)))), k_W S) := by
  unfold m_X6_solves
  rw [k_v85]
  apply q_body
  have b6 : INF = 1000000 := rfl
  simp only [b_X6_solves, qS_nop, qS_seq, qS_set, qS_setJ, qS_if, qS_brk, qS_ret, qS_retV, qS_throw, qS_inc, qS_cl, qS_ast, qS_aop, qS_fst, qS_fop, qS_sw, qT_eC, qT_eCB, qT_eL, qT_eLJ, qT_eLR, qT_eLB, qT_e1, qT_e2, qT_bCmp, qT_bCmpJ, qT_bAnd, qT_bOr, qT_bNot, qT_eBI, qT_eIf, qT_eLd, qT_eLdR, qT_eLen, qT_eF, qT_eFR, qT_aN, qT_aS, qT_eCl, qT_eClR, qT_eClB, qT_some, qT_x, z_nx_N, z_nx_B, z_nx_R, z_nx_X, z_bk_N, z_bk_B, z_bk_R, z_bk_X, oAdd, oSub, oMul, oNeg, cLt, cLe, cGt, cGe, cEq, cNe, Option.some.injEq, Sum.inl.injEq, Sum.inr.injEq, Prod.mk.injEq, exists_eq_left, exists_eq_left', exists_eq_right, exists_and_left, reduceCtorEq, and_true, true_and, and_false, false_and, List.getElem?_cons_zero, List.getElem?_cons_succ, List.set_cons_zero, List.set_cons_succ, List.replicate, List.length_cons, List.length_nil, List.cons_append, List.nil_append, Nat.reduceAdd, Nat.reduceSub, decide_eq_true_eq, decide_eq_false_iff_not, Bool.true_eq_false, Bool.false_eq_true, true_implies, false_implies, implies_true, Nat.reduceLT, exists_const, z_vB_inj, and_assoc, z_in_iff, oI2L, oL2I, Int.toNat_natCast, z_toNat0, Bool.not_eq_true', Bool.not_eq_false', ne_eq, Bool.not_true, Bool.not_false, Nat.add_zero, Int.add_zero, z_sl_s]
  refine qS_loop (fun i ρ h' => h' = k_W S ∧ ∃ a b, ρ = [vR 85, vI (m : Int), vI (v : Int), vB (z_dec (∀ x, x < i → mLd (rM S m) (S 95) n x = rV S v x)), vI (i : Int), a, b]) n ?_ ?_ n 0 z_fuel _ _ (by omega) (z_fuel_lt (by omega)) ⟨rfl, _, _, by rw [z_fa_0, z_dec_t]; rfl⟩
  · rintro i ρ h' hi ⟨rfl, a, b, rfl⟩
    simp only [h89, k_v85, k_o85, k_r0, k_r1, k_r2, k_r3, k_r4, k_r5, k_r6, k_r7, k_r8, k_r9, k_r10, k_r11, k_r12, k_r13, k_r14, k_r15, k_r16, k_r17, k_r18, k_rl, k_sc, k_st, k_a86, k_s86, k_a87, k_s87, k_a88, k_s88, k_a89, k_s89, k_a90, k_s90, k_a91, k_s91, k_a92, k_s92, k_a93, k_s93, k_a94, k_s94, k_a95, k_s95, k_a96, k_s96, k_a97, k_s97, k_a98, k_s98, k_a99, k_s99, k_a100, k_s100, k_a101, k_s101, k_a102, k_s102, k_u_s, k_u_n, k_u_u, Nat.reduceEqDiff, not_false_eq_true, qS_nop, qS_seq, qS_set, qS_setJ, qS_if, qS_brk, qS_ret, qS_retV, qS_throw, qS_inc, qS_cl, qS_ast, qS_aop, qS_fst, qS_fop, qS_sw, qT_eC, qT_eCB, qT_eL, qT_eLJ, qT_eLR, qT_eLB, qT_e1, qT_e2, qT_bCmp, qT_bCmpJ, qT_bAnd, qT_bOr, qT_bNot, qT_eBI, qT_eIf, qT_eLd, qT_eLdR, qT_eLen, qT_eF, qT_eFR, qT_aN, qT_aS, qT_eCl, qT_eClR, qT_eClB, qT_some, qT_x, z_nx_N, z_nx_B, z_nx_R, z_nx_X, z_bk_N, z_bk_B, z_bk_R, z_bk_X, oAdd, oSub, oMul, oNeg, cLt, cLe, cGt, cGe, cEq, cNe, Option.some.injEq, Sum.inl.injEq, Sum.inr.injEq, Prod.mk.injEq, exists_eq_left, exists_eq_left', exists_eq_right, exists_and_left, reduceCtorEq, and_true, true_and, and_false, false_and, List.getElem?_cons_zero, List.getElem?_cons_succ, List.set_cons_zero, List.set_cons_succ, List.replicate, List.length_cons, List.length_nil, List.cons_append, List.nil_append, Nat.reduceAdd, Nat.reduceSub, decide_eq_true_eq, decide_eq_false_iff_not, Bool.true_eq_false, Bool.false_eq_true, true_implies, false_implies, implies_true, Nat.reduceLT, exists_const, z_vB_inj, and_assoc, z_in_iff, oI2L, oL2I, Int.toNat_natCast, z_toNat0, Bool.not_eq_true', Bool.not_eq_false', ne_eq, Bool.not_true, Bool.not_false, Nat.add_zero, Int.add_zero, z_sl_s]
    repeat (refine And.intro (by omega) ?_)
    refine qS_loop (fun j ρ h' => h' = k_W S ∧ ρ = [vR 85, vI (m : Int), vI (v : Int), vB (z_dec (∀ x, x < i → mLd (rM S m) (S 95) n x = rV S v x)), vI (i : Int), vI (z_mn (fun j => z_plus (rM S m i j) (S 95 j)) j), vI (j : Int)]) n ?_ ?_ n 0 z_fuel _ _ (by omega) (z_fuel_lt (by omega)) ⟨rfl, rfl⟩
    · rintro j ρ h' hj ⟨rfl, rfl⟩
      have e1 := rf_in (S := S) (m := m) (i := i) (j := j) hm (by omega) (by omega)
      have v1 := hM i j (by omega) (by omega)
      have v2 := hF j hj
      have v3 := z_plus_b (x := rM S m i j) (y := S 95 j) (a := -100000) (b := -1000000000) v1 v2 (by decide) (by decide)
      have v4 := z_mn_le (fun k => z_plus (rM S m i k) (S 95 k)) j
      have v5 := z_mn_b (fun k => z_plus (rM S m i k) (S 95 k)) (-2000000000) (by decide) j (fun x hx => Int.le_trans (by decide) (z_plus_b (a := -100000) (b := -1000000000) (hM i x (by omega) (by omega)) (hF x (by omega)) (by decide) (by decide)).1)
      have e2 := rf_plus (h := k_W S) (x := rM S m i j) (y := S 95 j) ⟨by omega, by omega⟩ ⟨by omega, by omega⟩
      have e3 := rf_lesser (h := k_W S) (x := z_mn (fun k => z_plus (rM S m i k) (S 95 k)) j) (y := z_plus (rM S m i j) (S 95 j)) ⟨by omega, by omega⟩ ⟨by omega, by omega⟩
      simp only [h89, e1, e2, e3, k_v85, k_o85, k_r0, k_r1, k_r2, k_r3, k_r4, k_r5, k_r6, k_r7, k_r8, k_r9, k_r10, k_r11, k_r12, k_r13, k_r14, k_r15, k_r16, k_r17, k_r18, k_rl, k_sc, k_st, k_a86, k_s86, k_a87, k_s87, k_a88, k_s88, k_a89, k_s89, k_a90, k_s90, k_a91, k_s91, k_a92, k_s92, k_a93, k_s93, k_a94, k_s94, k_a95, k_s95, k_a96, k_s96, k_a97, k_s97, k_a98, k_s98, k_a99, k_s99, k_a100, k_s100, k_a101, k_s101, k_a102, k_s102, k_u_s, k_u_n, k_u_u, Nat.reduceEqDiff, not_false_eq_true, qS_nop, qS_seq, qS_set, qS_setJ, qS_if, qS_brk, qS_ret, qS_retV, qS_throw, qS_inc, qS_cl, qS_ast, qS_aop, qS_fst, qS_fop, qS_sw, qT_eC, qT_eCB, qT_eL, qT_eLJ, qT_eLR, qT_eLB, qT_e1, qT_e2, qT_bCmp, qT_bCmpJ, qT_bAnd, qT_bOr, qT_bNot, qT_eBI, qT_eIf, qT_eLd, qT_eLdR, qT_eLen, qT_eF, qT_eFR, qT_aN, qT_aS, qT_eCl, qT_eClR, qT_eClB, qT_some, qT_x, z_nx_N, z_nx_B, z_nx_R, z_nx_X, z_bk_N, z_bk_B, z_bk_R, z_bk_X, oAdd, oSub, oMul, oNeg, cLt, cLe, cGt, cGe, cEq, cNe, Option.some.injEq, Sum.inl.injEq, Sum.inr.injEq, Prod.mk.injEq, exists_eq_left, exists_eq_left', exists_eq_right, exists_and_left, reduceCtorEq, and_true, true_and, and_false, false_and, List.getElem?_cons_zero, List.getElem?_cons_succ, List.set_cons_zero, List.set_cons_succ, List.replicate, List.length_cons, List.length_nil, List.cons_append, List.nil_append, Nat.reduceAdd, Nat.reduceSub, decide_eq_true_eq, decide_eq_false_iff_not, Bool.true_eq_false, Bool.false_eq_true, true_implies, false_implies, implies_true, Nat.reduceLT, exists_const, z_vB_inj, and_assoc, z_in_iff, oI2L, oL2I, Int.toNat_natCast, z_toNat0, Bool.not_eq_true', Bool.not_eq_false', ne_eq, Bool.not_true, Bool.not_false, Nat.add_zero, Int.add_zero, z_sl_s]
      repeat (refine And.intro (by omega) ?_)
      rfl
    · rintro ρ h' ⟨rfl, rfl⟩
      have e1 := rf_partOf (S := S) hv (show i < 5 by omega)
      have v1 := hV i (by omega)
      have v4 := z_mn_le (fun k => z_plus (rM S m i k) (S 95 k)) n
      have v5 := z_mn_b (fun k => z_plus (rM S m i k) (S 95 k)) (-2000000000) (by decide) n (fun x hx => Int.le_trans (by decide) (z_plus_b (a := -100000) (b := -1000000000) (hM i x (by omega) (by omega)) (hF x (by omega)) (by decide) (by decide)).1)
      have ed : z_mn (fun k => z_plus (rM S m i k) (S 95 k)) n = mLd (rM S m) (S 95) n i := rfl
      rw [ed] at v4 v5 ⊢
      rw [z_fa_s]
      generalize (∀ x, x < i → mLd (rM S m) (S 95) n x = rV S v x) = P
      simp only [h89, e1, k_v85, k_o85, k_r0, k_r1, k_r2, k_r3, k_r4, k_r5, k_r6, k_r7, k_r8, k_r9, k_r10, k_r11, k_r12, k_r13, k_r14, k_r15, k_r16, k_r17, k_r18, k_rl, k_sc, k_st, k_a86, k_s86, k_a87, k_s87, k_a88, k_s88, k_a89, k_s89, k_a90, k_s90, k_a91, k_s91, k_a92, k_s92, k_a93, k_s93, k_a94, k_s94, k_a95, k_s95, k_a96, k_s96, k_a97, k_s97, k_a98, k_s98, k_a99, k_s99, k_a100, k_s100, k_a101, k_s101, k_a102, k_s102, k_u_s, k_u_n, k_u_u, Nat.reduceEqDiff, not_false_eq_true, qS_nop, qS_seq, qS_set, qS_setJ, qS_if, qS_brk, qS_ret, qS_retV, qS_throw, qS_inc, qS_cl, qS_ast, qS_aop, qS_fst, qS_fop, qS_sw, qT_eC, qT_eCB, qT_eL, qT_eLJ, qT_eLR, qT_eLB, qT_e1, qT_e2, qT_bCmp, qT_bCmpJ, qT_bAnd, qT_bOr, qT_bNot, qT_eBI, qT_eIf, qT_eLd, qT_eLdR, qT_eLen, qT_eF, qT_eFR, qT_aN, qT_aS, qT_eCl, qT_eClR, qT_eClB, qT_some, qT_x, z_nx_N, z_nx_B, z_nx_R, z_nx_X, z_bk_N, z_bk_B, z_bk_R, z_bk_X, oAdd, oSub, oMul, oNeg, cLt, cLe, cGt, cGe, cEq, cNe, Option.some.injEq, Sum.inl.injEq, Sum.inr.injEq, Prod.mk.injEq, exists_eq_left, exists_eq_left', exists_eq_right, exists_and_left, reduceCtorEq, and_true, true_and, and_false, false_and, List.getElem?_cons_zero, List.getElem?_cons_succ, List.set_cons_zero, List.set_cons_succ, List.replicate, List.length_cons, List.length_nil, List.cons_append, List.nil_append, Nat.reduceAdd, Nat.reduceSub, decide_eq_true_eq, decide_eq_false_iff_not, Bool.true_eq_false, Bool.false_eq_true, true_implies, false_implies, implies_true, Nat.reduceLT, exists_const, z_vB_inj, and_assoc, z_in_iff, oI2L, oL2I, Int.toNat_natCast, z_toNat0, Bool.not_eq_true', Bool.not_eq_false', ne_eq, Bool.not_true, Bool.not_false, Nat.add_zero, Int.add_zero, z_sl_s]
      try simp only [List.cons.injEq, Sum.inl.injEq, Sum.inr.injEq, z_vB_inj, and_true, true_and, exists_eq', exists_eq_left, exists_eq_left', exists_eq_right, exists_eq_right', exists_and_left, exists_and_right, exists_const, if_true, if_false, z_vB1, z_vB0, z_vBP, z_bd, decide_eq_true_eq, decide_eq_false_iff_not, Bool.not_eq_true', Bool.false_eq_true, Bool.true_eq_false, z_dec_iff, z_dec_f, z_dec_inj, true_iff, iff_true, false_iff, iff_false, not_true_eq_false, not_false_eq_true, Classical.not_not]
      (try clear e1)
      (repeat' (first | apply And.intro | intro _)) <;> first | omega | rfl | grind
  · rintro ρ h' ⟨rfl, a, b, rfl⟩
    simp only [h89, k_v85, k_o85, k_r0, k_r1, k_r2, k_r3, k_r4, k_r5, k_r6, k_r7, k_r8, k_r9, k_r10, k_r11, k_r12, k_r13, k_r14, k_r15, k_r16, k_r17, k_r18, k_rl, k_sc, k_st, k_a86, k_s86, k_a87, k_s87, k_a88, k_s88, k_a89, k_s89, k_a90, k_s90, k_a91, k_s91, k_a92, k_s92, k_a93, k_s93, k_a94, k_s94, k_a95, k_s95, k_a96, k_s96, k_a97, k_s97, k_a98, k_s98, k_a99, k_s99, k_a100, k_s100, k_a101, k_s101, k_a102, k_s102, k_u_s, k_u_n, k_u_u, Nat.reduceEqDiff, not_false_eq_true, qS_nop, qS_seq, qS_set, qS_setJ, qS_if, qS_brk, qS_ret, qS_retV, qS_throw, qS_inc, qS_cl, qS_ast, qS_aop, qS_fst, qS_fop, qS_sw, qT_eC, qT_eCB, qT_eL, qT_eLJ, qT_eLR, qT_eLB, qT_e1, qT_e2, qT_bCmp, qT_bCmpJ, qT_bAnd, qT_bOr, qT_bNot, qT_eBI, qT_eIf, qT_eLd, qT_eLdR, qT_eLen, qT_eF, qT_eFR, qT_aN, qT_aS, qT_eCl, qT_eClR, qT_eClB, qT_some, qT_x, z_nx_N, z_nx_B, z_nx_R, z_nx_X, z_bk_N, z_bk_B, z_bk_R, z_bk_X, oAdd, oSub, oMul, oNeg, cLt, cLe, cGt, cGe, cEq, cNe, Option.some.injEq, Sum.inl.injEq, Sum.inr.injEq, Prod.mk.injEq, exists_eq_left, exists_eq_left', exists_eq_right, exists_and_left, reduceCtorEq, and_true, true_and, and_false, false_and, List.getElem?_cons_zero, List.getElem?_cons_succ, List.set_cons_zero, List.set_cons_succ, List.replicate, List.length_cons, List.length_nil, List.cons_append, List.nil_append, Nat.reduceAdd, Nat.reduceSub, decide_eq_true_eq, decide_eq_false_iff_not, Bool.true_eq_false, Bool.false_eq_true, true_implies, false_implies, implies_true, Nat.reduceLT, exists_const, z_vB_inj, and_assoc, z_in_iff, oI2L, oL2I, Int.toNat_natCast, z_toNat0, Bool.not_eq_true', Bool.not_eq_false', ne_eq, Bool.not_true, Bool.not_false, Nat.add_zero, Int.add_zero, z_sl_s]
    repeat (refine And.intro (by omega) ?_)
    first | rfl | omega
/-- a vector is kept in both -/
theorem kInv.vec (I : kInv S) {l n : Nat} (hl : l < 4) (hn : n ≤ 5) {F : Nat → Int} (hF : ∀ k, k < n → F k = INF ∨ (-99999 ≤ F k ∧ F k ≤ 99999)) {V : Nat → Nat → Int} (h4 : ∀ a, ¬ kFree a → a ≠ 4 + l → V a = S a) (hV : ∀ k, k < 5 → V (4 + l) k = if k < n then F k else S (4 + l) k) (h95 : ∀ k, k < n → V 95 k = F k) : kInv (k_u V 94 (z_at (5 * l) n (V 95) (V 94))) := by
  have v94 : V 94 = S 94 := h4 94 (by unfold kFree; omega) (by omega)
  refine I.of3 (fun x hx y hy => ?_) (fun a ha h1 h2 => ?_)
  · have e := I.2.2.1 x hx y hy
    have z1 : rV (k_u V 94 (z_at (5 * l) n (V 95) (V 94))) x y = z_at (5 * l) n (V 95) (V 94) (5 * x + y) := by unfold rV; rw [k_u_s]
    rw [z1, k_u_n (by omega)]
    unfold z_at
    by_cases c : x = l
    · subst c
      rw [hV y hy]
      by_cases d : y < n
      · rw [if_pos (by omega), if_pos d, show 5 * x + y - 5 * x = y by omega, h95 y d]
        exact ⟨rfl, hF y d⟩
      · rw [if_neg (by omega), if_neg d, v94]
        exact e
    · rw [if_neg (by omega), v94, h4 _ (by unfold kFree; omega) (by omega)]
      exact e
  · rw [k_u_n h2, h4 a ha (by omega)]
theorem kInv.vb (I : kInv S) {i : Nat} (hi : i < 4) : vBd (S (4 + i)) 100000 := fun k hk => by
  have b6 : INF = 1000000 := rfl
  have := I.2.2.1 i hi k hk
  omega
theorem kInv.vb' (I : kInv S) {i : Nat} (hi : i < 4) : vBd (rV S i) 100000 := fun k hk => by
  have b6 : INF = 1000000 := rfl
  have := I.2.2.1 i hi k hk
  omega
theorem rV_u {S T : Nat → Nat → Int} (h : T 94 = S 94) (m : Nat) : rV T m = rV S m := by
  unfold rV
  rw [h]
theorem vBd.up {V : Nat → Int} (h : vBd V 100000) : vBd V 1000000000 := fun k hk => by have := h k hk; omega
theorem mGr_cg {M N : Nat → Nat → Int} {V W : Nat → Int} {j : Nat} : ∀ n, (∀ i, i < n → M i j = N i j ∧ V i = W i) → mGr M V j n = mGr N W j n
  | 0, _ => rfl
  | n + 1, h => by
    rw [mGr, mGr, mGr_cg n (fun i hi => h i (by omega)), (h n (by omega)).1, (h n (by omega)).2]
theorem mLd_cg {M N : Nat → Nat → Int} {V W : Nat → Int} {n i : Nat} (h : ∀ j, j < n → M i j = N i j ∧ V j = W j) : mLd M V n i = mLd N W n i := by
  unfold mLd
  exact z_mn_eq (fun j hj => by rw [(h j hj).1, (h j hj).2])
theorem mGr_b2 {M : Nat → Nat → Int} {V : Nat → Int} {j : Nat} : ∀ n, (∀ i, i < n → -100000 ≤ M i j ∧ M i j ≤ 1000000) → (∀ i, i < n → -100000 ≤ V i ∧ V i ≤ 100000) → -1000000000 ≤ mGr M V j n ∧ mGr M V j n ≤ 1000000
  | 0, _, _ => by simp [mGr, INF]
  | i + 1, hM, hV => by
    have ih := mGr_b2 i (fun k hk => hM k (by omega)) (fun k hk => hV k (by omega))
    have b1 := hM i (by omega)
    have b2 := hV i (by omega)
    have b6 : INF = 1000000 := rfl
    unfold mGr
    (repeat' split) <;> omega
theorem op_solve (I : kInv S) {p : Int} {k : Int} {t : Int} (hp : kR p) (hk : kR k) (ht : kR t) : kOp m_X5_solve m_X6_solve kIO kIS [vI p, vI k, vI t] S := by
  have b6 : INF = 1000000 := rfl
  by_cases q0 : 0 ≤ p ∧ p ≤ 3
  rotate_left
  · have c0 := s_nH0 hp q0
    have r0 := rf_one0 hp q0
    refine kOp.x1 (r := vB false) (S1 := S) (S2 := fun g => k_t (k_u S 103 g) 1) ?_ (fun g => ?_) (fun g => I.t g 1) (fun g => k_t_103) (fun g => k_t_1)
    · unfold m_X5_solve
      rw [k_v0]
      apply q_body
      have b6 : INF = 1000000 := rfl
      simp only [b_X5_solve, c0, qS_nop, qS_seq, qS_set, qS_setJ, qS_if, qS_brk, qS_ret, qS_retV, qS_throw, qS_inc, qS_cl, qS_ast, qS_aop, qS_fst, qS_fop, qS_sw, qT_eC, qT_eCB, qT_eL, qT_eLJ, qT_eLR, qT_eLB, qT_e1, qT_e2, qT_bCmp, qT_bCmpJ, qT_bAnd, qT_bOr, qT_bNot, qT_eBI, qT_eIf, qT_eLd, qT_eLdR, qT_eLen, qT_eF, qT_eFR, qT_aN, qT_aS, qT_eCl, qT_eClR, qT_eClB, qT_some, qT_x, z_nx_N, z_nx_B, z_nx_R, z_nx_X, z_bk_N, z_bk_B, z_bk_R, z_bk_X, oAdd, oSub, oMul, oNeg, cLt, cLe, cGt, cGe, cEq, cNe, Option.some.injEq, Sum.inl.injEq, Sum.inr.injEq, Prod.mk.injEq, exists_eq_left, exists_eq_left', exists_eq_right, exists_and_left, reduceCtorEq, and_true, true_and, and_false, false_and, List.getElem?_cons_zero, List.getElem?_cons_succ, List.set_cons_zero, List.set_cons_succ, List.replicate, List.length_cons, List.length_nil, List.cons_append, List.nil_append, Nat.reduceAdd, Nat.reduceSub, decide_eq_true_eq, decide_eq_false_iff_not, Bool.true_eq_false, Bool.false_eq_true, true_implies, false_implies, implies_true, Nat.reduceLT, exists_const, z_vB_inj, and_assoc, z_in_iff, oI2L, oL2I, Int.toNat_natCast, z_toNat0, Bool.not_eq_true', Bool.not_eq_false', ne_eq, Bool.not_true, Bool.not_false, Nat.add_zero, Int.add_zero, z_sl_s]
    · unfold m_X6_solve
      rw [k_v85]
      apply q_body
      have b6 : INF = 1000000 := rfl
      simp only [b_X6_solve, r0, rf_can1, z_vB1, z_vB0, if_true, if_false, not_true_eq_false, not_false_eq_true, k_t_n, k_t_1, exists_eq, k_v85, k_o85, k_r0, k_r1, k_r2, k_r3, k_r4, k_r5, k_r6, k_r7, k_r8, k_r9, k_r10, k_r11, k_r12, k_r13, k_r14, k_r15, k_r16, k_r17, k_r18, k_rl, k_sc, k_st, k_a86, k_s86, k_a87, k_s87, k_a88, k_s88, k_a89, k_s89, k_a90, k_s90, k_a91, k_s91, k_a92, k_s92, k_a93, k_s93, k_a94, k_s94, k_a95, k_s95, k_a96, k_s96, k_a97, k_s97, k_a98, k_s98, k_a99, k_s99, k_a100, k_s100, k_a101, k_s101, k_a102, k_s102, k_u_s, k_u_n, k_u_u, Nat.reduceEqDiff, not_false_eq_true, qS_nop, qS_seq, qS_set, qS_setJ, qS_if, qS_brk, qS_ret, qS_retV, qS_throw, qS_inc, qS_cl, qS_ast, qS_aop, qS_fst, qS_fop, qS_sw, qT_eC, qT_eCB, qT_eL, qT_eLJ, qT_eLR, qT_eLB, qT_e1, qT_e2, qT_bCmp, qT_bCmpJ, qT_bAnd, qT_bOr, qT_bNot, qT_eBI, qT_eIf, qT_eLd, qT_eLdR, qT_eLen, qT_eF, qT_eFR, qT_aN, qT_aS, qT_eCl, qT_eClR, qT_eClB, qT_some, qT_x, z_nx_N, z_nx_B, z_nx_R, z_nx_X, z_bk_N, z_bk_B, z_bk_R, z_bk_X, oAdd, oSub, oMul, oNeg, cLt, cLe, cGt, cGe, cEq, cNe, Option.some.injEq, Sum.inl.injEq, Sum.inr.injEq, Prod.mk.injEq, exists_eq_left, exists_eq_left', exists_eq_right, exists_and_left, reduceCtorEq, and_true, true_and, and_false, false_and, List.getElem?_cons_zero, List.getElem?_cons_succ, List.set_cons_zero, List.set_cons_succ, List.replicate, List.length_cons, List.length_nil, List.cons_append, List.nil_append, Nat.reduceAdd, Nat.reduceSub, decide_eq_true_eq, decide_eq_false_iff_not, Bool.true_eq_false, Bool.false_eq_true, true_implies, false_implies, implies_true, Nat.reduceLT, exists_const, z_vB_inj, and_assoc, z_in_iff, oI2L, oL2I, Int.toNat_natCast, z_toNat0, Bool.not_eq_true', Bool.not_eq_false', ne_eq, Bool.not_true, Bool.not_false, Nat.add_zero, Int.add_zero, z_sl_s]
  by_cases q1 : 0 ≤ k ∧ k ≤ 3
  rotate_left
  · have c0 := s_nH1 (i := p) q0
    have r0 := rf_one1 (i := p) q0
    have c1 := s_nH0 hk q1
    have r1 := rf_one0 hk q1
    refine kOp.x1 (r := vB false) (S1 := S) (S2 := fun g => k_t (k_u S 103 g) 1) ?_ (fun g => ?_) (fun g => I.t g 1) (fun g => k_t_103) (fun g => k_t_1)
    · unfold m_X5_solve
      rw [k_v0]
      apply q_body
      have b6 : INF = 1000000 := rfl
      simp only [b_X5_solve, c0, c1, qS_nop, qS_seq, qS_set, qS_setJ, qS_if, qS_brk, qS_ret, qS_retV, qS_throw, qS_inc, qS_cl, qS_ast, qS_aop, qS_fst, qS_fop, qS_sw, qT_eC, qT_eCB, qT_eL, qT_eLJ, qT_eLR, qT_eLB, qT_e1, qT_e2, qT_bCmp, qT_bCmpJ, qT_bAnd, qT_bOr, qT_bNot, qT_eBI, qT_eIf, qT_eLd, qT_eLdR, qT_eLen, qT_eF, qT_eFR, qT_aN, qT_aS, qT_eCl, qT_eClR, qT_eClB, qT_some, qT_x, z_nx_N, z_nx_B, z_nx_R, z_nx_X, z_bk_N, z_bk_B, z_bk_R, z_bk_X, oAdd, oSub, oMul, oNeg, cLt, cLe, cGt, cGe, cEq, cNe, Option.some.injEq, Sum.inl.injEq, Sum.inr.injEq, Prod.mk.injEq, exists_eq_left, exists_eq_left', exists_eq_right, exists_and_left, reduceCtorEq, and_true, true_and, and_false, false_and, List.getElem?_cons_zero, List.getElem?_cons_succ, List.set_cons_zero, List.set_cons_succ, List.replicate, List.length_cons, List.length_nil, List.cons_append, List.nil_append, Nat.reduceAdd, Nat.reduceSub, decide_eq_true_eq, decide_eq_false_iff_not, Bool.true_eq_false, Bool.false_eq_true, true_implies, false_implies, implies_true, Nat.reduceLT, exists_const, z_vB_inj, and_assoc, z_in_iff, oI2L, oL2I, Int.toNat_natCast, z_toNat0, Bool.not_eq_true', Bool.not_eq_false', ne_eq, Bool.not_true, Bool.not_false, Nat.add_zero, Int.add_zero, z_sl_s]
    · unfold m_X6_solve
      rw [k_v85]
      apply q_body
      have b6 : INF = 1000000 := rfl
      simp only [b_X6_solve, r0, r1, rf_can1, z_vB1, z_vB0, if_true, if_false, not_true_eq_false, not_false_eq_true, k_t_n, k_t_1, exists_eq, k_v85, k_o85, k_r0, k_r1, k_r2, k_r3, k_r4, k_r5, k_r6, k_r7, k_r8, k_r9, k_r10, k_r11, k_r12, k_r13, k_r14, k_r15, k_r16, k_r17, k_r18, k_rl, k_sc, k_st, k_a86, k_s86, k_a87, k_s87, k_a88, k_s88, k_a89, k_s89, k_a90, k_s90, k_a91, k_s91, k_a92, k_s92, k_a93, k_s93, k_a94, k_s94, k_a95, k_s95, k_a96, k_s96, k_a97, k_s97, k_a98, k_s98, k_a99, k_s99, k_a100, k_s100, k_a101, k_s101, k_a102, k_s102, k_u_s, k_u_n, k_u_u, Nat.reduceEqDiff, not_false_eq_true, qS_nop, qS_seq, qS_set, qS_setJ, qS_if, qS_brk, qS_ret, qS_retV, qS_throw, qS_inc, qS_cl, qS_ast, qS_aop, qS_fst, qS_fop, qS_sw, qT_eC, qT_eCB, qT_eL, qT_eLJ, qT_eLR, qT_eLB, qT_e1, qT_e2, qT_bCmp, qT_bCmpJ, qT_bAnd, qT_bOr, qT_bNot, qT_eBI, qT_eIf, qT_eLd, qT_eLdR, qT_eLen, qT_eF, qT_eFR, qT_aN, qT_aS, qT_eCl, qT_eClR, qT_eClB, qT_some, qT_x, z_nx_N, z_nx_B, z_nx_R, z_nx_X, z_bk_N, z_bk_B, z_bk_R, z_bk_X, oAdd, oSub, oMul, oNeg, cLt, cLe, cGt, cGe, cEq, cNe, Option.some.injEq, Sum.inl.injEq, Sum.inr.injEq, Prod.mk.injEq, exists_eq_left, exists_eq_left', exists_eq_right, exists_and_left, reduceCtorEq, and_true, true_and, and_false, false_and, List.getElem?_cons_zero, List.getElem?_cons_succ, List.set_cons_zero, List.set_cons_succ, List.replicate, List.length_cons, List.length_nil, List.cons_append, List.nil_append, Nat.reduceAdd, Nat.reduceSub, decide_eq_true_eq, decide_eq_false_iff_not, Bool.true_eq_false, Bool.false_eq_true, true_implies, false_implies, implies_true, Nat.reduceLT, exists_const, z_vB_inj, and_assoc, z_in_iff, oI2L, oL2I, Int.toNat_natCast, z_toNat0, Bool.not_eq_true', Bool.not_eq_false', ne_eq, Bool.not_true, Bool.not_false, Nat.add_zero, Int.add_zero, z_sl_s]
  by_cases q2 : 0 ≤ t ∧ t ≤ 3
  rotate_left
  · have c0 := s_nH1 (i := p) q0
    have r0 := rf_one1 (i := p) q0
    have c1 := s_nH1 (i := k) q1
    have r1 := rf_one1 (i := k) q1
    have c2 := s_nH0 ht q2
    have r2 := rf_one0 ht q2
    refine kOp.x1 (r := vB false) (S1 := S) (S2 := fun g => k_t (k_u S 103 g) 1) ?_ (fun g => ?_) (fun g => I.t g 1) (fun g => k_t_103) (fun g => k_t_1)
    · unfold m_X5_solve
      rw [k_v0]
      apply q_body
      have b6 : INF = 1000000 := rfl
      simp only [b_X5_solve, c0, c1, c2, qS_nop, qS_seq, qS_set, qS_setJ, qS_if, qS_brk, qS_ret, qS_retV, qS_throw, qS_inc, qS_cl, qS_ast, qS_aop, qS_fst, qS_fop, qS_sw, qT_eC, qT_eCB, qT_eL, qT_eLJ, qT_eLR, qT_eLB, qT_e1, qT_e2, qT_bCmp, qT_bCmpJ, qT_bAnd, qT_bOr, qT_bNot, qT_eBI, qT_eIf, qT_eLd, qT_eLdR, qT_eLen, qT_eF, qT_eFR, qT_aN, qT_aS, qT_eCl, qT_eClR, qT_eClB, qT_some, qT_x, z_nx_N, z_nx_B, z_nx_R, z_nx_X, z_bk_N, z_bk_B, z_bk_R, z_bk_X, oAdd, oSub, oMul, oNeg, cLt, cLe, cGt, cGe, cEq, cNe, Option.some.injEq, Sum.inl.injEq, Sum.inr.injEq, Prod.mk.injEq, exists_eq_left, exists_eq_left', exists_eq_right, exists_and_left, reduceCtorEq, and_true, true_and, and_false, false_and, List.getElem?_cons_zero, List.getElem?_cons_succ, List.set_cons_zero, List.set_cons_succ, List.replicate, List.length_cons, List.length_nil, List.cons_append, List.nil_append, Nat.reduceAdd, Nat.reduceSub, decide_eq_true_eq, decide_eq_false_iff_not, Bool.true_eq_false, Bool.false_eq_true, true_implies, false_implies, implies_true, Nat.reduceLT, exists_const, z_vB_inj, and_assoc, z_in_iff, oI2L, oL2I, Int.toNat_natCast, z_toNat0, Bool.not_eq_true', Bool.not_eq_false', ne_eq, Bool.not_true, Bool.not_false, Nat.add_zero, Int.add_zero, z_sl_s]
    · unfold m_X6_solve
      rw [k_v85]
      apply q_body
      have b6 : INF = 1000000 := rfl
      simp only [b_X6_solve, r0, r1, r2, rf_can1, z_vB1, z_vB0, if_true, if_false, not_true_eq_false, not_false_eq_true, k_t_n, k_t_1, exists_eq, k_v85, k_o85, k_r0, k_r1, k_r2, k_r3, k_r4, k_r5, k_r6, k_r7, k_r8, k_r9, k_r10, k_r11, k_r12, k_r13, k_r14, k_r15, k_r16, k_r17, k_r18, k_rl, k_sc, k_st, k_a86, k_s86, k_a87, k_s87, k_a88, k_s88, k_a89, k_s89, k_a90, k_s90, k_a91, k_s91, k_a92, k_s92, k_a93, k_s93, k_a94, k_s94, k_a95, k_s95, k_a96, k_s96, k_a97, k_s97, k_a98, k_s98, k_a99, k_s99, k_a100, k_s100, k_a101, k_s101, k_a102, k_s102, k_u_s, k_u_n, k_u_u, Nat.reduceEqDiff, not_false_eq_true, qS_nop, qS_seq, qS_set, qS_setJ, qS_if, qS_brk, qS_ret, qS_retV, qS_throw, qS_inc, qS_cl, qS_ast, qS_aop, qS_fst, qS_fop, qS_sw, qT_eC, qT_eCB, qT_eL, qT_eLJ, qT_eLR, qT_eLB, qT_e1, qT_e2, qT_bCmp, qT_bCmpJ, qT_bAnd, qT_bOr, qT_bNot, qT_eBI, qT_eIf, qT_eLd, qT_eLdR, qT_eLen, qT_eF, qT_eFR, qT_aN, qT_aS, qT_eCl, qT_eClR, qT_eClB, qT_some, qT_x, z_nx_N, z_nx_B, z_nx_R, z_nx_X, z_bk_N, z_bk_B, z_bk_R, z_bk_X, oAdd, oSub, oMul, oNeg, cLt, cLe, cGt, cGe, cEq, cNe, Option.some.injEq, Sum.inl.injEq, Sum.inr.injEq, Prod.mk.injEq, exists_eq_left, exists_eq_left', exists_eq_right, exists_and_left, reduceCtorEq, and_true, true_and, and_false, false_and, List.getElem?_cons_zero, List.getElem?_cons_succ, List.set_cons_zero, List.set_cons_succ, List.replicate, List.length_cons, List.length_nil, List.cons_append, List.nil_append, Nat.reduceAdd, Nat.reduceSub, decide_eq_true_eq, decide_eq_false_iff_not, Bool.true_eq_false, Bool.false_eq_true, true_implies, false_implies, implies_true, Nat.reduceLT, exists_const, z_vB_inj, and_assoc, z_in_iff, oI2L, oL2I, Int.toNat_natCast, z_toNat0, Bool.not_eq_true', Bool.not_eq_false', ne_eq, Bool.not_true, Bool.not_false, Nat.add_zero, Int.add_zero, z_sl_s]
  have c0 := s_nH1 (i := p) q0
  have r0 := rf_one1 (i := p) q0
  have c1 := s_nH1 (i := k) q1
  have r1 := rf_one1 (i := k) q1
  have c2 := s_nH1 (i := t) q2
  have r2 := rf_one1 (i := t) q2
  obtain ⟨i, rfl⟩ : ∃ i : Nat, p = i := ⟨p.toNat, by omega⟩
  have h_i : i < 4 := by omega
  obtain ⟨j, rfl⟩ : ∃ j : Nat, k = j := ⟨k.toNat, by omega⟩
  have h_j : j < 4 := by omega
  obtain ⟨l, rfl⟩ : ∃ l : Nat, t = l := ⟨t.toNat, by omega⟩
  have h_l : l < 4 := by omega
  have rt2 := r2
  obtain ⟨n, nb, n51, n89, nB, nE, nW, nN⟩ := I.mm h_i
  have r3 := k_2r h_i
  have r4 := k_3r h_j
  have r5 := k_3r h_l
  have ve : ∀ k, k < 5 → rV S j k = S (4 + j) k := fun k hk => (I.2.2.1 j h_j k hk).1
  have hNu := s_hasNumbers (k_vc (S := S) h_j) (n := n) nb.2 (I.vb h_j).up
  have cs := fun (T : Nat → Nat → Int) (e89 : T 89 = S 89) (e90 : T 90 = S 90) (e94 : T 94 = S 94) => rf_canSolve (S := T) (n := n) h_i h_j nb (by rw [e89]; exact n89) (by rw [rM_u e90]; exact I.mb h_i) (by rw [rV_u e94]; exact I.vb' h_j)
  by_cases Q : ∀ k, k < n → S (4 + j) k ≠ INF
  rotate_left
  · rw [(z_dec_f _).mpr Q] at hNu
    refine ⟨_, S, (?_ : _ = some (.inr kIS, k_W S)), fun g => ?_⟩
    · unfold m_X5_solve
      rw [k_v0]
      apply q_body
      have b6 : INF = 1000000 := rfl
      simp only [b_X5_solve, c0, c1, c2, k_o0, k_a2, k_a3, r3, r4, k_mo h_i, n51, hNu, kIS, z_vB1, z_vB0, if_true, if_false, not_true_eq_false, not_false_eq_true, k_t_n, k_t_1, exists_eq, qS_nop, qS_seq, qS_set, qS_setJ, qS_if, qS_brk, qS_ret, qS_retV, qS_throw, qS_inc, qS_cl, qS_ast, qS_aop, qS_fst, qS_fop, qS_sw, qT_eC, qT_eCB, qT_eL, qT_eLJ, qT_eLR, qT_eLB, qT_e1, qT_e2, qT_bCmp, qT_bCmpJ, qT_bAnd, qT_bOr, qT_bNot, qT_eBI, qT_eIf, qT_eLd, qT_eLdR, qT_eLen, qT_eF, qT_eFR, qT_aN, qT_aS, qT_eCl, qT_eClR, qT_eClB, qT_some, qT_x, z_nx_N, z_nx_B, z_nx_R, z_nx_X, z_bk_N, z_bk_B, z_bk_R, z_bk_X, oAdd, oSub, oMul, oNeg, cLt, cLe, cGt, cGe, cEq, cNe, Option.some.injEq, Sum.inl.injEq, Sum.inr.injEq, Prod.mk.injEq, exists_eq_left, exists_eq_left', exists_eq_right, exists_and_left, reduceCtorEq, and_true, true_and, and_false, false_and, List.getElem?_cons_zero, List.getElem?_cons_succ, List.set_cons_zero, List.set_cons_succ, List.replicate, List.length_cons, List.length_nil, List.cons_append, List.nil_append, Nat.reduceAdd, Nat.reduceSub, decide_eq_true_eq, decide_eq_false_iff_not, Bool.true_eq_false, Bool.false_eq_true, true_implies, false_implies, implies_true, Nat.reduceLT, exists_const, z_vB_inj, and_assoc, z_in_iff, oI2L, oL2I, Int.toNat_natCast, z_toNat0, Bool.not_eq_true', Bool.not_eq_false', ne_eq, Bool.not_true, Bool.not_false, Nat.add_zero, Int.add_zero, z_sl_s]
      omega
    · obtain ⟨G, w1, -⟩ := cs (k_u S 103 g) (k_u_n (by decide)) (k_u_n (by decide)) (k_u_n (by decide))
      have e94 : (k_u S 103 g) 94 = S 94 := k_u_n (by decide)
      rw [(z_dec_f _).mpr (fun w => Q (fun k hk => by have := w.1 k hk; rw [rV_u e94, ve k (by omega)] at this; exact this))] at w1
      refine ⟨vB false, k_t (k_u (k_u S 103 g) 95 G) 2, ?_, I.eq (fun a ha => ?_), ?_, Or.inr (Or.inr ⟨by decide, rfl, k_t_1⟩)⟩
      · unfold m_X6_solve
        rw [k_v85]
        apply q_body
        have b6 : INF = 1000000 := rfl
        simp only [b_X6_solve, r0, r1, rt2, w1, rf_can2, z_vB1, z_vB0, if_true, if_false, not_true_eq_false, not_false_eq_true, k_t_n, k_t_1, exists_eq, qS_nop, qS_seq, qS_set, qS_setJ, qS_if, qS_brk, qS_ret, qS_retV, qS_throw, qS_inc, qS_cl, qS_ast, qS_aop, qS_fst, qS_fop, qS_sw, qT_eC, qT_eCB, qT_eL, qT_eLJ, qT_eLR, qT_eLB, qT_e1, qT_e2, qT_bCmp, qT_bCmpJ, qT_bAnd, qT_bOr, qT_bNot, qT_eBI, qT_eIf, qT_eLd, qT_eLdR, qT_eLen, qT_eF, qT_eFR, qT_aN, qT_aS, qT_eCl, qT_eClR, qT_eClB, qT_some, qT_x, z_nx_N, z_nx_B, z_nx_R, z_nx_X, z_bk_N, z_bk_B, z_bk_R, z_bk_X, oAdd, oSub, oMul, oNeg, cLt, cLe, cGt, cGe, cEq, cNe, Option.some.injEq, Sum.inl.injEq, Sum.inr.injEq, Prod.mk.injEq, exists_eq_left, exists_eq_left', exists_eq_right, exists_and_left, reduceCtorEq, and_true, true_and, and_false, false_and, List.getElem?_cons_zero, List.getElem?_cons_succ, List.set_cons_zero, List.set_cons_succ, List.replicate, List.length_cons, List.length_nil, List.cons_append, List.nil_append, Nat.reduceAdd, Nat.reduceSub, decide_eq_true_eq, decide_eq_false_iff_not, Bool.true_eq_false, Bool.false_eq_true, true_implies, false_implies, implies_true, Nat.reduceLT, exists_const, z_vB_inj, and_assoc, z_in_iff, oI2L, oL2I, Int.toNat_natCast, z_toNat0, Bool.not_eq_true', Bool.not_eq_false', ne_eq, Bool.not_true, Bool.not_false, Nat.add_zero, Int.add_zero, z_sl_s]
      · rw [k_t_n (fun e => ha (by subst e; unfold kFree; omega)), k_u_n (fun e => ha (by subst e; unfold kFree; omega)), k_u_n (fun e => ha (by subst e; unfold kFree; omega))]
      · rw [k_t_n (by decide), k_u_n (by decide), k_u_s]
  rw [(z_dec_iff _).mpr Q] at hNu
  have ps := s_putSolution (k_mat (S := S) h_i n51) nb.2 nB (k_vc (S := S) h_j) (w := 44) (W := S 44) (k_get (by decide)) (by omega) (by unfold mRow; omega) (I.vb h_j).up
  have s44 : ∀ g, (k_W S).set 44 (.inr (0, 5, g)) = k_W (k_u S 44 g) := fun g => k_set rfl
  rw [s44] at ps
  obtain ⟨F, hF⟩ : ∃ F, F = fun k => if k < n then mGr (kF S (53 + 9 * i) 5) (S (4 + j)) k n else S 44 k := ⟨_, rfl⟩
  rw [← hF] at ps
  have Fe : ∀ k, k < n → F k = mGr (rM S i) (rV S j) k n := fun k hk => by
    rw [hF]
    simp only [hk, if_true]
    exact mGr_cg n (fun x hx => ⟨nE x k hx hk, (ve x (by omega)).symm⟩)
  have Fb : ∀ k, k < n → -1000000000 ≤ F k ∧ F k ≤ 1000000 := fun k hk => by
    rw [Fe k hk]
    exact mGr_b2 n (fun x hx => I.mb h_i x k (by omega) (by omega)) (fun x hx => by have b6 : INF = 1000000 := rfl; have w := I.2.2.1 j h_j x (by omega); have w2 := Q x hx; omega)
  obtain ⟨X, hX⟩ : ∃ X, X = k_u S 44 F := ⟨_, rfl⟩
  rw [← hX] at ps
  have Xo : ∀ a, a ≠ 44 → X a = S a := fun a h1 => by rw [hX, k_u_n h1]
  have X44 : X 44 = F := by rw [hX, k_u_s]
  have np := s_needParts2 (h := k_W X) (v := 44) (V := F) (by rw [← X44]; exact k_get (by decide)) (n := n) nb.2 (fun k hk => by have := Fb k hk; omega)
  by_cases L : ∀ k, k < n → ¬ (F k ≠ INF ∧ (F k < -99999 ∨ 99999 < F k))
  rotate_left
  · rw [(z_dec_f _).mpr L, if_neg Bool.false_ne_true] at np
    refine ⟨_, X, (?_ : _ = some (.inr kIS, k_W X)), fun g => ?_⟩
    · unfold m_X5_solve
      rw [k_v0]
      apply q_body
      have b6 : INF = 1000000 := rfl
      have y3 : (k_W X)[3]? = (k_W S)[3]? := rfl
      have y51 : X (51 + 9 * i) = S (51 + 9 * i) := Xo _ (by omega)
      simp only [b_X5_solve, c0, c1, c2, k_o0, k_a2, k_a3, r3, r4, k_mo h_i, y51, n51, hNu, ps, np, kIS, z_vB1, z_vB0, if_true, if_false, not_true_eq_false, not_false_eq_true, k_t_n, k_t_1, exists_eq, qS_nop, qS_seq, qS_set, qS_setJ, qS_if, qS_brk, qS_ret, qS_retV, qS_throw, qS_inc, qS_cl, qS_ast, qS_aop, qS_fst, qS_fop, qS_sw, qT_eC, qT_eCB, qT_eL, qT_eLJ, qT_eLR, qT_eLB, qT_e1, qT_e2, qT_bCmp, qT_bCmpJ, qT_bAnd, qT_bOr, qT_bNot, qT_eBI, qT_eIf, qT_eLd, qT_eLdR, qT_eLen, qT_eF, qT_eFR, qT_aN, qT_aS, qT_eCl, qT_eClR, qT_eClB, qT_some, qT_x, z_nx_N, z_nx_B, z_nx_R, z_nx_X, z_bk_N, z_bk_B, z_bk_R, z_bk_X, oAdd, oSub, oMul, oNeg, cLt, cLe, cGt, cGe, cEq, cNe, Option.some.injEq, Sum.inl.injEq, Sum.inr.injEq, Prod.mk.injEq, exists_eq_left, exists_eq_left', exists_eq_right, exists_and_left, reduceCtorEq, and_true, true_and, and_false, false_and, List.getElem?_cons_zero, List.getElem?_cons_succ, List.set_cons_zero, List.set_cons_succ, List.replicate, List.length_cons, List.length_nil, List.cons_append, List.nil_append, Nat.reduceAdd, Nat.reduceSub, decide_eq_true_eq, decide_eq_false_iff_not, Bool.true_eq_false, Bool.false_eq_true, true_implies, false_implies, implies_true, Nat.reduceLT, exists_const, z_vB_inj, and_assoc, z_in_iff, oI2L, oL2I, Int.toNat_natCast, z_toNat0, Bool.not_eq_true', Bool.not_eq_false', ne_eq, Bool.not_true, Bool.not_false, Nat.add_zero, Int.add_zero, z_sl_s]
      omega
    · have e90 : (k_u X 103 g) 90 = S 90 := by rw [k_u_n (by decide), Xo _ (by decide)]
      have e94 : (k_u X 103 g) 94 = S 94 := by rw [k_u_n (by decide), Xo _ (by decide)]
      obtain ⟨G, w1, -⟩ := cs (k_u X 103 g) (by rw [k_u_n (by decide), Xo _ (by decide)]) e90 e94
      rw [(z_dec_f _).mpr (fun w => L (fun k hk => by have := w.2 k hk; rw [rV_u e94, rM_u e90, ← Fe k hk] at this; exact this))] at w1
      refine ⟨vB false, k_t (k_u (k_u X 103 g) 95 G) 2, ?_, I.eq (fun a ha => ?_), ?_, Or.inr (Or.inr ⟨by decide, rfl, k_t_1⟩)⟩
      · unfold m_X6_solve
        rw [k_v85]
        apply q_body
        have b6 : INF = 1000000 := rfl
        simp only [b_X6_solve, r0, r1, rt2, w1, rf_can2, z_vB1, z_vB0, if_true, if_false, not_true_eq_false, not_false_eq_true, k_t_n, k_t_1, exists_eq, qS_nop, qS_seq, qS_set, qS_setJ, qS_if, qS_brk, qS_ret, qS_retV, qS_throw, qS_inc, qS_cl, qS_ast, qS_aop, qS_fst, qS_fop, qS_sw, qT_eC, qT_eCB, qT_eL, qT_eLJ, qT_eLR, qT_eLB, qT_e1, qT_e2, qT_bCmp, qT_bCmpJ, qT_bAnd, qT_bOr, qT_bNot, qT_eBI, qT_eIf, qT_eLd, qT_eLdR, qT_eLen, qT_eF, qT_eFR, qT_aN, qT_aS, qT_eCl, qT_eClR, qT_eClB, qT_some, qT_x, z_nx_N, z_nx_B, z_nx_R, z_nx_X, z_bk_N, z_bk_B, z_bk_R, z_bk_X, oAdd, oSub, oMul, oNeg, cLt, cLe, cGt, cGe, cEq, cNe, Option.some.injEq, Sum.inl.injEq, Sum.inr.injEq, Prod.mk.injEq, exists_eq_left, exists_eq_left', exists_eq_right, exists_and_left, reduceCtorEq, and_true, true_and, and_false, false_and, List.getElem?_cons_zero, List.getElem?_cons_succ, List.set_cons_zero, List.set_cons_succ, List.replicate, List.length_cons, List.length_nil, List.cons_append, List.nil_append, Nat.reduceAdd, Nat.reduceSub, decide_eq_true_eq, decide_eq_false_iff_not, Bool.true_eq_false, Bool.false_eq_true, true_implies, false_implies, implies_true, Nat.reduceLT, exists_const, z_vB_inj, and_assoc, z_in_iff, oI2L, oL2I, Int.toNat_natCast, z_toNat0, Bool.not_eq_true', Bool.not_eq_false', ne_eq, Bool.not_true, Bool.not_false, Nat.add_zero, Int.add_zero, z_sl_s]
      · rw [k_t_n (fun e => ha (by subst e; unfold kFree; omega)), k_u_n (fun e => ha (by subst e; unfold kFree; omega)), k_u_n (fun e => ha (by subst e; unfold kFree; omega)), Xo a (fun e => ha (by subst e; unfold kFree; omega))]
      · rw [k_t_n (by decide), k_u_n (by decide), k_u_s]
  rw [(z_dec_iff _).mpr L, if_pos rfl] at np
  have X4 : X (4 + j) = S (4 + j) := Xo _ (by omega)
  have Xn : X (51 + 9 * i) 0 = (n : Int) := by rw [Xo _ (by omega)]; exact n51
  have XF : kF X (53 + 9 * i) 5 = kF S (53 + 9 * i) 5 := kF_e (fun x hx => Xo _ (by omega))
  have lt := s_leadsTo2 (k_mat (S := X) h_i Xn) nb.2 (by rw [XF]; exact nB) (v := 44) (w := 4 + j) (V := F) (W := X (4 + j)) (by rw [← X44]; exact k_get (by decide)) (k_vc (S := X) h_j) Fb (by rw [X4]; exact (I.vb h_j).up)
  have cp := s_copy (h := k_W X) (a := 44) (b := 4 + l) (f := F) (g := X (4 + l)) (by rw [← X44]; exact k_get (by decide)) (k_vc (S := X) h_l) (by decide) (by decide) (sp := 0) (dp := 0) (n := (n : Int)) (by decide) (by decide) (by omega) (by omega) (by omega)
  rw [k_vs h_l] at cp
  obtain ⟨C, hC⟩ : ∃ C, C = z_cp F (X (4 + l)) (0 : Int).toNat (0 : Int).toNat ((n : Int)).toNat := ⟨_, rfl⟩
  rw [← hC] at cp
  have Ce : ∀ k, C k = if k < n then F k else S (4 + l) k := fun k => by
    rw [hC]
    unfold z_cp
    rw [Int.toNat_natCast, z_toNat0, Nat.zero_add, Xo _ (by omega)]
    simp
  obtain ⟨Y, hY⟩ : ∃ Y, Y = k_u X (4 + l) C := ⟨_, rfl⟩
  rw [← hY] at cp
  have Yo : ∀ a, a ≠ 44 → a ≠ 4 + l → Y a = S a := fun a h1 h2 => by rw [hY, k_u_n h2, Xo a h1]
  have y51 : X (51 + 9 * i) = S (51 + 9 * i) := Xo _ (by omega)
  have lq : (∀ x, x < n → mLd (kF X (53 + 9 * i) 5) F n x = X (4 + j) x) ↔ (∀ x, x < n → mLd (rM S i) F n x = rV S j x) := by
    rw [XF, X4]
    constructor
    · intro q x hx
      rw [ve x (by omega), ← q x hx]
      exact mLd_cg (fun y hy => ⟨(nE x y hx hy).symm, rfl⟩)
    · intro q x hx
      rw [← ve x (by omega), ← q x hx]
      exact mLd_cg (fun y hy => ⟨nE x y hx hy, rfl⟩)
  rw [z_dec_c _ _ lq] at lt
  refine ⟨_, Y, (?_ : _ = some (.inl (some (vB (z_dec (∀ x, x < n → mLd (rM S i) F n x = rV S j x)))), k_W Y)), fun g => ?_⟩
  · unfold m_X5_solve
    rw [k_v0]
    apply q_body
    have b6 : INF = 1000000 := rfl
    generalize z_dec (∀ x, x < n → mLd (rM S i) F n x = rV S j x) = bb at lt ⊢
    simp only [b_X5_solve, c0, c1, c2, k_o0, k_a2, k_a3, r3, r4, r5, k_mo h_i, y51, n51, hNu, ps, np, lt, cp, z_vB1, z_vB0, if_true, if_false, not_true_eq_false, not_false_eq_true, k_t_n, k_t_1, exists_eq, qS_nop, qS_seq, qS_set, qS_setJ, qS_if, qS_brk, qS_ret, qS_retV, qS_throw, qS_inc, qS_cl, qS_ast, qS_aop, qS_fst, qS_fop, qS_sw, qT_eC, qT_eCB, qT_eL, qT_eLJ, qT_eLR, qT_eLB, qT_e1, qT_e2, qT_bCmp, qT_bCmpJ, qT_bAnd, qT_bOr, qT_bNot, qT_eBI, qT_eIf, qT_eLd, qT_eLdR, qT_eLen, qT_eF, qT_eFR, qT_aN, qT_aS, qT_eCl, qT_eClR, qT_eClB, qT_some, qT_x, z_nx_N, z_nx_B, z_nx_R, z_nx_X, z_bk_N, z_bk_B, z_bk_R, z_bk_X, oAdd, oSub, oMul, oNeg, cLt, cLe, cGt, cGe, cEq, cNe, Option.some.injEq, Sum.inl.injEq, Sum.inr.injEq, Prod.mk.injEq, exists_eq_left, exists_eq_left', exists_eq_right, exists_and_left, reduceCtorEq, and_true, true_and, and_false, false_and, List.getElem?_cons_zero, List.getElem?_cons_succ, List.set_cons_zero, List.set_cons_succ, List.replicate, List.length_cons, List.length_nil, List.cons_append, List.nil_append, Nat.reduceAdd, Nat.reduceSub, decide_eq_true_eq, decide_eq_false_iff_not, Bool.true_eq_false, Bool.false_eq_true, true_implies, false_implies, implies_true, Nat.reduceLT, exists_const, z_vB_inj, and_assoc, z_in_iff, oI2L, oL2I, Int.toNat_natCast, z_toNat0, Bool.not_eq_true', Bool.not_eq_false', ne_eq, Bool.not_true, Bool.not_false, Nat.add_zero, Int.add_zero, z_sl_s]
    omega
  · have e89 : (k_u Y 103 g) 89 = S 89 := by rw [k_u_n (by decide), Yo _ (by decide) (by omega)]
    have e90 : (k_u Y 103 g) 90 = S 90 := by rw [k_u_n (by decide), Yo _ (by decide) (by omega)]
    have e94 : (k_u Y 103 g) 94 = S 94 := by rw [k_u_n (by decide), Yo _ (by decide) (by omega)]
    obtain ⟨G, w1, w2⟩ := cs (k_u Y 103 g) e89 e90 e94
    rw [rV_u e94, rM_u e90] at w1 w2
    have Qr : ∀ k, k < n → rV S j k ≠ INF := fun k hk => by rw [ve k (by omega)]; exact Q k hk
    have w3 := w2 Qr
    rw [(z_dec_iff _).mpr ⟨Qr, fun k hk => by rw [← Fe k hk]; exact L k hk⟩] at w1
    obtain ⟨V, hV⟩ : ∃ V, V = k_t (k_u (k_u Y 103 g) 95 G) 0 := ⟨_, rfl⟩
    have Vo : ∀ a, a ≠ 85 → a ≠ 95 → a ≠ 103 → V a = Y a := fun a h1 h2 h3 => by rw [hV, k_t_n h1, k_u_n h2, k_u_n h3]
    have V95 : ∀ k, k < n → V 95 k = F k := fun k hk => by rw [hV, k_t_n (by decide), k_u_s, w3 k hk, Fe k hk]
    have v89 : V 89 = S 89 := by rw [Vo _ (by decide) (by decide) (by decide), Yo _ (by decide) (by omega)]
    have v90 : V 90 = S 90 := by rw [Vo _ (by decide) (by decide) (by decide), Yo _ (by decide) (by omega)]
    have v94 : V 94 = S 94 := by rw [Vo _ (by decide) (by decide) (by decide), Yo _ (by decide) (by omega)]
    have sv := rf_solves (S := V) (n := n) h_i h_j nb (by rw [v89]; exact n89) (by rw [rM_u v90]; exact I.mb h_i) (by rw [rV_u v94]; exact I.vb' h_j) (fun k hk => by rw [V95 k hk]; exact Fb k hk)
    have sq : (∀ x, x < n → mLd (rM V i) (V 95) n x = rV V j x) ↔ (∀ x, x < n → mLd (rM S i) F n x = rV S j x) := by
      rw [rM_u v90, rV_u v94]
      constructor
      · intro q x hx
        rw [← q x hx]
        exact mLd_cg (fun y hy => ⟨rfl, (V95 y hy).symm⟩)
      · intro q x hx
        rw [← q x hx]
        exact mLd_cg (fun y hy => ⟨rfl, V95 y hy⟩)
    rw [z_dec_c _ _ sq] at sv
    have lf := rf_laysFound (S := V) (n := n) h_l nb.2
    refine ⟨vB (z_dec (∀ x, x < n → mLd (rM S i) F n x = rV S j x)), k_u V 94 (z_at (5 * l) n (V 95) (V 94)), ?_, I.vec h_l nb.2 (F := F) (fun k hk => by have := L k hk; omega) (fun a ha h1 => ?_) (fun k hk => ?_) V95, ?_, Or.inl ⟨rfl, ?_⟩⟩
    · unfold m_X6_solve
      rw [k_v85]
      apply q_body
      have b6 : INF = 1000000 := rfl
      generalize z_dec (∀ x, x < n → mLd (rM S i) F n x = rV S j x) = bb at sv ⊢
      simp only [b_X6_solve, r0, r1, rt2, w1, rf_can0, ← hV, v89, n89, sv, lf, z_vB1, z_vB0, if_true, if_false, not_true_eq_false, not_false_eq_true, k_t_n, k_t_1, exists_eq, k_v85, k_o85, k_r0, k_r1, k_r2, k_r3, k_r4, k_r5, k_r6, k_r7, k_r8, k_r9, k_r10, k_r11, k_r12, k_r13, k_r14, k_r15, k_r16, k_r17, k_r18, k_rl, k_sc, k_st, k_a86, k_s86, k_a87, k_s87, k_a88, k_s88, k_a89, k_s89, k_a90, k_s90, k_a91, k_s91, k_a92, k_s92, k_a93, k_s93, k_a94, k_s94, k_a95, k_s95, k_a96, k_s96, k_a97, k_s97, k_a98, k_s98, k_a99, k_s99, k_a100, k_s100, k_a101, k_s101, k_a102, k_s102, k_u_s, k_u_n, k_u_u, Nat.reduceEqDiff, not_false_eq_true, qS_nop, qS_seq, qS_set, qS_setJ, qS_if, qS_brk, qS_ret, qS_retV, qS_throw, qS_inc, qS_cl, qS_ast, qS_aop, qS_fst, qS_fop, qS_sw, qT_eC, qT_eCB, qT_eL, qT_eLJ, qT_eLR, qT_eLB, qT_e1, qT_e2, qT_bCmp, qT_bCmpJ, qT_bAnd, qT_bOr, qT_bNot, qT_eBI, qT_eIf, qT_eLd, qT_eLdR, qT_eLen, qT_eF, qT_eFR, qT_aN, qT_aS, qT_eCl, qT_eClR, qT_eClB, qT_some, qT_x, z_nx_N, z_nx_B, z_nx_R, z_nx_X, z_bk_N, z_bk_B, z_bk_R, z_bk_X, oAdd, oSub, oMul, oNeg, cLt, cLe, cGt, cGe, cEq, cNe, Option.some.injEq, Sum.inl.injEq, Sum.inr.injEq, Prod.mk.injEq, exists_eq_left, exists_eq_left', exists_eq_right, exists_and_left, reduceCtorEq, and_true, true_and, and_false, false_and, List.getElem?_cons_zero, List.getElem?_cons_succ, List.set_cons_zero, List.set_cons_succ, List.replicate, List.length_cons, List.length_nil, List.cons_append, List.nil_append, Nat.reduceAdd, Nat.reduceSub, decide_eq_true_eq, decide_eq_false_iff_not, Bool.true_eq_false, Bool.false_eq_true, true_implies, false_implies, implies_true, Nat.reduceLT, exists_const, z_vB_inj, and_assoc, z_in_iff, oI2L, oL2I, Int.toNat_natCast, z_toNat0, Bool.not_eq_true', Bool.not_eq_false', ne_eq, Bool.not_true, Bool.not_false, Nat.add_zero, Int.add_zero, z_sl_s]
      omega
    · rw [Vo a (fun e => ha (by subst e; unfold kFree; omega)) (fun e => ha (by subst e; unfold kFree; omega)) (fun e => ha (by subst e; unfold kFree; omega)), Yo a (fun e => ha (by subst e; unfold kFree; omega)) h1]
    · rw [Vo _ (by omega) (by omega) (by omega), hY, k_u_s, Ce k]
    · rw [k_u_n (by decide), hV, k_t_n (by decide), k_u_n (by decide), k_u_s]
    · rw [k_u_n (by decide), hV, k_t_1]
end FSo
