/-! THE FACE: connected, rank, restRank -/
section FRk
variable {X : z_Hp} {S : Nat → Nat → Int}
theorem kQ.ok (I : cInv S) (h : kQ S) : cOk (kF S 10 5) 0 := kConn.ok I.g h
theorem s_cn (I : cInv S) : m_X3_isConnected [vR 8] (k_W X S) = some (.inl (some (vB (z_dec (kQ S)))), k_W X (k_u S 16 (nG (kF S 10 5) (S 16) 0 4))) := by
  rw [s_connected (k_net (X := X) (S := S)) I.g.bd, k_s16]
  rfl
/-- connected has been asked -/
def kA1 (S : Nat → Nat → Int) : Nat → Nat → Int := k_u S 16 (nG (kF S 10 5) (S 16) 0 4)
theorem s_nCn1 (I : cInv S) (q : kQ S) : m_X5_needConnected [vR 0] (k_W X S) = some (.inl none, k_W X (kA1 S)) := by
  have e := s_cn (X := X) I
  rw [(z_dec_iff _).mpr q] at e
  unfold m_X5_needConnected kA1
  rw [k_v0]
  apply q_body
  have b6 : INF = 1000000 := rfl
  simp only [b_X5_needConnected, k_o0, e, z_vB1, z_vB0, if_true, if_false, not_true_eq_false, not_false_eq_true, exists_eq, qS_nop, qS_seq, qS_set, qS_setJ, qS_if, qS_brk, qS_ret, qS_retV, qS_throw, qS_inc, qS_cl, qS_ast, qS_aop, qS_fst, qS_fop, qS_sw, qT_eC, qT_eCB, qT_eL, qT_eLJ, qT_eLR, qT_eLS, qT_eSLen, qT_eSLd, qT_eLB, qT_e1, qT_e2, qT_bCmp, qT_bCmpJ, qT_bAnd, qT_bOr, qT_bNot, qT_eBI, qT_eIf, qT_eLd, qT_eLdR, qT_eLen, qT_eF, qT_eFR, qT_aN, qT_aS, qT_eCl, qT_eClR, qT_eClB, qT_some, qT_x, z_nx_N, z_nx_B, z_nx_R, z_nx_X, z_bk_N, z_bk_B, z_bk_R, z_bk_X, oAdd, oSub, oMul, oNeg, cLt, cLe, cGt, cGe, cEq, cNe, Option.some.injEq, Sum.inl.injEq, Sum.inr.injEq, Prod.mk.injEq, exists_eq_left, exists_eq_left', exists_eq_right, exists_and_left, reduceCtorEq, and_true, true_and, and_false, false_and, List.getElem?_cons_zero, List.getElem?_cons_succ, List.set_cons_zero, List.set_cons_succ, List.replicate, List.length_cons, List.length_nil, List.cons_append, List.nil_append, Nat.reduceAdd, Nat.reduceSub, decide_eq_true_eq, decide_eq_false_iff_not, Bool.true_eq_false, Bool.false_eq_true, true_implies, false_implies, implies_true, Nat.reduceLT, exists_const, z_vB_inj, and_assoc, z_in_iff, oI2L, oL2I, Int.toNat_natCast, z_toNat0, Bool.not_eq_true', Bool.not_eq_false', ne_eq, Bool.not_true, Bool.not_false, Nat.add_zero, Int.add_zero, z_sl_s]
theorem s_nCn0 (I : cInv S) (q : ¬ kQ S) : m_X5_needConnected [vR 0] (k_W X S) = some (.inr kIS, k_W X (kA1 S)) := by
  have e := s_cn (X := X) I
  rw [(z_dec_f _).mpr q] at e
  unfold m_X5_needConnected kA1
  rw [k_v0]
  apply q_body
  have b6 : INF = 1000000 := rfl
  simp only [b_X5_needConnected, k_o0, e, kIS, z_vB1, z_vB0, if_true, if_false, not_true_eq_false, not_false_eq_true, exists_eq, qS_nop, qS_seq, qS_set, qS_setJ, qS_if, qS_brk, qS_ret, qS_retV, qS_throw, qS_inc, qS_cl, qS_ast, qS_aop, qS_fst, qS_fop, qS_sw, qT_eC, qT_eCB, qT_eL, qT_eLJ, qT_eLR, qT_eLS, qT_eSLen, qT_eSLd, qT_eLB, qT_e1, qT_e2, qT_bCmp, qT_bCmpJ, qT_bAnd, qT_bOr, qT_bNot, qT_eBI, qT_eIf, qT_eLd, qT_eLdR, qT_eLen, qT_eF, qT_eFR, qT_aN, qT_aS, qT_eCl, qT_eClR, qT_eClB, qT_some, qT_x, z_nx_N, z_nx_B, z_nx_R, z_nx_X, z_bk_N, z_bk_B, z_bk_R, z_bk_X, oAdd, oSub, oMul, oNeg, cLt, cLe, cGt, cGe, cEq, cNe, Option.some.injEq, Sum.inl.injEq, Sum.inr.injEq, Prod.mk.injEq, exists_eq_left, exists_eq_left', exists_eq_right, exists_and_left, reduceCtorEq, and_true, true_and, and_false, false_and, List.getElem?_cons_zero, List.getElem?_cons_succ, List.set_cons_zero, List.set_cons_succ, List.replicate, List.length_cons, List.length_nil, List.cons_append, List.nil_append, Nat.reduceAdd, Nat.reduceSub, decide_eq_true_eq, decide_eq_false_iff_not, Bool.true_eq_false, Bool.false_eq_true, true_implies, false_implies, implies_true, Nat.reduceLT, exists_const, z_vB_inj, and_assoc, z_in_iff, oI2L, oL2I, Int.toNat_natCast, z_toNat0, Bool.not_eq_true', Bool.not_eq_false', ne_eq, Bool.not_true, Bool.not_false, Nat.add_zero, Int.add_zero, z_sl_s]
theorem kA1_fr : cFr (fun _ => False) S (kA1 S) := cFr.u (Or.inl (by unfold cFree; omega)) _
/-- the chips that are asked for: those there, or the rest of the canonical ones -/
def kPv (S : Nat → Nat → Int) (b : Bool) (v : Nat) : Int := if b = true then nAll (kF S 10 5) v - 2 - S 15 v else S 15 v
theorem kPv_b (I : cInv S) (b : Bool) {v : Nat} (hv : v < 5) : -113 ≤ kPv S b v ∧ kPv S b v ≤ 113 := by
  have c := I.2.2.2.1.2 v hv
  have h := I.g
  have n : 0 ≤ nAll (kF S 10 5) v ∧ nAll (kF S 10 5) v ≤ 15 := by
    rw [nAll_5]
    unfold s5
    have h0 := h v 0 hv (by omega)
    have h1 := h v 1 hv (by omega)
    have h2 := h v 2 hv (by omega)
    have h3 := h v 3 hv (by omega)
    have h4 := h v 4 hv (by omega)
    dsimp only
    omega
  unfold kPv
  split <;> omega
theorem kPc (I : cInv S) (b : Bool) : ∃ P : Nat → Int, (∀ v, v < 5 → P v = kPv S b v) ∧ (if b = true then m_X3_copyRest [vR 8] (k_W X (kA1 S)) else m_X3_copyChips [vR 8] (k_W X (kA1 S))) = some (.inl none, k_W X (k_u (kA1 S) 18 P)) := by
  have eF : kF (kA1 S) 10 5 = kF S 10 5 := by
    unfold kA1
    rw [kF_u (by omega)]
  have e15 : kA1 S 15 = S 15 := k_u_n (by decide)
  cases b
  · refine ⟨fun k => if k < 5 then S 15 k else kF (kA1 S) 18 5 0 k, fun v hv => if_pos hv, ?_⟩
    have e := s_copyChips (k_net (X := X) (S := kA1 S))
    rw [k_s18, e15] at e
    exact e
  · refine ⟨fun k => if k < 5 then nAll (kF S 10 5) k - 2 - S 15 k else kF (kA1 S) 18 5 0 k, fun v hv => if_pos hv, ?_⟩
    have e := s_copyRest (k_net (X := X) (S := kA1 S)) (by rw [eF]; exact I.g.bd) (fun v hv => by rw [e15]; have := I.2.2.2.1.2 v hv; omega)
    rw [k_s18, e15, eF] at e
    exact e
/-- what a rank comes to -/
def rkO (m : z_Mt) (X : z_Hp) (S : Nat → Nat → Int) (b : Bool) : Prop := ∃ S' P, cFr (fun _ => False) S S' ∧ (∀ v, v < 5 → P v = kPv S b v) ∧
    ((¬ kQ S ∧ m [vR 0] (k_W X S) = some (.inr kIS, k_W X S')) ∨ (kQ S ∧ 8 < nDg (kF S 10 5) P 5 ∧ m [vR 0] (k_W X S) = some (.inr kIS, k_W X S')) ∨
     (kQ S ∧ nDg (kF S 10 5) P 5 ≤ 8 ∧ ∃ r, m [vR 0] (k_W X S) = some (.inl (some (vI r)), k_W X S') ∧ rkOf (kF S 10 5) P r))
theorem kRank (I : cInv S) (b : Bool) {m : z_Mt}
    (h0 : ¬ kQ S → m [vR 0] (k_W X S) = some (.inr kIS, k_W X (kA1 S)))
    (h1 : ∀ P, kQ S → (if b = true then m_X3_copyRest [vR 8] (k_W X (kA1 S)) else m_X3_copyChips [vR 8] (k_W X (kA1 S))) = some (.inl none, k_W X (k_u (kA1 S) 18 P)) → m_X5_needRanked [vR 0] (k_W X (k_u (kA1 S) 18 P)) = some (.inr kIS, k_W X (k_u (kA1 S) 18 P)) → m [vR 0] (k_W X S) = some (.inr kIS, k_W X (k_u (kA1 S) 18 P)))
    (h2 : ∀ P r S1, kQ S → (if b = true then m_X3_copyRest [vR 8] (k_W X (kA1 S)) else m_X3_copyChips [vR 8] (k_W X (kA1 S))) = some (.inl none, k_W X (k_u (kA1 S) 18 P)) → m_X5_needRanked [vR 0] (k_W X (k_u (kA1 S) 18 P)) = some (.inl none, k_W X (k_u (kA1 S) 18 P)) → m_X3_rankOfStart [vR 8] (k_W X (k_u (kA1 S) 18 P)) = some (.inl (some (vI r)), k_W X S1) → m [vR 0] (k_W X S) = some (.inl (some (vI r)), k_W X S1)) : rkO m X S b := by
  obtain ⟨P, hP, e1⟩ := kPc (X := X) I b
  have eF : kF (k_u (kA1 S) 18 P) 10 5 = kF S 10 5 := by
    unfold kA1
    rw [kF_u (by omega), kF_u (by omega)]
  have e18 : k_u (kA1 S) 18 P 18 = P := k_u_s _ _ _
  have fr : cFr (fun _ => False) S (k_u (kA1 S) 18 P) := kA1_fr.trans (cFr.u (Or.inl (by unfold cFree; omega)) _)
  by_cases q : kQ S
  · have nr := s_nRk (X := X) (S := k_u (kA1 S) 18 P) (by rw [eF]; exact I.g.bd) (by rw [e18]; exact fun v hv => by rw [hP v hv]; have := kPv_b I b hv; omega)
    rw [eF, e18] at nr
    by_cases d : nDg (kF S 10 5) P 5 ≤ 8
    · rw [if_pos d] at nr
      obtain ⟨r, S1, k1, k2, k3⟩ := sl_rank (X := X) (S := k_u (kA1 S) 18 P) (by rw [eF]; exact kQ.ok I q) (by rw [e18]; exact fun v hv => by rw [hP v hv]; exact kPv_b I b hv) (by rw [eF, e18]; exact d)
      rw [eF, e18] at k3
      exact ⟨S1, P, fun a ha hn => by rw [k2 a (fun e => ha (by subst e; unfold cFree; omega)) (by unfold cFree at ha; omega)]; exact fr a ha hn, hP, Or.inr (Or.inr ⟨q, d, r, h2 P r S1 q e1 nr k1, k3⟩)⟩
    · rw [if_neg d] at nr
      exact ⟨_, P, fr, hP, Or.inr (Or.inl ⟨q, by omega, h1 P q e1 nr⟩)⟩
  · exact ⟨_, P, kA1_fr, hP, Or.inl ⟨q, h0 q⟩⟩
theorem f_rank (I : cInv S) : rkO m_X5_rank X S false := by
  refine kRank I false (fun q => ?_) (fun P q e1 nr => ?_) (fun P r S1 q e1 nr k1 => ?_)
  · have nc := s_nCn0 (X := X) I q
    unfold m_X5_rank
    rw [k_v0]
    apply q_body
    have b6 : INF = 1000000 := rfl
    simp only [b_X5_rank, nc, kIS, z_vB1, z_vB0, if_true, if_false, not_true_eq_false, not_false_eq_true, exists_eq, qS_nop, qS_seq, qS_set, qS_setJ, qS_if, qS_brk, qS_ret, qS_retV, qS_throw, qS_inc, qS_cl, qS_ast, qS_aop, qS_fst, qS_fop, qS_sw, qT_eC, qT_eCB, qT_eL, qT_eLJ, qT_eLR, qT_eLS, qT_eSLen, qT_eSLd, qT_eLB, qT_e1, qT_e2, qT_bCmp, qT_bCmpJ, qT_bAnd, qT_bOr, qT_bNot, qT_eBI, qT_eIf, qT_eLd, qT_eLdR, qT_eLen, qT_eF, qT_eFR, qT_aN, qT_aS, qT_eCl, qT_eClR, qT_eClB, qT_some, qT_x, z_nx_N, z_nx_B, z_nx_R, z_nx_X, z_bk_N, z_bk_B, z_bk_R, z_bk_X, oAdd, oSub, oMul, oNeg, cLt, cLe, cGt, cGe, cEq, cNe, Option.some.injEq, Sum.inl.injEq, Sum.inr.injEq, Prod.mk.injEq, exists_eq_left, exists_eq_left', exists_eq_right, exists_and_left, reduceCtorEq, and_true, true_and, and_false, false_and, List.getElem?_cons_zero, List.getElem?_cons_succ, List.set_cons_zero, List.set_cons_succ, List.replicate, List.length_cons, List.length_nil, List.cons_append, List.nil_append, Nat.reduceAdd, Nat.reduceSub, decide_eq_true_eq, decide_eq_false_iff_not, Bool.true_eq_false, Bool.false_eq_true, true_implies, false_implies, implies_true, Nat.reduceLT, exists_const, z_vB_inj, and_assoc, z_in_iff, oI2L, oL2I, Int.toNat_natCast, z_toNat0, Bool.not_eq_true', Bool.not_eq_false', ne_eq, Bool.not_true, Bool.not_false, Nat.add_zero, Int.add_zero, z_sl_s]
  · have nc := s_nCn1 (X := X) I q
    rw [if_neg (by decide)] at e1
    unfold m_X5_rank
    rw [k_v0]
    apply q_body
    have b6 : INF = 1000000 := rfl
    simp only [b_X5_rank, nc, k_o0, e1, nr, kIS, z_vB1, z_vB0, if_true, if_false, not_true_eq_false, not_false_eq_true, exists_eq, qS_nop, qS_seq, qS_set, qS_setJ, qS_if, qS_brk, qS_ret, qS_retV, qS_throw, qS_inc, qS_cl, qS_ast, qS_aop, qS_fst, qS_fop, qS_sw, qT_eC, qT_eCB, qT_eL, qT_eLJ, qT_eLR, qT_eLS, qT_eSLen, qT_eSLd, qT_eLB, qT_e1, qT_e2, qT_bCmp, qT_bCmpJ, qT_bAnd, qT_bOr, qT_bNot, qT_eBI, qT_eIf, qT_eLd, qT_eLdR, qT_eLen, qT_eF, qT_eFR, qT_aN, qT_aS, qT_eCl, qT_eClR, qT_eClB, qT_some, qT_x, z_nx_N, z_nx_B, z_nx_R, z_nx_X, z_bk_N, z_bk_B, z_bk_R, z_bk_X, oAdd, oSub, oMul, oNeg, cLt, cLe, cGt, cGe, cEq, cNe, Option.some.injEq, Sum.inl.injEq, Sum.inr.injEq, Prod.mk.injEq, exists_eq_left, exists_eq_left', exists_eq_right, exists_and_left, reduceCtorEq, and_true, true_and, and_false, false_and, List.getElem?_cons_zero, List.getElem?_cons_succ, List.set_cons_zero, List.set_cons_succ, List.replicate, List.length_cons, List.length_nil, List.cons_append, List.nil_append, Nat.reduceAdd, Nat.reduceSub, decide_eq_true_eq, decide_eq_false_iff_not, Bool.true_eq_false, Bool.false_eq_true, true_implies, false_implies, implies_true, Nat.reduceLT, exists_const, z_vB_inj, and_assoc, z_in_iff, oI2L, oL2I, Int.toNat_natCast, z_toNat0, Bool.not_eq_true', Bool.not_eq_false', ne_eq, Bool.not_true, Bool.not_false, Nat.add_zero, Int.add_zero, z_sl_s]
  · have nc := s_nCn1 (X := X) I q
    rw [if_neg (by decide)] at e1
    unfold m_X5_rank
    rw [k_v0]
    apply q_body
    have b6 : INF = 1000000 := rfl
    simp only [b_X5_rank, nc, k_o0, e1, nr, k1, z_vB1, z_vB0, if_true, if_false, not_true_eq_false, not_false_eq_true, exists_eq, qS_nop, qS_seq, qS_set, qS_setJ, qS_if, qS_brk, qS_ret, qS_retV, qS_throw, qS_inc, qS_cl, qS_ast, qS_aop, qS_fst, qS_fop, qS_sw, qT_eC, qT_eCB, qT_eL, qT_eLJ, qT_eLR, qT_eLS, qT_eSLen, qT_eSLd, qT_eLB, qT_e1, qT_e2, qT_bCmp, qT_bCmpJ, qT_bAnd, qT_bOr, qT_bNot, qT_eBI, qT_eIf, qT_eLd, qT_eLdR, qT_eLen, qT_eF, qT_eFR, qT_aN, qT_aS, qT_eCl, qT_eClR, qT_eClB, qT_some, qT_x, z_nx_N, z_nx_B, z_nx_R, z_nx_X, z_bk_N, z_bk_B, z_bk_R, z_bk_X, oAdd, oSub, oMul, oNeg, cLt, cLe, cGt, cGe, cEq, cNe, Option.some.injEq, Sum.inl.injEq, Sum.inr.injEq, Prod.mk.injEq, exists_eq_left, exists_eq_left', exists_eq_right, exists_and_left, reduceCtorEq, and_true, true_and, and_false, false_and, List.getElem?_cons_zero, List.getElem?_cons_succ, List.set_cons_zero, List.set_cons_succ, List.replicate, List.length_cons, List.length_nil, List.cons_append, List.nil_append, Nat.reduceAdd, Nat.reduceSub, decide_eq_true_eq, decide_eq_false_iff_not, Bool.true_eq_false, Bool.false_eq_true, true_implies, false_implies, implies_true, Nat.reduceLT, exists_const, z_vB_inj, and_assoc, z_in_iff, oI2L, oL2I, Int.toNat_natCast, z_toNat0, Bool.not_eq_true', Bool.not_eq_false', ne_eq, Bool.not_true, Bool.not_false, Nat.add_zero, Int.add_zero, z_sl_s]
theorem f_restRank (I : cInv S) : rkO m_X5_restRank X S true := by
  refine kRank I true (fun q => ?_) (fun P q e1 nr => ?_) (fun P r S1 q e1 nr k1 => ?_)
  · have nc := s_nCn0 (X := X) I q
    unfold m_X5_restRank
    rw [k_v0]
    apply q_body
    have b6 : INF = 1000000 := rfl
    simp only [b_X5_restRank, nc, kIS, z_vB1, z_vB0, if_true, if_false, not_true_eq_false, not_false_eq_true, exists_eq, qS_nop, qS_seq, qS_set, qS_setJ, qS_if, qS_brk, qS_ret, qS_retV, qS_throw, qS_inc, qS_cl, qS_ast, qS_aop, qS_fst, qS_fop, qS_sw, qT_eC, qT_eCB, qT_eL, qT_eLJ, qT_eLR, qT_eLS, qT_eSLen, qT_eSLd, qT_eLB, qT_e1, qT_e2, qT_bCmp, qT_bCmpJ, qT_bAnd, qT_bOr, qT_bNot, qT_eBI, qT_eIf, qT_eLd, qT_eLdR, qT_eLen, qT_eF, qT_eFR, qT_aN, qT_aS, qT_eCl, qT_eClR, qT_eClB, qT_some, qT_x, z_nx_N, z_nx_B, z_nx_R, z_nx_X, z_bk_N, z_bk_B, z_bk_R, z_bk_X, oAdd, oSub, oMul, oNeg, cLt, cLe, cGt, cGe, cEq, cNe, Option.some.injEq, Sum.inl.injEq, Sum.inr.injEq, Prod.mk.injEq, exists_eq_left, exists_eq_left', exists_eq_right, exists_and_left, reduceCtorEq, and_true, true_and, and_false, false_and, List.getElem?_cons_zero, List.getElem?_cons_succ, List.set_cons_zero, List.set_cons_succ, List.replicate, List.length_cons, List.length_nil, List.cons_append, List.nil_append, Nat.reduceAdd, Nat.reduceSub, decide_eq_true_eq, decide_eq_false_iff_not, Bool.true_eq_false, Bool.false_eq_true, true_implies, false_implies, implies_true, Nat.reduceLT, exists_const, z_vB_inj, and_assoc, z_in_iff, oI2L, oL2I, Int.toNat_natCast, z_toNat0, Bool.not_eq_true', Bool.not_eq_false', ne_eq, Bool.not_true, Bool.not_false, Nat.add_zero, Int.add_zero, z_sl_s]
  · have nc := s_nCn1 (X := X) I q
    rw [if_pos rfl] at e1
    unfold m_X5_restRank
    rw [k_v0]
    apply q_body
    have b6 : INF = 1000000 := rfl
    simp only [b_X5_restRank, nc, k_o0, e1, nr, kIS, z_vB1, z_vB0, if_true, if_false, not_true_eq_false, not_false_eq_true, exists_eq, qS_nop, qS_seq, qS_set, qS_setJ, qS_if, qS_brk, qS_ret, qS_retV, qS_throw, qS_inc, qS_cl, qS_ast, qS_aop, qS_fst, qS_fop, qS_sw, qT_eC, qT_eCB, qT_eL, qT_eLJ, qT_eLR, qT_eLS, qT_eSLen, qT_eSLd, qT_eLB, qT_e1, qT_e2, qT_bCmp, qT_bCmpJ, qT_bAnd, qT_bOr, qT_bNot, qT_eBI, qT_eIf, qT_eLd, qT_eLdR, qT_eLen, qT_eF, qT_eFR, qT_aN, qT_aS, qT_eCl, qT_eClR, qT_eClB, qT_some, qT_x, z_nx_N, z_nx_B, z_nx_R, z_nx_X, z_bk_N, z_bk_B, z_bk_R, z_bk_X, oAdd, oSub, oMul, oNeg, cLt, cLe, cGt, cGe, cEq, cNe, Option.some.injEq, Sum.inl.injEq, Sum.inr.injEq, Prod.mk.injEq, exists_eq_left, exists_eq_left', exists_eq_right, exists_and_left, reduceCtorEq, and_true, true_and, and_false, false_and, List.getElem?_cons_zero, List.getElem?_cons_succ, List.set_cons_zero, List.set_cons_succ, List.replicate, List.length_cons, List.length_nil, List.cons_append, List.nil_append, Nat.reduceAdd, Nat.reduceSub, decide_eq_true_eq, decide_eq_false_iff_not, Bool.true_eq_false, Bool.false_eq_true, true_implies, false_implies, implies_true, Nat.reduceLT, exists_const, z_vB_inj, and_assoc, z_in_iff, oI2L, oL2I, Int.toNat_natCast, z_toNat0, Bool.not_eq_true', Bool.not_eq_false', ne_eq, Bool.not_true, Bool.not_false, Nat.add_zero, Int.add_zero, z_sl_s]
  · have nc := s_nCn1 (X := X) I q
    rw [if_pos rfl] at e1
    unfold m_X5_restRank
    rw [k_v0]
    apply q_body
    have b6 : INF = 1000000 := rfl
    simp only [b_X5_restRank, nc, k_o0, e1, nr, k1, z_vB1, z_vB0, if_true, if_false, not_true_eq_false, not_false_eq_true, exists_eq, qS_nop, qS_seq, qS_set, qS_setJ, qS_if, qS_brk, qS_ret, qS_retV, qS_throw, qS_inc, qS_cl, qS_ast, qS_aop, qS_fst, qS_fop, qS_sw, qT_eC, qT_eCB, qT_eL, qT_eLJ, qT_eLR, qT_eLS, qT_eSLen, qT_eSLd, qT_eLB, qT_e1, qT_e2, qT_bCmp, qT_bCmpJ, qT_bAnd, qT_bOr, qT_bNot, qT_eBI, qT_eIf, qT_eLd, qT_eLdR, qT_eLen, qT_eF, qT_eFR, qT_aN, qT_aS, qT_eCl, qT_eClR, qT_eClB, qT_some, qT_x, z_nx_N, z_nx_B, z_nx_R, z_nx_X, z_bk_N, z_bk_B, z_bk_R, z_bk_X, oAdd, oSub, oMul, oNeg, cLt, cLe, cGt, cGe, cEq, cNe, Option.some.injEq, Sum.inl.injEq, Sum.inr.injEq, Prod.mk.injEq, exists_eq_left, exists_eq_left', exists_eq_right, exists_and_left, reduceCtorEq, and_true, true_and, and_false, false_and, List.getElem?_cons_zero, List.getElem?_cons_succ, List.set_cons_zero, List.set_cons_succ, List.replicate, List.length_cons, List.length_nil, List.cons_append, List.nil_append, Nat.reduceAdd, Nat.reduceSub, decide_eq_true_eq, decide_eq_false_iff_not, Bool.true_eq_false, Bool.false_eq_true, true_implies, false_implies, implies_true, Nat.reduceLT, exists_const, z_vB_inj, and_assoc, z_in_iff, oI2L, oL2I, Int.toNat_natCast, z_toNat0, Bool.not_eq_true', Bool.not_eq_false', ne_eq, Bool.not_true, Bool.not_false, Nat.add_zero, Int.add_zero, z_sl_s]
end FRk
