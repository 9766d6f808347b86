/-! THE FACE: roots, root -/
section FQ
variable {S : Nat → Nat → Int}
/-- the corners found among the first k places -/
noncomputable def rCn (f G : Nat → Int) : Nat → Nat → Int
  | 0 => G
  | k + 1 => if z_dec (pCor f k) = true then z_up (rCn f G k) (pCors f k).toNat (k : Int) else rCn f G k
theorem z_up_up (f : Nat → Int) (i : Nat) (x y : Int) : z_up (z_up f i x) i y = z_up f i y := by
  funext j
  unfold z_up
  split <;> rfl
theorem z_up_s (f : Nat → Int) (i : Nat) (x : Int) : z_up f i x i = x := by simp [z_up]
theorem pCors_s (f : Nat → Int) (k : Nat) : pCors f (k + 1) = pCors f k + (if z_dec (pCor f k) = true then 1 else 0) := rfl
theorem pCors_b (f : Nat → Int) (k : Nat) : 0 ≤ pCors f k ∧ pCors f k ≤ k := z_cnt_b _ _
noncomputable def rCw (S : Nat → Nat → Int) (f : Nat → Int) (k : Nat) : Nat → Nat → Int := k_u (k_u S 87 (rCn f (S 87) k)) 85 (z_up (S 85) 0 (pCors f k))
theorem rf_findsCorners {p : Nat} (hp : p < 4) (hf : pOk (rP S p)) : m_X6_findsCorners [vR 85, vI (p : Int)] (k_W S) = some (.inl none, k_W (rCw S (rP S p) 9)) := by
  unfold m_X6_findsCorners
  rw [k_v85]
  apply q_body
  have b6 : INF = 1000000 := rfl
  simp only [b_X6_findsCorners, k_v85, k_o85, k_r0, k_r1, k_r2, k_r3, k_r4, k_r5, k_r6, k_r7, k_r8, k_r9, k_r10, k_r11, k_r12, k_r13, k_r14, k_r15, k_r16, k_r17, k_r18, k_rl, k_sc, k_st, k_a86, k_s86, k_a87, k_s87, k_a88, k_s88, k_a89, k_s89, k_a90, k_s90, k_a91, k_s91, k_a92, k_s92, k_a93, k_s93, k_a94, k_s94, k_a95, k_s95, k_a96, k_s96, k_a97, k_s97, k_a98, k_s98, k_a99, k_s99, k_a100, k_s100, k_a101, k_s101, k_a102, k_s102, k_u_s, k_u_n, k_u_u, Nat.reduceEqDiff, not_false_eq_true, qS_nop, qS_seq, qS_set, qS_setJ, qS_if, qS_brk, qS_ret, qS_retV, qS_throw, qS_inc, qS_cl, qS_ast, qS_aop, qS_fst, qS_fop, qS_sw, qT_eC, qT_eCB, qT_eL, qT_eLJ, qT_eLR, qT_eLB, qT_e1, qT_e2, qT_bCmp, qT_bCmpJ, qT_bAnd, qT_bOr, qT_bNot, qT_eBI, qT_eIf, qT_eLd, qT_eLdR, qT_eLen, qT_eF, qT_eFR, qT_aN, qT_aS, qT_eCl, qT_eClR, qT_eClB, qT_some, qT_x, z_nx_N, z_nx_B, z_nx_R, z_nx_X, z_bk_N, z_bk_B, z_bk_R, z_bk_X, oAdd, oSub, oMul, oNeg, cLt, cLe, cGt, cGe, cEq, cNe, Option.some.injEq, Sum.inl.injEq, Sum.inr.injEq, Prod.mk.injEq, exists_eq_left, exists_eq_left', exists_eq_right, exists_and_left, reduceCtorEq, and_true, true_and, and_false, false_and, List.getElem?_cons_zero, List.getElem?_cons_succ, List.set_cons_zero, List.set_cons_succ, List.replicate, List.length_cons, List.length_nil, List.cons_append, List.nil_append, Nat.reduceAdd, Nat.reduceSub, decide_eq_true_eq, decide_eq_false_iff_not, Bool.true_eq_false, Bool.false_eq_true, true_implies, false_implies, implies_true, Nat.reduceLT, exists_const, z_vB_inj, and_assoc, z_in_iff, oI2L, oL2I, Int.toNat_natCast, z_toNat0, Bool.not_eq_true', Bool.not_eq_false', ne_eq, Bool.not_true, Bool.not_false, Nat.add_zero, Int.add_zero, z_sl_s]
  repeat (refine And.intro (by omega) ?_)
  refine qS_for (fun k => [vR 85, vI (p : Int), vI (k : Int)]) (fun k => k_W (rCw S (rP S p) k)) (fun _ => True) 9 rfl ?_ trivial (by decide) ?_ ?_
  · unfold rCw
    rw [show rCn (rP S p) (S 87) 0 = S 87 from rfl, k_u_id]
    rfl
  · intro k hk _
    have eP : rP (rCw S (rP S p) k) p = rP S p := by unfold rCw; rw [rP_u (by decide), rP_u (by decide)]
    have e1 := rf_isTerm (S := rCw S (rP S p) k) hp hk (by rw [eP]; exact hf)
    have e2 := rf_isOver (S := rCw S (rP S p) k) hp hk (by rw [eP]; exact hf)
    rw [eP] at e1 e2
    have w85 : rCw S (rP S p) k 85 = z_up (S 85) 0 (pCors (rP S p) k) := k_u_s _ _ _
    have w87 : rCw S (rP S p) k 87 = rCn (rP S p) (S 87) k := by unfold rCw; rw [k_u_n (by decide), k_u_s]
    have c := pCors_b (rP S p) k
    have sx : ∀ g v, k_u (k_u (rCw S (rP S p) k) 87 g) 85 (z_up (z_up (S 85) 0 (pCors (rP S p) k)) 0 v) = k_u (k_u S 87 g) 85 (z_up (S 85) 0 v) := fun g v => by
      unfold rCw
      rw [k_u_4 (by decide), z_up_up]
    have s1 : pCor (rP S p) k → rCw S (rP S p) (k + 1) = k_u (k_u S 87 (z_up (rCn (rP S p) (S 87) k) (pCors (rP S p) k).toNat (k : Int))) 85 (z_up (S 85) 0 (pCors (rP S p) k + 1)) := fun q => by
      unfold rCw
      rw [pCors_s, if_pos ((z_dec_iff _).mpr q)]
      conv => lhs; unfold rCn
      rw [if_pos ((z_dec_iff _).mpr q)]
    have s2 : ¬ pCor (rP S p) k → rCw S (rP S p) (k + 1) = rCw S (rP S p) k := fun q => by
      unfold rCw
      rw [pCors_s, if_neg (by rw [(z_dec_f _).mpr q]; decide)]
      conv => lhs; unfold rCn
      rw [if_neg (by rw [(z_dec_f _).mpr q]; decide), Int.add_zero]
    simp only [e1, e2, w85, w87, z_up_s, sx, k_v85, k_o85, k_r0, k_r1, k_r2, k_r3, k_r4, k_r5, k_r6, k_r7, k_r8, k_r9, k_r10, k_r11, k_r12, k_r13, k_r14, k_r15, k_r16, k_r17, k_r18, k_rl, k_sc, k_st, k_a86, k_s86, k_a87, k_s87, k_a88, k_s88, k_a89, k_s89, k_a90, k_s90, k_a91, k_s91, k_a92, k_s92, k_a93, k_s93, k_a94, k_s94, k_a95, k_s95, k_a96, k_s96, k_a97, k_s97, k_a98, k_s98, k_a99, k_s99, k_a100, k_s100, k_a101, k_s101, k_a102, k_s102, k_u_s, k_u_n, k_u_u, Nat.reduceEqDiff, not_false_eq_true, qS_nop, qS_seq, qS_set, qS_setJ, qS_if, qS_brk, qS_ret, qS_retV, qS_throw, qS_inc, qS_cl, qS_ast, qS_aop, qS_fst, qS_fop, qS_sw, qT_eC, qT_eCB, qT_eL, qT_eLJ, qT_eLR, qT_eLB, qT_e1, qT_e2, qT_bCmp, qT_bCmpJ, qT_bAnd, qT_bOr, qT_bNot, qT_eBI, qT_eIf, qT_eLd, qT_eLdR, qT_eLen, qT_eF, qT_eFR, qT_aN, qT_aS, qT_eCl, qT_eClR, qT_eClB, qT_some, qT_x, z_nx_N, z_nx_B, z_nx_R, z_nx_X, z_bk_N, z_bk_B, z_bk_R, z_bk_X, oAdd, oSub, oMul, oNeg, cLt, cLe, cGt, cGe, cEq, cNe, Option.some.injEq, Sum.inl.injEq, Sum.inr.injEq, Prod.mk.injEq, exists_eq_left, exists_eq_left', exists_eq_right, exists_and_left, reduceCtorEq, and_true, true_and, and_false, false_and, List.getElem?_cons_zero, List.getElem?_cons_succ, List.set_cons_zero, List.set_cons_succ, List.replicate, List.length_cons, List.length_nil, List.cons_append, List.nil_append, Nat.reduceAdd, Nat.reduceSub, decide_eq_true_eq, decide_eq_false_iff_not, Bool.true_eq_false, Bool.false_eq_true, true_implies, false_implies, implies_true, Nat.reduceLT, exists_const, z_vB_inj, and_assoc, z_in_iff, oI2L, oL2I, Int.toNat_natCast, z_toNat0, Bool.not_eq_true', Bool.not_eq_false', ne_eq, Bool.not_true, Bool.not_false, Nat.add_zero, Int.add_zero, z_sl_s]
    repeat (refine And.intro (by omega) ?_)
    refine ⟨fun q1 => ⟨fun q2 => ⟨by omega, by omega, rfl, ?_⟩, fun q2 => ⟨rfl, ?_⟩⟩, fun q1 => ⟨rfl, ?_⟩⟩
    · rw [s1 ⟨(z_dec_iff _).mp q1, fun w => (z_dec_f _).mp q2 w.2⟩]
    · rw [s2 (fun w => w.2 ⟨(z_dec_iff _).mp q1, (z_dec_iff _).mp q2⟩)]
    · rw [s2 (fun w => (z_dec_f _).mp q1 w.1)]
  · intro _
    simp only [qS_nop, qS_seq, qS_set, qS_setJ, qS_if, qS_brk, qS_ret, qS_retV, qS_throw, qS_inc, qS_cl, qS_ast, qS_aop, qS_fst, qS_fop, qS_sw, qT_eC, qT_eCB, qT_eL, qT_eLJ, qT_eLR, qT_eLB, qT_e1, qT_e2, qT_bCmp, qT_bCmpJ, qT_bAnd, qT_bOr, qT_bNot, qT_eBI, qT_eIf, qT_eLd, qT_eLdR, qT_eLen, qT_eF, qT_eFR, qT_aN, qT_aS, qT_eCl, qT_eClR, qT_eClB, qT_some, qT_x, z_nx_N, z_nx_B, z_nx_R, z_nx_X, z_bk_N, z_bk_B, z_bk_R, z_bk_X, oAdd, oSub, oMul, oNeg, cLt, cLe, cGt, cGe, cEq, cNe, Option.some.injEq, Sum.inl.injEq, Sum.inr.injEq, Prod.mk.injEq, exists_eq_left, exists_eq_left', exists_eq_right, exists_and_left, reduceCtorEq, and_true, true_and, and_false, false_and, List.getElem?_cons_zero, List.getElem?_cons_succ, List.set_cons_zero, List.set_cons_succ, List.replicate, List.length_cons, List.length_nil, List.cons_append, List.nil_append, Nat.reduceAdd, Nat.reduceSub, decide_eq_true_eq, decide_eq_false_iff_not, Bool.true_eq_false, Bool.false_eq_true, true_implies, false_implies, implies_true, Nat.reduceLT, exists_const, z_vB_inj, and_assoc, z_in_iff, oI2L, oL2I, Int.toNat_natCast, z_toNat0, Bool.not_eq_true', Bool.not_eq_false', ne_eq, Bool.not_true, Bool.not_false, Nat.add_zero, Int.add_zero, z_sl_s]
    omega
theorem rf_rootsOf {p : Nat} (hp : p < 4) (hf : pOk (rP S p)) : m_X6_rootsOf [vR 85, vI (p : Int)] (k_W S) = some (.inl (some (vI (if 0 < pCors (rP S p) 9 - 1 then pCors (rP S p) 9 - 1 else 0))), k_W (rCw S (rP S p) 9)) := by
  have e := rf_findsCorners hp hf
  have w85 : rCw S (rP S p) 9 85 = z_up (S 85) 0 (pCors (rP S p) 9) := k_u_s _ _ _
  have c := pCors_b (rP S p) 9
  unfold m_X6_rootsOf
  rw [k_v85]
  apply q_body
  have b6 : INF = 1000000 := rfl
  simp only [b_X6_rootsOf, e, w85, z_up_s, k_v85, k_o85, k_r0, k_r1, k_r2, k_r3, k_r4, k_r5, k_r6, k_r7, k_r8, k_r9, k_r10, k_r11, k_r12, k_r13, k_r14, k_r15, k_r16, k_r17, k_r18, k_rl, k_sc, k_st, k_a86, k_s86, k_a87, k_s87, k_a88, k_s88, k_a89, k_s89, k_a90, k_s90, k_a91, k_s91, k_a92, k_s92, k_a93, k_s93, k_a94, k_s94, k_a95, k_s95, k_a96, k_s96, k_a97, k_s97, k_a98, k_s98, k_a99, k_s99, k_a100, k_s100, k_a101, k_s101, k_a102, k_s102, k_u_s, k_u_n, k_u_u, Nat.reduceEqDiff, not_false_eq_true, qS_nop, qS_seq, qS_set, qS_setJ, qS_if, qS_brk, qS_ret, qS_retV, qS_throw, qS_inc, qS_cl, qS_ast, qS_aop, qS_fst, qS_fop, qS_sw, qT_eC, qT_eCB, qT_eL, qT_eLJ, qT_eLR, qT_eLB, qT_e1, qT_e2, qT_bCmp, qT_bCmpJ, qT_bAnd, qT_bOr, qT_bNot, qT_eBI, qT_eIf, qT_eLd, qT_eLdR, qT_eLen, qT_eF, qT_eFR, qT_aN, qT_aS, qT_eCl, qT_eClR, qT_eClB, qT_some, qT_x, z_nx_N, z_nx_B, z_nx_R, z_nx_X, z_bk_N, z_bk_B, z_bk_R, z_bk_X, oAdd, oSub, oMul, oNeg, cLt, cLe, cGt, cGe, cEq, cNe, Option.some.injEq, Sum.inl.injEq, Sum.inr.injEq, Prod.mk.injEq, exists_eq_left, exists_eq_left', exists_eq_right, exists_and_left, reduceCtorEq, and_true, true_and, and_false, false_and, List.getElem?_cons_zero, List.getElem?_cons_succ, List.set_cons_zero, List.set_cons_succ, List.replicate, List.length_cons, List.length_nil, List.cons_append, List.nil_append, Nat.reduceAdd, Nat.reduceSub, decide_eq_true_eq, decide_eq_false_iff_not, Bool.true_eq_false, Bool.false_eq_true, true_implies, false_implies, implies_true, Nat.reduceLT, exists_const, z_vB_inj, and_assoc, z_in_iff, oI2L, oL2I, Int.toNat_natCast, z_toNat0, Bool.not_eq_true', Bool.not_eq_false', ne_eq, Bool.not_true, Bool.not_false, Nat.add_zero, Int.add_zero, z_sl_s]
  (repeat' (first | apply And.intro | intro _)) <;> first | omega | rfl | grind
theorem op_roots (I : kInv S) {p : Int} (hp : kR p) : kOp m_X5_roots m_X6_roots kIO "" [vI p] S := by
  have b6 : INF = 1000000 := rfl
  by_cases q0 : 0 ≤ p ∧ p ≤ 3
  rotate_left
  · have c0 := s_nH0 hp q0
    have r0 := rf_one0 hp q0
    refine kOp.x1 (r := vI 0) (S1 := S) (S2 := fun g => k_t (k_u S 103 g) 1) ?_ (fun g => ?_) (fun g => I.t g 1) (fun g => k_t_103) (fun g => k_t_1)
    · unfold m_X5_roots
      rw [k_v0]
      apply q_body
      have b6 : INF = 1000000 := rfl
      simp only [b_X5_roots, c0, qS_nop, qS_seq, qS_set, qS_setJ, qS_if, qS_brk, qS_ret, qS_retV, qS_throw, qS_inc, qS_cl, qS_ast, qS_aop, qS_fst, qS_fop, qS_sw, qT_eC, qT_eCB, qT_eL, qT_eLJ, qT_eLR, qT_eLB, qT_e1, qT_e2, qT_bCmp, qT_bCmpJ, qT_bAnd, qT_bOr, qT_bNot, qT_eBI, qT_eIf, qT_eLd, qT_eLdR, qT_eLen, qT_eF, qT_eFR, qT_aN, qT_aS, qT_eCl, qT_eClR, qT_eClB, qT_some, qT_x, z_nx_N, z_nx_B, z_nx_R, z_nx_X, z_bk_N, z_bk_B, z_bk_R, z_bk_X, oAdd, oSub, oMul, oNeg, cLt, cLe, cGt, cGe, cEq, cNe, Option.some.injEq, Sum.inl.injEq, Sum.inr.injEq, Prod.mk.injEq, exists_eq_left, exists_eq_left', exists_eq_right, exists_and_left, reduceCtorEq, and_true, true_and, and_false, false_and, List.getElem?_cons_zero, List.getElem?_cons_succ, List.set_cons_zero, List.set_cons_succ, List.replicate, List.length_cons, List.length_nil, List.cons_append, List.nil_append, Nat.reduceAdd, Nat.reduceSub, decide_eq_true_eq, decide_eq_false_iff_not, Bool.true_eq_false, Bool.false_eq_true, true_implies, false_implies, implies_true, Nat.reduceLT, exists_const, z_vB_inj, and_assoc, z_in_iff, oI2L, oL2I, Int.toNat_natCast, z_toNat0, Bool.not_eq_true', Bool.not_eq_false', ne_eq, Bool.not_true, Bool.not_false, Nat.add_zero, Int.add_zero, z_sl_s]
    · unfold m_X6_roots
      rw [k_v85]
      apply q_body
      have b6 : INF = 1000000 := rfl
      simp only [b_X6_roots, r0, rf_can1, z_vB1, z_vB0, if_true, if_false, not_true_eq_false, not_false_eq_true, k_t_n, k_t_1, exists_eq, k_v85, k_o85, k_r0, k_r1, k_r2, k_r3, k_r4, k_r5, k_r6, k_r7, k_r8, k_r9, k_r10, k_r11, k_r12, k_r13, k_r14, k_r15, k_r16, k_r17, k_r18, k_rl, k_sc, k_st, k_a86, k_s86, k_a87, k_s87, k_a88, k_s88, k_a89, k_s89, k_a90, k_s90, k_a91, k_s91, k_a92, k_s92, k_a93, k_s93, k_a94, k_s94, k_a95, k_s95, k_a96, k_s96, k_a97, k_s97, k_a98, k_s98, k_a99, k_s99, k_a100, k_s100, k_a101, k_s101, k_a102, k_s102, k_u_s, k_u_n, k_u_u, Nat.reduceEqDiff, not_false_eq_true, qS_nop, qS_seq, qS_set, qS_setJ, qS_if, qS_brk, qS_ret, qS_retV, qS_throw, qS_inc, qS_cl, qS_ast, qS_aop, qS_fst, qS_fop, qS_sw, qT_eC, qT_eCB, qT_eL, qT_eLJ, qT_eLR, qT_eLB, qT_e1, qT_e2, qT_bCmp, qT_bCmpJ, qT_bAnd, qT_bOr, qT_bNot, qT_eBI, qT_eIf, qT_eLd, qT_eLdR, qT_eLen, qT_eF, qT_eFR, qT_aN, qT_aS, qT_eCl, qT_eClR, qT_eClB, qT_some, qT_x, z_nx_N, z_nx_B, z_nx_R, z_nx_X, z_bk_N, z_bk_B, z_bk_R, z_bk_X, oAdd, oSub, oMul, oNeg, cLt, cLe, cGt, cGe, cEq, cNe, Option.some.injEq, Sum.inl.injEq, Sum.inr.injEq, Prod.mk.injEq, exists_eq_left, exists_eq_left', exists_eq_right, exists_and_left, reduceCtorEq, and_true, true_and, and_false, false_and, List.getElem?_cons_zero, List.getElem?_cons_succ, List.set_cons_zero, List.set_cons_succ, List.replicate, List.length_cons, List.length_nil, List.cons_append, List.nil_append, Nat.reduceAdd, Nat.reduceSub, decide_eq_true_eq, decide_eq_false_iff_not, Bool.true_eq_false, Bool.false_eq_true, true_implies, false_implies, implies_true, Nat.reduceLT, exists_const, z_vB_inj, and_assoc, z_in_iff, oI2L, oL2I, Int.toNat_natCast, z_toNat0, Bool.not_eq_true', Bool.not_eq_false', ne_eq, Bool.not_true, Bool.not_false, Nat.add_zero, Int.add_zero, z_sl_s]
  have c0 := s_nH1 (i := p) q0
  have r0 := rf_one1 (i := p) q0
  obtain ⟨i, rfl⟩ : ∃ i : Nat, p = i := ⟨p.toNat, by omega⟩
  have h_i : i < 4 := by omega
  have a1 := k_1r h_i
  have po := k_po (S := S) h_i
  have pc := k_pc (S := S) h_i
  have pf := (I.1 i h_i).1
  have pr := rP_S I h_i
  have pe := fun k (hk : k < 9) => rP_e I h_i hk
  have s1 := s_countGaps po pc pf
  rw [← pCors_cg pe (Nat.le_refl 9)] at s1
  refine kOp.ok (r := vI (if 0 < pCors (rP S i) 9 - 1 then pCors (rP S i) 9 - 1 else 0)) (S1 := S) (S2 := fun g => rCw (k_t (k_u S 103 g) 0) (rP S i) 9) ?_ (fun g => ?_) (fun g => I.eq (fun a ha => ?_)) (fun g => ?_) (fun g => ?_)
  · unfold m_X5_roots
    rw [k_v0]
    apply q_body
    have b6 : INF = 1000000 := rfl
    simp only [b_X5_roots, c0, k_o0, k_a1, a1, s1, qS_nop, qS_seq, qS_set, qS_setJ, qS_if, qS_brk, qS_ret, qS_retV, qS_throw, qS_inc, qS_cl, qS_ast, qS_aop, qS_fst, qS_fop, qS_sw, qT_eC, qT_eCB, qT_eL, qT_eLJ, qT_eLR, qT_eLB, qT_e1, qT_e2, qT_bCmp, qT_bCmpJ, qT_bAnd, qT_bOr, qT_bNot, qT_eBI, qT_eIf, qT_eLd, qT_eLdR, qT_eLen, qT_eF, qT_eFR, qT_aN, qT_aS, qT_eCl, qT_eClR, qT_eClB, qT_some, qT_x, z_nx_N, z_nx_B, z_nx_R, z_nx_X, z_bk_N, z_bk_B, z_bk_R, z_bk_X, oAdd, oSub, oMul, oNeg, cLt, cLe, cGt, cGe, cEq, cNe, Option.some.injEq, Sum.inl.injEq, Sum.inr.injEq, Prod.mk.injEq, exists_eq_left, exists_eq_left', exists_eq_right, exists_and_left, reduceCtorEq, and_true, true_and, and_false, false_and, List.getElem?_cons_zero, List.getElem?_cons_succ, List.set_cons_zero, List.set_cons_succ, List.replicate, List.length_cons, List.length_nil, List.cons_append, List.nil_append, Nat.reduceAdd, Nat.reduceSub, decide_eq_true_eq, decide_eq_false_iff_not, Bool.true_eq_false, Bool.false_eq_true, true_implies, false_implies, implies_true, Nat.reduceLT, exists_const, z_vB_inj, and_assoc, z_in_iff, oI2L, oL2I, Int.toNat_natCast, z_toNat0, Bool.not_eq_true', Bool.not_eq_false', ne_eq, Bool.not_true, Bool.not_false, Nat.add_zero, Int.add_zero, z_sl_s]
    omega
  · have s2 := rf_rootsOf (S := k_t (k_u S 103 g) 0) h_i (by rw [rP_t]; exact pr)
    rw [rP_t] at s2
    unfold m_X6_roots
    rw [k_v85]
    apply q_body
    have b6 : INF = 1000000 := rfl
    simp only [b_X6_roots, r0, rf_can0, s2, z_vB1, z_vB0, if_true, if_false, not_true_eq_false, not_false_eq_true, k_t_n, k_t_1, exists_eq, k_v85, k_o85, k_r0, k_r1, k_r2, k_r3, k_r4, k_r5, k_r6, k_r7, k_r8, k_r9, k_r10, k_r11, k_r12, k_r13, k_r14, k_r15, k_r16, k_r17, k_r18, k_rl, k_sc, k_st, k_a86, k_s86, k_a87, k_s87, k_a88, k_s88, k_a89, k_s89, k_a90, k_s90, k_a91, k_s91, k_a92, k_s92, k_a93, k_s93, k_a94, k_s94, k_a95, k_s95, k_a96, k_s96, k_a97, k_s97, k_a98, k_s98, k_a99, k_s99, k_a100, k_s100, k_a101, k_s101, k_a102, k_s102, k_u_s, k_u_n, k_u_u, Nat.reduceEqDiff, not_false_eq_true, qS_nop, qS_seq, qS_set, qS_setJ, qS_if, qS_brk, qS_ret, qS_retV, qS_throw, qS_inc, qS_cl, qS_ast, qS_aop, qS_fst, qS_fop, qS_sw, qT_eC, qT_eCB, qT_eL, qT_eLJ, qT_eLR, qT_eLB, qT_e1, qT_e2, qT_bCmp, qT_bCmpJ, qT_bAnd, qT_bOr, qT_bNot, qT_eBI, qT_eIf, qT_eLd, qT_eLdR, qT_eLen, qT_eF, qT_eFR, qT_aN, qT_aS, qT_eCl, qT_eClR, qT_eClB, qT_some, qT_x, z_nx_N, z_nx_B, z_nx_R, z_nx_X, z_bk_N, z_bk_B, z_bk_R, z_bk_X, oAdd, oSub, oMul, oNeg, cLt, cLe, cGt, cGe, cEq, cNe, Option.some.injEq, Sum.inl.injEq, Sum.inr.injEq, Prod.mk.injEq, exists_eq_left, exists_eq_left', exists_eq_right, exists_and_left, reduceCtorEq, and_true, true_and, and_false, false_and, List.getElem?_cons_zero, List.getElem?_cons_succ, List.set_cons_zero, List.set_cons_succ, List.replicate, List.length_cons, List.length_nil, List.cons_append, List.nil_append, Nat.reduceAdd, Nat.reduceSub, decide_eq_true_eq, decide_eq_false_iff_not, Bool.true_eq_false, Bool.false_eq_true, true_implies, false_implies, implies_true, Nat.reduceLT, exists_const, z_vB_inj, and_assoc, z_in_iff, oI2L, oL2I, Int.toNat_natCast, z_toNat0, Bool.not_eq_true', Bool.not_eq_false', ne_eq, Bool.not_true, Bool.not_false, Nat.add_zero, Int.add_zero, z_sl_s]
  · unfold rCw
    rw [k_u_n (fun e => ha (by subst e; unfold kFree; omega)), k_u_n (fun e => ha (by subst e; unfold kFree; omega)), k_t_n (fun e => ha (by subst e; unfold kFree; omega)), k_u_n (fun e => ha (by subst e; unfold kFree; omega))]
  · unfold rCw
    rw [k_u_n (by decide), k_u_n (by decide), k_t_103]
  · unfold rCw
    rw [k_u_s]
    show k_t (k_u S 103 g) 0 85 1 = 0
    exact k_t_1
theorem rCn_s {f G : Nat → Int} {n k : Nat} (h : (k : Int) < pCors f n) : rCn f G (n + 1) k = rCn f G n k := by
  have b := pCors_b f n
  conv => lhs; unfold rCn
  split
  · unfold z_up
    rw [if_neg (by omega)]
  · rfl
theorem pCors_le (f : Nat → Int) {n m : Nat} (h : n ≤ m) : pCors f n ≤ pCors f m := by
  induction m with
  | zero => rw [show n = 0 by omega]; exact Int.le_refl _
  | succ m ih =>
    by_cases c : n = m + 1
    · rw [c]; exact Int.le_refl _
    · have w := ih (by omega)
      rw [pCors_s]
      split <;> omega
theorem rCn_m {f G : Nat → Int} {n m k : Nat} (h : (k : Int) < pCors f n) (hm : n ≤ m) : rCn f G m k = rCn f G n k := by
  induction m with
  | zero => rw [show n = 0 by omega]
  | succ m ih =>
    by_cases c : n = m + 1
    · rw [c]
    · have w := pCors_le f (show n ≤ m by omega)
      rw [rCn_s (by omega), ih (by omega)]
theorem rCn_c {f G : Nat → Int} : ∀ n k : Nat, (k : Int) < pCors f n → ∃ c, c < n ∧ rCn f G n k = (c : Int) ∧ pCor f c ∧ pCors f c = k := by
  intro n
  induction n with
  | zero =>
    intro k h
    have b := pCors_b f 0
    omega
  | succ n ih =>
    intro k h
    have b := pCors_b f n
    by_cases c : (k : Int) < pCors f n
    · obtain ⟨x, h1, h2, h3, h4⟩ := ih k c
      exact ⟨x, by omega, by rw [rCn_s c]; exact h2, h3, h4⟩
    · rw [pCors_s] at h
      have q : z_dec (pCor f n) = true := by
        by_cases w : z_dec (pCor f n) = true
        · exact w
        · rw [if_neg w] at h; omega
      rw [if_pos q] at h
      refine ⟨n, by omega, ?_, (z_dec_iff _).mp q, by omega⟩
      unfold rCn
      rw [if_pos q]
      unfold z_up
      rw [if_pos (by omega)]
theorem pCb_r {f G : Nat → Int} : ∀ n m : Nat, pCors f n = (m : Int) + 1 → pCb f n = rCn f G n m := by
  intro n
  induction n with
  | zero =>
    intro m h
    have b := pCors_b f 0
    omega
  | succ n ih =>
    intro m h
    have b := pCors_b f n
    rw [pCors_s] at h
    unfold pCb rCn
    by_cases q : z_dec (pCor f n) = true
    · rw [if_pos q] at h
      rw [if_pos q, if_pos q]
      unfold z_up
      rw [if_pos (by omega)]
    · rw [if_neg q] at h
      rw [if_neg q, if_neg q]
      exact ih m (by omega)
theorem pCb_cg {f g : Nat → Int} (h : ∀ k, k < 9 → f k = g k) : ∀ n, n ≤ 9 → pCb f n = pCb g n := by
  intro n
  induction n with
  | zero => intro _; rfl
  | succ n ih =>
    intro hn
    unfold pCb
    rw [z_dec_c _ _ (pCor_cg h (show n < 9 by omega)), ih (by omega)]
/-- the corners by their numbers -/
noncomputable def cNo (f : Nat → Int) (k : Nat) : Nat := (rCn f (fun _ => 0) 9 k).toNat
theorem cNo_r {f G : Nat → Int} {k : Nat} (h : (k : Int) < pCors f 9) : rCn f G 9 k = (cNo f k : Int) := by
  obtain ⟨c, h1, h2, h3, h4⟩ := rCn_c (G := G) 9 k h
  obtain ⟨d, k1, k2, k3, k4⟩ := rCn_c (G := fun _ => 0) 9 k h
  have e : c = d := by
    rcases Nat.lt_trichotomy c d with w | w | w
    · have x := pCors_le f (show c + 1 ≤ d by omega)
      rw [pCors_s, if_pos ((z_dec_iff _).mpr h3)] at x
      omega
    · exact w
    · have x := pCors_le f (show d + 1 ≤ c by omega)
      rw [pCors_s, if_pos ((z_dec_iff _).mpr k3)] at x
      omega
  unfold cNo
  rw [h2, k2, e]
  rfl
theorem cNo_b {f : Nat → Int} {k : Nat} (h : (k : Int) < pCors f 9) : cNo f k < 9 ∧ pCor f (cNo f k) ∧ pCors f (cNo f k) = k := by
  obtain ⟨d, k1, k2, k3, k4⟩ := rCn_c (G := fun _ => 0) 9 k h
  unfold cNo
  rw [k2, Int.toNat_natCast]
  exact ⟨k1, k3, k4⟩
theorem cNo_top {f : Nat → Int} {m : Nat} (h : pCors f 9 = (m : Int) + 1) : pCb f 9 = (cNo f m : Int) := by
  rw [pCb_r (G := fun _ => 0) 9 m h, cNo_r (by omega)]
theorem cNo_next {f : Nat → Int} {k : Nat} (h : ((k + 1 : Nat) : Int) < pCors f 9) : pCb f (cNo f (k + 1)) = (cNo f k : Int) ∧ cNo f k < cNo f (k + 1) := by
  have b := cNo_b h
  have e : pCb f (cNo f (k + 1)) = (cNo f k : Int) := by
    rw [pCb_r (G := fun _ => 0) _ k (by rw [b.2.2]; omega), ← rCn_m (m := 9) (by rw [b.2.2]; omega) (by omega), cNo_r (by omega)]
  have w := (pCb_b f (cNo f (k + 1))).2.1
  exact ⟨e, by omega⟩
theorem fDv_d (A B : Int) : ∀ k : Nat, fDv A B k ∣ A ∧ fDv A B k ∣ B
  | 0 => ⟨Int.one_dvd _, Int.one_dvd _⟩
  | k + 1 => by
    have w := fDv_d A B k
    unfold fDv
    split
    · next q => exact ⟨Int.dvd_of_tmod_eq_zero q.1, Int.dvd_of_tmod_eq_zero q.2⟩
    · exact w
theorem fDv_g (A B : Int) : ∀ k : Nat, ∀ d : Int, 1 ≤ d → d ≤ (k : Int) + 1 → d ∣ A → d ∣ B → d ≤ fDv A B k
  | 0 => fun d h1 h2 _ _ => by unfold fDv; omega
  | k + 1 => fun d h1 h2 h3 h4 => by
    unfold fDv
    split
    · omega
    · next q =>
      refine fDv_g A B k d h1 ?_ h3 h4
      by_cases c : d = (k : Int) + 2
      · subst c
        exact absurd ⟨Int.tmod_eq_zero_of_dvd h3, Int.tmod_eq_zero_of_dvd h4⟩ q
      · omega
theorem fDv_gcd (A B : Int) (hB : 1 ≤ B) : fDv A B (B - 1).toNat = ((Nat.gcd A.natAbs B.toNat : Nat) : Int) := by
  have hg : 0 < Nat.gcd A.natAbs B.toNat := Nat.gcd_pos_of_pos_right _ (by omega)
  have hl : Nat.gcd A.natAbs B.toNat ≤ B.toNat := Nat.le_of_dvd (by omega) (Nat.gcd_dvd_right _ _)
  have b := fDv_b A B (B - 1).toNat
  have d := fDv_d A B (B - 1).toNat
  have eB : B.natAbs = B.toNat := by omega
  have h1 := fDv_g A B (B - 1).toNat ((Nat.gcd A.natAbs B.toNat : Nat) : Int) (by omega) (by omega) (Int.natAbs_dvd_natAbs.mp (show ((Nat.gcd A.natAbs B.toNat : Nat) : Int).natAbs ∣ A.natAbs from Nat.gcd_dvd_left _ _)) (Int.natAbs_dvd_natAbs.mp (show ((Nat.gcd A.natAbs B.toNat : Nat) : Int).natAbs ∣ B.natAbs from by rw [eB]; exact Nat.gcd_dvd_right _ _))
  have h2 := Nat.le_of_dvd hg (Nat.dvd_gcd (Int.natAbs_dvd_natAbs.mpr d.1) (by rw [← eB]; exact Int.natAbs_dvd_natAbs.mpr d.2))
  omega
end FQ
