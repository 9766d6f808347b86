/-! THE FACE: root -/
section FR2
variable {S : Nat → Nat → Int}
theorem op_root (I : kInv S) {p : Int} {n : Int} {w : Int} (hp : kR p) (hn : kR n) (hw : kR w) : kOp m_X5_root m_X6_root kIO kIA [vI p, vI n, vI w] S := by
  have b6 : INF = 1000000 := rfl
  by_cases q0 : 0 ≤ p ∧ p ≤ 3
  rotate_left
  · have c0 := s_nH0 hp q0
    have r0 := rf_one0 hp q0
    refine kOp.x1 (r := vI 0) (S1 := S) (S2 := fun g => k_t (k_u S 103 g) 1) ?_ (fun g => ?_) (fun g => I.t g 1) (fun g => k_t_103) (fun g => k_t_1)
    · unfold m_X5_root
      rw [k_v0]
      apply q_body
      have b6 : INF = 1000000 := rfl
      simp only [b_X5_root, c0, qS_nop, qS_seq, qS_set, qS_setJ, qS_if, qS_brk, qS_ret, qS_retV, qS_throw, qS_inc, qS_cl, qS_ast, qS_aop, qS_fst, qS_fop, qS_sw, qT_eC, qT_eCB, qT_eL, qT_eLJ, qT_eLR, qT_eLB, qT_e1, qT_e2, qT_bCmp, qT_bCmpJ, qT_bAnd, qT_bOr, qT_bNot, qT_eBI, qT_eIf, qT_eLd, qT_eLdR, qT_eLen, qT_eF, qT_eFR, qT_aN, qT_aS, qT_eCl, qT_eClR, qT_eClB, qT_some, qT_x, z_nx_N, z_nx_B, z_nx_R, z_nx_X, z_bk_N, z_bk_B, z_bk_R, z_bk_X, oAdd, oSub, oMul, oNeg, cLt, cLe, cGt, cGe, cEq, cNe, Option.some.injEq, Sum.inl.injEq, Sum.inr.injEq, Prod.mk.injEq, exists_eq_left, exists_eq_left', exists_eq_right, exists_and_left, reduceCtorEq, and_true, true_and, and_false, false_and, List.getElem?_cons_zero, List.getElem?_cons_succ, List.set_cons_zero, List.set_cons_succ, List.replicate, List.length_cons, List.length_nil, List.cons_append, List.nil_append, Nat.reduceAdd, Nat.reduceSub, decide_eq_true_eq, decide_eq_false_iff_not, Bool.true_eq_false, Bool.false_eq_true, true_implies, false_implies, implies_true, Nat.reduceLT, exists_const, z_vB_inj, and_assoc, z_in_iff, oI2L, oL2I, Int.toNat_natCast, z_toNat0, Bool.not_eq_true', Bool.not_eq_false', ne_eq, Bool.not_true, Bool.not_false, Nat.add_zero, Int.add_zero, z_sl_s]
    · unfold m_X6_root
      rw [k_v85]
      apply q_body
      have b6 : INF = 1000000 := rfl
      simp only [b_X6_root, r0, rf_can1, z_vB1, z_vB0, if_true, if_false, not_true_eq_false, not_false_eq_true, k_t_n, k_t_1, exists_eq, k_v85, k_o85, k_r0, k_r1, k_r2, k_r3, k_r4, k_r5, k_r6, k_r7, k_r8, k_r9, k_r10, k_r11, k_r12, k_r13, k_r14, k_r15, k_r16, k_r17, k_r18, k_rl, k_sc, k_st, k_a86, k_s86, k_a87, k_s87, k_a88, k_s88, k_a89, k_s89, k_a90, k_s90, k_a91, k_s91, k_a92, k_s92, k_a93, k_s93, k_a94, k_s94, k_a95, k_s95, k_a96, k_s96, k_a97, k_s97, k_a98, k_s98, k_a99, k_s99, k_a100, k_s100, k_a101, k_s101, k_a102, k_s102, k_u_s, k_u_n, k_u_u, Nat.reduceEqDiff, not_false_eq_true, qS_nop, qS_seq, qS_set, qS_setJ, qS_if, qS_brk, qS_ret, qS_retV, qS_throw, qS_inc, qS_cl, qS_ast, qS_aop, qS_fst, qS_fop, qS_sw, qT_eC, qT_eCB, qT_eL, qT_eLJ, qT_eLR, qT_eLB, qT_e1, qT_e2, qT_bCmp, qT_bCmpJ, qT_bAnd, qT_bOr, qT_bNot, qT_eBI, qT_eIf, qT_eLd, qT_eLdR, qT_eLen, qT_eF, qT_eFR, qT_aN, qT_aS, qT_eCl, qT_eClR, qT_eClB, qT_some, qT_x, z_nx_N, z_nx_B, z_nx_R, z_nx_X, z_bk_N, z_bk_B, z_bk_R, z_bk_X, oAdd, oSub, oMul, oNeg, cLt, cLe, cGt, cGe, cEq, cNe, Option.some.injEq, Sum.inl.injEq, Sum.inr.injEq, Prod.mk.injEq, exists_eq_left, exists_eq_left', exists_eq_right, exists_and_left, reduceCtorEq, and_true, true_and, and_false, false_and, List.getElem?_cons_zero, List.getElem?_cons_succ, List.set_cons_zero, List.set_cons_succ, List.replicate, List.length_cons, List.length_nil, List.cons_append, List.nil_append, Nat.reduceAdd, Nat.reduceSub, decide_eq_true_eq, decide_eq_false_iff_not, Bool.true_eq_false, Bool.false_eq_true, true_implies, false_implies, implies_true, Nat.reduceLT, exists_const, z_vB_inj, and_assoc, z_in_iff, oI2L, oL2I, Int.toNat_natCast, z_toNat0, Bool.not_eq_true', Bool.not_eq_false', ne_eq, Bool.not_true, Bool.not_false, Nat.add_zero, Int.add_zero, z_sl_s]
  have c0 := s_nH1 (i := p) q0
  have r0 := rf_one1 (i := p) q0
  obtain ⟨i, rfl⟩ : ∃ i : Nat, p = i := ⟨p.toNat, by omega⟩
  have h_i : i < 4 := by omega
  have a1 := k_1r h_i
  have po := k_po (S := S) h_i
  have pc := k_pc (S := S) h_i
  have pf := (I.1 i h_i).1
  have pr := rP_S I h_i
  have pe := fun k (hk : k < 9) => rP_e I h_i hk
  have s1 := s_countGaps po pc pf
  rw [← pCors_cg pe (Nat.le_refl 9)] at s1
  have cb := pCors_b (rP S i) 9
  have rr := fun g => rf_rootsOf (S := k_u S 103 g) h_i (by rw [rP_u (by decide)]; exact pr)
  have rpu : ∀ g, rP (k_u S 103 g) i = rP S i := fun g => rP_u (by decide)
  simp only [rpu] at rr
  obtain ⟨gp, hgp⟩ : ∃ gp, gp = (if 0 < pCors (rP S i) 9 - 1 then pCors (rP S i) 9 - 1 else 0) := ⟨_, rfl⟩
  rw [← hgp] at s1
  simp only [← hgp] at rr
  have hg8 : 0 ≤ gp ∧ gp ≤ 8 := by rw [hgp]; split <;> omega
  have eI : ∀ g n a, ¬ kFree a → k_t (rCw (k_u S 103 g) (rP S i) 9) n a = S a := fun g n a ha => by
    rw [k_t_n (fun e => ha (by subst e; unfold kFree; omega))]
    unfold rCw
    rw [k_u_n (fun e => ha (by subst e; unfold kFree; omega)), k_u_n (fun e => ha (by subst e; unfold kFree; omega)), k_u_n (fun e => ha (by subst e; unfold kFree; omega))]
  have e3 : ∀ g n, k_t (rCw (k_u S 103 g) (rP S i) 9) n 103 = g := fun g n => by
    rw [k_t_n (by decide)]
    unfold rCw
    rw [k_u_n (by decide), k_u_n (by decide), k_u_s]
  by_cases q1 : 0 ≤ n ∧ n < gp
  rotate_left
  · have c1 := s_nI0 (i := n) (c := gp) hn (by omega) q1
    have r1 := rf_in0 (n := n) (a := 0) (b := gp - 1) hn (by decide) (by omega) (by omega)
    refine kOp.x1 (r := vI 0) (S1 := S) (S2 := fun g => k_t (rCw (k_u S 103 g) (rP S i) 9) 1) ?_ (fun g => ?_) (fun g => I.eq (eI g 1)) (fun g => e3 g 1) (fun g => k_t_1)
    · unfold m_X5_root
      rw [k_v0]
      apply q_body
      have b6 : INF = 1000000 := rfl
      simp only [b_X5_root, c0, k_o0, k_a1, a1, s1, c1, qS_nop, qS_seq, qS_set, qS_setJ, qS_if, qS_brk, qS_ret, qS_retV, qS_throw, qS_inc, qS_cl, qS_ast, qS_aop, qS_fst, qS_fop, qS_sw, qT_eC, qT_eCB, qT_eL, qT_eLJ, qT_eLR, qT_eLB, qT_e1, qT_e2, qT_bCmp, qT_bCmpJ, qT_bAnd, qT_bOr, qT_bNot, qT_eBI, qT_eIf, qT_eLd, qT_eLdR, qT_eLen, qT_eF, qT_eFR, qT_aN, qT_aS, qT_eCl, qT_eClR, qT_eClB, qT_some, qT_x, z_nx_N, z_nx_B, z_nx_R, z_nx_X, z_bk_N, z_bk_B, z_bk_R, z_bk_X, oAdd, oSub, oMul, oNeg, cLt, cLe, cGt, cGe, cEq, cNe, Option.some.injEq, Sum.inl.injEq, Sum.inr.injEq, Prod.mk.injEq, exists_eq_left, exists_eq_left', exists_eq_right, exists_and_left, reduceCtorEq, and_true, true_and, and_false, false_and, List.getElem?_cons_zero, List.getElem?_cons_succ, List.set_cons_zero, List.set_cons_succ, List.replicate, List.length_cons, List.length_nil, List.cons_append, List.nil_append, Nat.reduceAdd, Nat.reduceSub, decide_eq_true_eq, decide_eq_false_iff_not, Bool.true_eq_false, Bool.false_eq_true, true_implies, false_implies, implies_true, Nat.reduceLT, exists_const, z_vB_inj, and_assoc, z_in_iff, oI2L, oL2I, Int.toNat_natCast, z_toNat0, Bool.not_eq_true', Bool.not_eq_false', ne_eq, Bool.not_true, Bool.not_false, Nat.add_zero, Int.add_zero, z_sl_s]
      try omega
    · unfold m_X6_root
      rw [k_v85]
      apply q_body
      have b6 : INF = 1000000 := rfl
      simp only [b_X6_root, r0, rr, r1, rf_can1, z_vB1, z_vB0, if_true, if_false, not_true_eq_false, not_false_eq_true, k_t_n, k_t_1, exists_eq, qS_nop, qS_seq, qS_set, qS_setJ, qS_if, qS_brk, qS_ret, qS_retV, qS_throw, qS_inc, qS_cl, qS_ast, qS_aop, qS_fst, qS_fop, qS_sw, qT_eC, qT_eCB, qT_eL, qT_eLJ, qT_eLR, qT_eLB, qT_e1, qT_e2, qT_bCmp, qT_bCmpJ, qT_bAnd, qT_bOr, qT_bNot, qT_eBI, qT_eIf, qT_eLd, qT_eLdR, qT_eLen, qT_eF, qT_eFR, qT_aN, qT_aS, qT_eCl, qT_eClR, qT_eClB, qT_some, qT_x, z_nx_N, z_nx_B, z_nx_R, z_nx_X, z_bk_N, z_bk_B, z_bk_R, z_bk_X, oAdd, oSub, oMul, oNeg, cLt, cLe, cGt, cGe, cEq, cNe, Option.some.injEq, Sum.inl.injEq, Sum.inr.injEq, Prod.mk.injEq, exists_eq_left, exists_eq_left', exists_eq_right, exists_and_left, reduceCtorEq, and_true, true_and, and_false, false_and, List.getElem?_cons_zero, List.getElem?_cons_succ, List.set_cons_zero, List.set_cons_succ, List.replicate, List.length_cons, List.length_nil, List.cons_append, List.nil_append, Nat.reduceAdd, Nat.reduceSub, decide_eq_true_eq, decide_eq_false_iff_not, Bool.true_eq_false, Bool.false_eq_true, true_implies, false_implies, implies_true, Nat.reduceLT, exists_const, z_vB_inj, and_assoc, z_in_iff, oI2L, oL2I, Int.toNat_natCast, z_toNat0, Bool.not_eq_true', Bool.not_eq_false', ne_eq, Bool.not_true, Bool.not_false, Nat.add_zero, Int.add_zero, z_sl_s]
      try omega
  have c1 := s_nI1 (i := n) (c := gp) (by omega) q1
  have r1 := rf_in1 (n := n) (a := 0) (b := gp - 1) (by decide) (by omega) (by omega)
  by_cases q2 : 0 ≤ w ∧ w ≤ 2
  rotate_left
  · have c2 := s_nW0 (n := w) (a := 0) (b := 2) hw (by decide) (by decide) q2
    have r2 := rf_in0 (n := w) (a := 0) (b := 2) hw (by decide) (by decide) q2
    refine kOp.x2 (r := vI 0) (S1 := S) (S2 := fun g => k_t (rCw (k_u S 103 g) (rP S i) 9) 2) ?_ (fun g => ?_) (fun g => I.eq (eI g 2)) (fun g => e3 g 2) (fun g => k_t_1)
    · unfold m_X5_root
      rw [k_v0]
      apply q_body
      have b6 : INF = 1000000 := rfl
      simp only [b_X5_root, c0, k_o0, k_a1, a1, s1, c1, c2, qS_nop, qS_seq, qS_set, qS_setJ, qS_if, qS_brk, qS_ret, qS_retV, qS_throw, qS_inc, qS_cl, qS_ast, qS_aop, qS_fst, qS_fop, qS_sw, qT_eC, qT_eCB, qT_eL, qT_eLJ, qT_eLR, qT_eLB, qT_e1, qT_e2, qT_bCmp, qT_bCmpJ, qT_bAnd, qT_bOr, qT_bNot, qT_eBI, qT_eIf, qT_eLd, qT_eLdR, qT_eLen, qT_eF, qT_eFR, qT_aN, qT_aS, qT_eCl, qT_eClR, qT_eClB, qT_some, qT_x, z_nx_N, z_nx_B, z_nx_R, z_nx_X, z_bk_N, z_bk_B, z_bk_R, z_bk_X, oAdd, oSub, oMul, oNeg, cLt, cLe, cGt, cGe, cEq, cNe, Option.some.injEq, Sum.inl.injEq, Sum.inr.injEq, Prod.mk.injEq, exists_eq_left, exists_eq_left', exists_eq_right, exists_and_left, reduceCtorEq, and_true, true_and, and_false, false_and, List.getElem?_cons_zero, List.getElem?_cons_succ, List.set_cons_zero, List.set_cons_succ, List.replicate, List.length_cons, List.length_nil, List.cons_append, List.nil_append, Nat.reduceAdd, Nat.reduceSub, decide_eq_true_eq, decide_eq_false_iff_not, Bool.true_eq_false, Bool.false_eq_true, true_implies, false_implies, implies_true, Nat.reduceLT, exists_const, z_vB_inj, and_assoc, z_in_iff, oI2L, oL2I, Int.toNat_natCast, z_toNat0, Bool.not_eq_true', Bool.not_eq_false', ne_eq, Bool.not_true, Bool.not_false, Nat.add_zero, Int.add_zero, z_sl_s]
      try omega
    · unfold m_X6_root
      rw [k_v85]
      apply q_body
      have b6 : INF = 1000000 := rfl
      simp only [b_X6_root, r0, rr, r1, r2, rf_can2, z_vB1, z_vB0, if_true, if_false, not_true_eq_false, not_false_eq_true, k_t_n, k_t_1, exists_eq, qS_nop, qS_seq, qS_set, qS_setJ, qS_if, qS_brk, qS_ret, qS_retV, qS_throw, qS_inc, qS_cl, qS_ast, qS_aop, qS_fst, qS_fop, qS_sw, qT_eC, qT_eCB, qT_eL, qT_eLJ, qT_eLR, qT_eLB, qT_e1, qT_e2, qT_bCmp, qT_bCmpJ, qT_bAnd, qT_bOr, qT_bNot, qT_eBI, qT_eIf, qT_eLd, qT_eLdR, qT_eLen, qT_eF, qT_eFR, qT_aN, qT_aS, qT_eCl, qT_eClR, qT_eClB, qT_some, qT_x, z_nx_N, z_nx_B, z_nx_R, z_nx_X, z_bk_N, z_bk_B, z_bk_R, z_bk_X, oAdd, oSub, oMul, oNeg, cLt, cLe, cGt, cGe, cEq, cNe, Option.some.injEq, Sum.inl.injEq, Sum.inr.injEq, Prod.mk.injEq, exists_eq_left, exists_eq_left', exists_eq_right, exists_and_left, reduceCtorEq, and_true, true_and, and_false, false_and, List.getElem?_cons_zero, List.getElem?_cons_succ, List.set_cons_zero, List.set_cons_succ, List.replicate, List.length_cons, List.length_nil, List.cons_append, List.nil_append, Nat.reduceAdd, Nat.reduceSub, decide_eq_true_eq, decide_eq_false_iff_not, Bool.true_eq_false, Bool.false_eq_true, true_implies, false_implies, implies_true, Nat.reduceLT, exists_const, z_vB_inj, and_assoc, z_in_iff, oI2L, oL2I, Int.toNat_natCast, z_toNat0, Bool.not_eq_true', Bool.not_eq_false', ne_eq, Bool.not_true, Bool.not_false, Nat.add_zero, Int.add_zero, z_sl_s]
      try omega
  have c2 := s_nW1 (n := w) (a := 0) (b := 2) (by decide) (by decide) q2
  have r2 := rf_in1 (n := w) (a := 0) (b := 2) (by decide) (by decide) q2
  obtain ⟨N, hN⟩ : ∃ N : Nat, pCors (rP S i) 9 = N := ⟨(pCors (rP S i) 9).toNat, by omega⟩
  have hgN : gp = (N : Int) - 1 ∧ 2 ≤ N := by
    rw [hN] at hgp
    split at hgp <;> omega
  obtain ⟨a, rfl⟩ : ∃ a : Nat, n = a := ⟨n.toNat, by omega⟩
  obtain ⟨F, hF⟩ : ∃ F, F = rP S i := ⟨_, rfl⟩
  have cbl : ∀ k : Nat, k ≤ 9 → m_X4_cornerBelow [vR (49 + 9 * i), vI (k : Int)] (k_W S) = some (.inl (some (vI (pCb F k))), k_W S) := fun k hk => by
    rw [s_cornerBelow po pc pf (by omega) (by omega), Int.toNat_natCast, hF, pCb_cg pe k hk]
  have top : pCb F 9 = (cNo F (N - 1) : Int) := cNo_top (m := N - 1) (by rw [hF, hN]; omega)
  have nxt : ∀ k, k + 1 < N → pCb F (cNo F (k + 1)) = (cNo F k : Int) ∧ cNo F k < cNo F (k + 1) := fun k hk => cNo_next (by rw [hF, hN]; omega)
  have cnb : ∀ k, k < N → cNo F k < 9 ∧ pCor F (cNo F k) ∧ pCors F (cNo F k) = k := fun k hk => cNo_b (by rw [hF, hN]; omega)
  obtain ⟨x, hx⟩ : ∃ x, x = cNo F (N - 2 - a) := ⟨_, rfl⟩
  obtain ⟨y, hy⟩ : ∃ y, y = cNo F (N - 1 - a) := ⟨_, rfl⟩
  have nx := nxt (N - 2 - a) (by omega)
  rw [show N - 2 - a + 1 = N - 1 - a by omega, ← hx, ← hy] at nx
  have xb := cnb (N - 2 - a) (by omega)
  have yb := cnb (N - 1 - a) (by omega)
  rw [← hx] at xb
  rw [← hy] at yb
  have fx := pr x xb.1
  have fy := pr y yb.1
  have tx := xb.2.1.1
  have ty := yb.2.1.1
  rw [hF] at tx ty
  have ex := pe x xb.1
  have ey := pe y yb.1
  have cy := cbl y (by omega)
  rw [nx.1] at cy
  have c9 := cbl 9 (by omega)
  rw [top] at c9
  obtain ⟨A, hA⟩ : ∃ A, A = rP S i x - rP S i y := ⟨_, rfl⟩
  obtain ⟨B, hB⟩ : ∃ B : Int, B = (y : Int) - (x : Int) := ⟨_, rfl⟩
  have AB : -100000 ≤ A ∧ A ≤ 100000 ∧ 1 ≤ B ∧ B ≤ 9 := by omega
  have gd := fDv_gcd A B (by omega)
  obtain ⟨D, hD⟩ : ∃ D : Int, D = ((Nat.gcd A.natAbs B.toNat : Nat) : Int) := ⟨_, rfl⟩
  rw [← hD] at gd
  have Db := fDv_b A B (B - 1).toNat
  rw [gd] at Db
  have dA : oDiv A D = some (A.tdiv D) := by
    unfold oDiv
    rw [if_pos (by simp only [Bool.and_eq_true, z_in_iff, decide_eq_true_eq]; omega)]
  have dB : oDiv B D = some (B.tdiv D) := by
    unfold oDiv
    rw [if_pos (by simp only [Bool.and_eq_true, z_in_iff, decide_eq_true_eq]; omega)]
  have k45 : (k_W S)[45]? = some (.inl (1, [vI (S 45 0), vI (S 45 1)])) := k_get (by decide)
  have fb := s_frBecome (o := 45) (h := k_W S) (A := A) (B := B) k45 (by omega) (by omega)
  rw [gd, k_sf] at fb
  have rc := fun h : z_Hp => rf_common (h := h) (x := A) (y := B) (by omega) (by omega)
  simp only [← hD] at rc
  have dAb := z_tdiv_b (A := A) (m := D) (b := 100000) (by omega) (by omega)
  have dBb := z_tdiv_b (A := B) (m := D) (b := 100000) (by omega) (by omega)
  done

end FR2
