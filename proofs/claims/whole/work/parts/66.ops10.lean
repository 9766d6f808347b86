/-! THE FACE: root -/
section FR2
variable {S : Nat → Nat → Int}
theorem op_root (I : kInv S) {p : Int} {n : Int} {w : Int} (hp : kR p) (hn : kR n) (hw : kR w) : kOp m_X5_root m_X6_root kIO kIA [vI p, vI n, vI w] S := by
  have b6 : INF = 1000000 := rfl
  by_cases q0 : 0 ≤ p ∧ p ≤ 3
  rotate_left
  · have c0 := s_nH0 hp q0
    have r0 := rf_one0 hp q0
    refine kOp.x1 (r := vI 0) (S1 := S) (S2 := fun g => k_t (k_u S 103 g) 1) ?_ (fun g => ?_) (fun g => I.t g 1) (fun g => k_t_103) (fun g => k_t_1)
    · unfold m_X5_root
      rw [k_v0]
      apply q_body
      have b6 : INF = 1000000 := rfl
      simp only [b_X5_root, c0, qS_nop, qS_seq, qS_set, qS_setJ, qS_if, qS_brk, qS_ret, qS_retV, qS_throw, qS_inc, qS_cl, qS_ast, qS_aop, qS_fst, qS_fop, qS_sw, qT_eC, qT_eCB, qT_eL, qT_eLJ, qT_eLR, qT_eLB, qT_e1, qT_e2, qT_bCmp, qT_bCmpJ, qT_bAnd, qT_bOr, qT_bNot, qT_eBI, qT_eIf, qT_eLd, qT_eLdR, qT_eLen, qT_eF, qT_eFR, qT_aN, qT_aS, qT_eCl, qT_eClR, qT_eClB, qT_some, qT_x, z_nx_N, z_nx_B, z_nx_R, z_nx_X, z_bk_N, z_bk_B, z_bk_R, z_bk_X, oAdd, oSub, oMul, oNeg, cLt, cLe, cGt, cGe, cEq, cNe, Option.some.injEq, Sum.inl.injEq, Sum.inr.injEq, Prod.mk.injEq, exists_eq_left, exists_eq_left', exists_eq_right, exists_and_left, reduceCtorEq, and_true, true_and, and_false, false_and, List.getElem?_cons_zero, List.getElem?_cons_succ, List.set_cons_zero, List.set_cons_succ, List.replicate, List.length_cons, List.length_nil, List.cons_append, List.nil_append, Nat.reduceAdd, Nat.reduceSub, decide_eq_true_eq, decide_eq_false_iff_not, Bool.true_eq_false, Bool.false_eq_true, true_implies, false_implies, implies_true, Nat.reduceLT, exists_const, z_vB_inj, and_assoc, z_in_iff, oI2L, oL2I, Int.toNat_natCast, z_toNat0, Bool.not_eq_true', Bool.not_eq_false', ne_eq, Bool.not_true, Bool.not_false, Nat.add_zero, Int.add_zero, z_sl_s]
    · unfold m_X6_root
      rw [k_v85]
      apply q_body
      have b6 : INF = 1000000 := rfl
      simp only [b_X6_root, r0, rf_can1, z_vB1, z_vB0, if_true, if_false, not_true_eq_false, not_false_eq_true, k_t_n, k_t_1, exists_eq, k_v85, k_o85, k_r0, k_r1, k_r2, k_r3, k_r4, k_r5, k_r6, k_r7, k_r8, k_r9, k_r10, k_r11, k_r12, k_r13, k_r14, k_r15, k_r16, k_r17, k_r18, k_rl, k_sc, k_st, k_a86, k_s86, k_a87, k_s87, k_a88, k_s88, k_a89, k_s89, k_a90, k_s90, k_a91, k_s91, k_a92, k_s92, k_a93, k_s93, k_a94, k_s94, k_a95, k_s95, k_a96, k_s96, k_a97, k_s97, k_a98, k_s98, k_a99, k_s99, k_a100, k_s100, k_a101, k_s101, k_a102, k_s102, k_u_s, k_u_n, k_u_u, Nat.reduceEqDiff, not_false_eq_true, qS_nop, qS_seq, qS_set, qS_setJ, qS_if, qS_brk, qS_ret, qS_retV, qS_throw, qS_inc, qS_cl, qS_ast, qS_aop, qS_fst, qS_fop, qS_sw, qT_eC, qT_eCB, qT_eL, qT_eLJ, qT_eLR, qT_eLB, qT_e1, qT_e2, qT_bCmp, qT_bCmpJ, qT_bAnd, qT_bOr, qT_bNot, qT_eBI, qT_eIf, qT_eLd, qT_eLdR, qT_eLen, qT_eF, qT_eFR, qT_aN, qT_aS, qT_eCl, qT_eClR, qT_eClB, qT_some, qT_x, z_nx_N, z_nx_B, z_nx_R, z_nx_X, z_bk_N, z_bk_B, z_bk_R, z_bk_X, oAdd, oSub, oMul, oNeg, cLt, cLe, cGt, cGe, cEq, cNe, Option.some.injEq, Sum.inl.injEq, Sum.inr.injEq, Prod.mk.injEq, exists_eq_left, exists_eq_left', exists_eq_right, exists_and_left, reduceCtorEq, and_true, true_and, and_false, false_and, List.getElem?_cons_zero, List.getElem?_cons_succ, List.set_cons_zero, List.set_cons_succ, List.replicate, List.length_cons, List.length_nil, List.cons_append, List.nil_append, Nat.reduceAdd, Nat.reduceSub, decide_eq_true_eq, decide_eq_false_iff_not, Bool.true_eq_false, Bool.false_eq_true, true_implies, false_implies, implies_true, Nat.reduceLT, exists_const, z_vB_inj, and_assoc, z_in_iff, oI2L, oL2I, Int.toNat_natCast, z_toNat0, Bool.not_eq_true', Bool.not_eq_false', ne_eq, Bool.not_true, Bool.not_false, Nat.add_zero, Int.add_zero, z_sl_s]
  have c0 := s_nH1 (i := p) q0
  have r0 := rf_one1 (i := p) q0
  obtain ⟨i, rfl⟩ : ∃ i : Nat, p = i := ⟨p.toNat, by omega⟩
  have h_i : i < 4 := by omega
  have a1 := k_1r h_i
  have po := k_po (S := S) h_i
  have pc := k_pc (S := S) h_i
  have pf := (I.1 i h_i).1
  have pr := rP_S I h_i
  have pe := fun k (hk : k < 9) => rP_e I h_i hk
  have s1 := s_countGaps po pc pf
  rw [← pCors_cg pe (Nat.le_refl 9)] at s1
  have cb := pCors_b (rP S i) 9
  have rr := fun g => rf_rootsOf (S := k_u S 103 g) h_i (by rw [rP_u (by decide)]; exact pr)
  have rpu : ∀ g, rP (k_u S 103 g) i = rP S i := fun g => rP_u (by decide)
  simp only [rpu] at rr
  obtain ⟨gp, hgp⟩ : ∃ gp, gp = (if 0 < pCors (rP S i) 9 - 1 then pCors (rP S i) 9 - 1 else 0) := ⟨_, rfl⟩
  rw [← hgp] at s1
  simp only [← hgp] at rr
  have hg8 : 0 ≤ gp ∧ gp ≤ 8 := by rw [hgp]; split <;> omega
  have eI : ∀ g n a, ¬ kFree a → k_t (rCw (k_u S 103 g) (rP S i) 9) n a = S a := fun g n a ha => by
    rw [k_t_n (fun e => ha (by subst e; unfold kFree; omega))]
    unfold rCw
    rw [k_u_n (fun e => ha (by subst e; unfold kFree; omega)), k_u_n (fun e => ha (by subst e; unfold kFree; omega)), k_u_n (fun e => ha (by subst e; unfold kFree; omega))]
  have e3 : ∀ g n, k_t (rCw (k_u S 103 g) (rP S i) 9) n 103 = g := fun g n => by
    rw [k_t_n (by decide)]
    unfold rCw
    rw [k_u_n (by decide), k_u_n (by decide), k_u_s]
  by_cases q1 : 0 ≤ n ∧ n < gp
  rotate_left
  · have c1 := s_nI0 (i := n) (c := gp) hn (by omega) q1
    have r1 := rf_in0 (n := n) (a := 0) (b := gp - 1) hn (by decide) (by omega) (by omega)
    refine kOp.x1 (r := vI 0) (S1 := S) (S2 := fun g => k_t (rCw (k_u S 103 g) (rP S i) 9) 1) ?_ (fun g => ?_) (fun g => I.eq (eI g 1)) (fun g => e3 g 1) (fun g => k_t_1)
    · unfold m_X5_root
      rw [k_v0]
      apply q_body
      have b6 : INF = 1000000 := rfl
      simp only [b_X5_root, c0, k_o0, k_a1, a1, s1, c1, qS_nop, qS_seq, qS_set, qS_setJ, qS_if, qS_brk, qS_ret, qS_retV, qS_throw, qS_inc, qS_cl, qS_ast, qS_aop, qS_fst, qS_fop, qS_sw, qT_eC, qT_eCB, qT_eL, qT_eLJ, qT_eLR, qT_eLB, qT_e1, qT_e2, qT_bCmp, qT_bCmpJ, qT_bAnd, qT_bOr, qT_bNot, qT_eBI, qT_eIf, qT_eLd, qT_eLdR, qT_eLen, qT_eF, qT_eFR, qT_aN, qT_aS, qT_eCl, qT_eClR, qT_eClB, qT_some, qT_x, z_nx_N, z_nx_B, z_nx_R, z_nx_X, z_bk_N, z_bk_B, z_bk_R, z_bk_X, oAdd, oSub, oMul, oNeg, cLt, cLe, cGt, cGe, cEq, cNe, Option.some.injEq, Sum.inl.injEq, Sum.inr.injEq, Prod.mk.injEq, exists_eq_left, exists_eq_left', exists_eq_right, exists_and_left, reduceCtorEq, and_true, true_and, and_false, false_and, List.getElem?_cons_zero, List.getElem?_cons_succ, List.set_cons_zero, List.set_cons_succ, List.replicate, List.length_cons, List.length_nil, List.cons_append, List.nil_append, Nat.reduceAdd, Nat.reduceSub, decide_eq_true_eq, decide_eq_false_iff_not, Bool.true_eq_false, Bool.false_eq_true, true_implies, false_implies, implies_true, Nat.reduceLT, exists_const, z_vB_inj, and_assoc, z_in_iff, oI2L, oL2I, Int.toNat_natCast, z_toNat0, Bool.not_eq_true', Bool.not_eq_false', ne_eq, Bool.not_true, Bool.not_false, Nat.add_zero, Int.add_zero, z_sl_s]
      try omega
    · unfold m_X6_root
      rw [k_v85]
      apply q_body
      have b6 : INF = 1000000 := rfl
      simp only [b_X6_root, r0, rr, r1, rf_can1, z_vB1, z_vB0, if_true, if_false, not_true_eq_false, not_false_eq_true, k_t_n, k_t_1, exists_eq, qS_nop, qS_seq, qS_set, qS_setJ, qS_if, qS_brk, qS_ret, qS_retV, qS_throw, qS_inc, qS_cl, qS_ast, qS_aop, qS_fst, qS_fop, qS_sw, qT_eC, qT_eCB, qT_eL, qT_eLJ, qT_eLR, qT_eLB, qT_e1, qT_e2, qT_bCmp, qT_bCmpJ, qT_bAnd, qT_bOr, qT_bNot, qT_eBI, qT_eIf, qT_eLd, qT_eLdR, qT_eLen, qT_eF, qT_eFR, qT_aN, qT_aS, qT_eCl, qT_eClR, qT_eClB, qT_some, qT_x, z_nx_N, z_nx_B, z_nx_R, z_nx_X, z_bk_N, z_bk_B, z_bk_R, z_bk_X, oAdd, oSub, oMul, oNeg, cLt, cLe, cGt, cGe, cEq, cNe, Option.some.injEq, Sum.inl.injEq, Sum.inr.injEq, Prod.mk.injEq, exists_eq_left, exists_eq_left', exists_eq_right, exists_and_left, reduceCtorEq, and_true, true_and, and_false, false_and, List.getElem?_cons_zero, List.getElem?_cons_succ, List.set_cons_zero, List.set_cons_succ, List.replicate, List.length_cons, List.length_nil, List.cons_append, List.nil_append, Nat.reduceAdd, Nat.reduceSub, decide_eq_true_eq, decide_eq_false_iff_not, Bool.true_eq_false, Bool.false_eq_true, true_implies, false_implies, implies_true, Nat.reduceLT, exists_const, z_vB_inj, and_assoc, z_in_iff, oI2L, oL2I, Int.toNat_natCast, z_toNat0, Bool.not_eq_true', Bool.not_eq_false', ne_eq, Bool.not_true, Bool.not_false, Nat.add_zero, Int.add_zero, z_sl_s]
      try omega
  have c1 := s_nI1 (i := n) (c := gp) (by omega) q1
  have r1 := rf_in1 (n := n) (a := 0) (b := gp - 1) (by decide) (by omega) (by omega)
  by_cases q2 : 0 ≤ w ∧ w ≤ 2
  rotate_left
  · have c2 := s_nW0 (n := w) (a := 0) (b := 2) hw (by decide) (by decide) q2
    have r2 := rf_in0 (n := w) (a := 0) (b := 2) hw (by decide) (by decide) q2
    refine kOp.x2 (r := vI 0) (S1 := S) (S2 := fun g => k_t (rCw (k_u S 103 g) (rP S i) 9) 2) ?_ (fun g => ?_) (fun g => I.eq (eI g 2)) (fun g => e3 g 2) (fun g => k_t_1)
    · unfold m_X5_root
      rw [k_v0]
      apply q_body
      have b6 : INF = 1000000 := rfl
      simp only [b_X5_root, c0, k_o0, k_a1, a1, s1, c1, c2, qS_nop, qS_seq, qS_set, qS_setJ, qS_if, qS_brk, qS_ret, qS_retV, qS_throw, qS_inc, qS_cl, qS_ast, qS_aop, qS_fst, qS_fop, qS_sw, qT_eC, qT_eCB, qT_eL, qT_eLJ, qT_eLR, qT_eLB, qT_e1, qT_e2, qT_bCmp, qT_bCmpJ, qT_bAnd, qT_bOr, qT_bNot, qT_eBI, qT_eIf, qT_eLd, qT_eLdR, qT_eLen, qT_eF, qT_eFR, qT_aN, qT_aS, qT_eCl, qT_eClR, qT_eClB, qT_some, qT_x, z_nx_N, z_nx_B, z_nx_R, z_nx_X, z_bk_N, z_bk_B, z_bk_R, z_bk_X, oAdd, oSub, oMul, oNeg, cLt, cLe, cGt, cGe, cEq, cNe, Option.some.injEq, Sum.inl.injEq, Sum.inr.injEq, Prod.mk.injEq, exists_eq_left, exists_eq_left', exists_eq_right, exists_and_left, reduceCtorEq, and_true, true_and, and_false, false_and, List.getElem?_cons_zero, List.getElem?_cons_succ, List.set_cons_zero, List.set_cons_succ, List.replicate, List.length_cons, List.length_nil, List.cons_append, List.nil_append, Nat.reduceAdd, Nat.reduceSub, decide_eq_true_eq, decide_eq_false_iff_not, Bool.true_eq_false, Bool.false_eq_true, true_implies, false_implies, implies_true, Nat.reduceLT, exists_const, z_vB_inj, and_assoc, z_in_iff, oI2L, oL2I, Int.toNat_natCast, z_toNat0, Bool.not_eq_true', Bool.not_eq_false', ne_eq, Bool.not_true, Bool.not_false, Nat.add_zero, Int.add_zero, z_sl_s]
      try omega
    · unfold m_X6_root
      rw [k_v85]
      apply q_body
      have b6 : INF = 1000000 := rfl
      simp only [b_X6_root, r0, rr, r1, r2, rf_can2, z_vB1, z_vB0, if_true, if_false, not_true_eq_false, not_false_eq_true, k_t_n, k_t_1, exists_eq, qS_nop, qS_seq, qS_set, qS_setJ, qS_if, qS_brk, qS_ret, qS_retV, qS_throw, qS_inc, qS_cl, qS_ast, qS_aop, qS_fst, qS_fop, qS_sw, qT_eC, qT_eCB, qT_eL, qT_eLJ, qT_eLR, qT_eLB, qT_e1, qT_e2, qT_bCmp, qT_bCmpJ, qT_bAnd, qT_bOr, qT_bNot, qT_eBI, qT_eIf, qT_eLd, qT_eLdR, qT_eLen, qT_eF, qT_eFR, qT_aN, qT_aS, qT_eCl, qT_eClR, qT_eClB, qT_some, qT_x, z_nx_N, z_nx_B, z_nx_R, z_nx_X, z_bk_N, z_bk_B, z_bk_R, z_bk_X, oAdd, oSub, oMul, oNeg, cLt, cLe, cGt, cGe, cEq, cNe, Option.some.injEq, Sum.inl.injEq, Sum.inr.injEq, Prod.mk.injEq, exists_eq_left, exists_eq_left', exists_eq_right, exists_and_left, reduceCtorEq, and_true, true_and, and_false, false_and, List.getElem?_cons_zero, List.getElem?_cons_succ, List.set_cons_zero, List.set_cons_succ, List.replicate, List.length_cons, List.length_nil, List.cons_append, List.nil_append, Nat.reduceAdd, Nat.reduceSub, decide_eq_true_eq, decide_eq_false_iff_not, Bool.true_eq_false, Bool.false_eq_true, true_implies, false_implies, implies_true, Nat.reduceLT, exists_const, z_vB_inj, and_assoc, z_in_iff, oI2L, oL2I, Int.toNat_natCast, z_toNat0, Bool.not_eq_true', Bool.not_eq_false', ne_eq, Bool.not_true, Bool.not_false, Nat.add_zero, Int.add_zero, z_sl_s]
      try omega
  have c2 := s_nW1 (n := w) (a := 0) (b := 2) (by decide) (by decide) q2
  have r2 := rf_in1 (n := w) (a := 0) (b := 2) (by decide) (by decide) q2
  obtain ⟨N, hN⟩ : ∃ N : Nat, pCors (rP S i) 9 = N := ⟨(pCors (rP S i) 9).toNat, by omega⟩
  have hgN : gp = (N : Int) - 1 ∧ 2 ≤ N := by
    rw [hN] at hgp
    split at hgp <;> omega
  obtain ⟨a, rfl⟩ : ∃ a : Nat, n = a := ⟨n.toNat, by omega⟩
  obtain ⟨F, hF⟩ : ∃ F, F = rP S i := ⟨_, rfl⟩
  have cbl : ∀ k : Nat, k ≤ 9 → m_X4_cornerBelow [vR (49 + 9 * i), vI (k : Int)] (k_W S) = some (.inl (some (vI (pCb F k))), k_W S) := fun k hk => by
    rw [s_cornerBelow po pc pf (by omega) (by omega), Int.toNat_natCast, hF, pCb_cg pe k hk]
  have top : pCb F 9 = (cNo F (N - 1) : Int) := cNo_top (m := N - 1) (by rw [hF, hN]; omega)
  have nxt : ∀ k, k + 1 < N → pCb F (cNo F (k + 1)) = (cNo F k : Int) ∧ cNo F k < cNo F (k + 1) := fun k hk => cNo_next (by rw [hF, hN]; omega)
  have cnb : ∀ k, k < N → cNo F k < 9 ∧ pCor F (cNo F k) ∧ pCors F (cNo F k) = k := fun k hk => cNo_b (by rw [hF, hN]; omega)
  obtain ⟨x, hx⟩ : ∃ x, x = cNo F (N - 2 - a) := ⟨_, rfl⟩
  obtain ⟨y, hy⟩ : ∃ y, y = cNo F (N - 1 - a) := ⟨_, rfl⟩
  have nx := nxt (N - 2 - a) (by omega)
  rw [show N - 2 - a + 1 = N - 1 - a by omega, ← hx, ← hy] at nx
  have xb := cnb (N - 2 - a) (by omega)
  have yb := cnb (N - 1 - a) (by omega)
  rw [← hx] at xb
  rw [← hy] at yb
  have fx := pr x xb.1
  have fy := pr y yb.1
  have tx := xb.2.1.1
  have ty := yb.2.1.1
  rw [hF] at tx ty
  have ex := pe x xb.1
  have ey := pe y yb.1
  have cy := cbl y (by omega)
  rw [nx.1] at cy
  have c9 := cbl 9 (by omega)
  rw [top] at c9
  obtain ⟨A, hA⟩ : ∃ A, A = rP S i x - rP S i y := ⟨_, rfl⟩
  obtain ⟨B, hB⟩ : ∃ B : Int, B = (y : Int) - (x : Int) := ⟨_, rfl⟩
  have AB : -100000 ≤ A ∧ A ≤ 100000 ∧ 1 ≤ B ∧ B ≤ 9 := by omega
  have gd := fDv_gcd A B (by omega)
  obtain ⟨D, hD⟩ : ∃ D : Int, D = ((Nat.gcd A.natAbs B.toNat : Nat) : Int) := ⟨_, rfl⟩
  rw [← hD] at gd
  have Db := fDv_b A B (B - 1).toNat
  rw [gd] at Db
  have dA : oDiv A D = some (A.tdiv D) := by
    unfold oDiv
    rw [if_pos (by simp only [Bool.and_eq_true, z_in_iff, decide_eq_true_eq]; omega)]
  have dB : oDiv B D = some (B.tdiv D) := by
    unfold oDiv
    rw [if_pos (by simp only [Bool.and_eq_true, z_in_iff, decide_eq_true_eq]; omega)]
  have k45 : (k_W S)[45]? = some (.inl (1, [vI (S 45 0), vI (S 45 1)])) := k_get (by decide)
  have fb := s_frBecome (o := 45) (h := k_W S) (A := A) (B := B) k45 (by omega) (by omega)
  rw [gd, k_sf] at fb
  have rc := fun h : z_Hp => rf_common (h := h) (x := A) (y := B) (by omega) (by omega)
  simp only [← hD] at rc
  have dAb := z_tdiv_b (A := A) (m := D) (b := 100000) (by omega) (by omega)
  have dBb := z_tdiv_b (A := B) (m := D) (b := 100000) (by omega) (by omega)
  have c9' : m_X4_cornerBelow [vR (49 + 9 * i), vI 9] (k_W S) = some (.inl (some (vI (cNo F (N - 1) : Int))), k_W S) := c9
  have rrT : ∀ T : Nat → Nat → Int, T 86 = S 86 → m_X6_rootsOf [vR 85, vI (i : Int)] (k_W T) = some (.inl (some (vI gp)), k_W (rCw T (rP S i) 9)) := fun T e => by
    have p1 : rP T i = rP S i := by unfold rP; rw [e]
    have w := rf_rootsOf (S := T) h_i (by rw [p1]; exact pr)
    rw [p1, ← hgp] at w
    exact w
  have x0 : ¬ ((x : Int) < 0) := by omega
  have hA' : S (50 + 9 * i) x - S (50 + 9 * i) y = A := by rw [hA, ex, ey]
  have hB' : (y : Int) - (x : Int) = B := hB.symm
  have t1 : ((N : Int) - 2 - (a : Int)).toNat = N - 2 - a := by omega
  have t2 : ((N : Int) - 1 - (a : Int)).toNat = N - 1 - a := by omega
  have body : ∀ k, k < a → m_X4_cornerBelow [vR (49 + 9 * i), vI (cNo F (N - 1 - k) : Int)] (k_W S) = some (.inl (some (vI (cNo F (N - 1 - (k + 1)) : Int))), k_W S) := fun k hk => by
    have e := nxt (N - 1 - (k + 1)) (by omega)
    rw [show N - 1 - (k + 1) + 1 = N - 1 - k by omega] at e
    have b := cnb (N - 1 - k) (by omega)
    rw [cbl _ (by omega), e.1]
  have ref : ∀ S1 : Nat → Nat → Int, (∀ q, ¬ kFree q → S1 q = S q) → ∀ g, ∃ T, m_X6_can [vR 85, vI 0] (k_W (rCw (k_u S1 103 g) (rP S i) 9)) = some (.inl (some (vB true)), k_W T) ∧ kInv T ∧ T 103 = g ∧ T 85 1 = 0 ∧ T 85 0 = (N : Int) ∧ T 87 (N - 2 - a) = (x : Int) ∧ T 87 (N - 1 - a) = (y : Int) ∧ rP T i = rP S i := fun S1 hS1 g => by
    refine ⟨k_t (rCw (k_u S1 103 g) (rP S i) 9) 0, rf_can0 _, I.eq (fun q hq => ?_), ?_, k_t_1, ?_, ?_, ?_, ?_⟩
    · rw [k_t_n (fun e => hq (by subst e; unfold kFree; omega))]
      unfold rCw
      rw [k_u_n (fun e => hq (by subst e; unfold kFree; omega)), k_u_n (fun e => hq (by subst e; unfold kFree; omega)), k_u_n (fun e => hq (by subst e; unfold kFree; omega)), hS1 q hq]
    · rw [k_t_n (by decide)]
      unfold rCw
      rw [k_u_n (by decide), k_u_n (by decide), k_u_s]
    · show k_u _ 85 (z_up _ 1 0) 85 0 = _
      rw [k_u_s]
      show z_up (rCw (k_u S1 103 g) (rP S i) 9 85) 1 0 0 = _
      unfold rCw
      rw [k_u_s, hN]
      rfl
    · rw [k_t_n (by decide)]
      unfold rCw
      rw [k_u_n (by decide), k_u_s, cNo_r (by rw [hN]; omega), hx, hF]
    · rw [k_t_n (by decide)]
      unfold rCw
      rw [k_u_n (by decide), k_u_s, cNo_r (by rw [hN]; omega), hy, hF]
    · unfold rP
      rw [k_t_n (by decide)]
      unfold rCw
      rw [k_u_n (by decide), k_u_n (by decide), k_u_n (by decide), hS1 86 (by unfold kFree; omega)]
  have fin : ∀ (R : Int) (S1 : Nat → Nat → Int), (∀ q, ¬ kFree q → S1 q = S q) → m_X5_root [vR 0, vI (i : Int), vI (a : Int), vI w] (k_W S) = some (.inl (some (vI R)), k_W S1) → (∀ T g, m_X6_rootsOf [vR 85, vI (i : Int)] (k_W (k_u S1 103 g)) = some (.inl (some (vI gp)), k_W (rCw (k_u S1 103 g) (rP S i) 9)) → m_X6_can [vR 85, vI 0] (k_W (rCw (k_u S1 103 g) (rP S i) 9)) = some (.inl (some (vB true)), k_W T) → T 85 0 = (N : Int) → T 87 (N - 2 - a) = (x : Int) → T 87 (N - 1 - a) = (y : Int) → rP T i = rP S i → m_X6_root [vR 85, vI (i : Int), vI (a : Int), vI w] (k_W (k_u S1 103 g)) = some (.inl (some (vI R)), k_W T)) → kOp m_X5_root m_X6_root kIO kIA [vI (i : Int), vI (a : Int), vI w] S := by
    intro R S1 h1 h2 h3
    refine ⟨_, S1, h2, fun g => ?_⟩
    obtain ⟨T, e1, e2, e3, e4, e5, e6, e7, e8⟩ := ref S1 h1 g
    exact ⟨vI R, T, h3 T g (rrT _ (by rw [k_u_n (by decide), h1 86 (by unfold kFree; omega)])) e1 e5 e6 e7 e8, e2, e3, Or.inl ⟨rfl, e4⟩⟩
  rcases (by omega : w = 0 ∨ w = 1 ∨ w = 2) with rfl | rfl | rfl
  · refine fin (A.tdiv D) (k_u S 45 (z_up (z_up (S 45) 0 (A.tdiv D)) 1 (B.tdiv D))) (fun q hq => k_u_n (fun e => hq (by subst e; unfold kFree; omega))) ?_ (fun T g g1 g2 g3 g4 g5 g6 => ?_)
    · unfold m_X5_root
      rw [k_v0]
      apply q_body
      have b6 : INF = 1000000 := rfl
      simp only [b_X5_root, c0, k_o0, k_a1, a1, s1, c1, c2, c9', qS_nop, qS_seq, qS_set, qS_setJ, qS_if, qS_brk, qS_ret, qS_retV, qS_throw, qS_inc, qS_cl, qS_ast, qS_aop, qS_fst, qS_fop, qS_sw, qT_eC, qT_eCB, qT_eL, qT_eLJ, qT_eLR, qT_eLB, qT_e1, qT_e2, qT_bCmp, qT_bCmpJ, qT_bAnd, qT_bOr, qT_bNot, qT_eBI, qT_eIf, qT_eLd, qT_eLdR, qT_eLen, qT_eF, qT_eFR, qT_aN, qT_aS, qT_eCl, qT_eClR, qT_eClB, qT_some, qT_x, z_nx_N, z_nx_B, z_nx_R, z_nx_X, z_bk_N, z_bk_B, z_bk_R, z_bk_X, oAdd, oSub, oMul, oNeg, cLt, cLe, cGt, cGe, cEq, cNe, Option.some.injEq, Sum.inl.injEq, Sum.inr.injEq, Prod.mk.injEq, exists_eq_left, exists_eq_left', exists_eq_right, exists_and_left, reduceCtorEq, and_true, true_and, and_false, false_and, List.getElem?_cons_zero, List.getElem?_cons_succ, List.set_cons_zero, List.set_cons_succ, List.replicate, List.length_cons, List.length_nil, List.cons_append, List.nil_append, Nat.reduceAdd, Nat.reduceSub, decide_eq_true_eq, decide_eq_false_iff_not, Bool.true_eq_false, Bool.false_eq_true, true_implies, false_implies, implies_true, Nat.reduceLT, exists_const, z_vB_inj, and_assoc, z_in_iff, oI2L, oL2I, Int.toNat_natCast, z_toNat0, Bool.not_eq_true', Bool.not_eq_false', ne_eq, Bool.not_true, Bool.not_false, Nat.add_zero, Int.add_zero, z_sl_s]
      repeat (refine And.intro (by omega) ?_)
      refine qS_for (fun k => [vR 0, vI (i : Int), vI (a : Int), vI 0, vR (49 + 9 * i), vI (cNo F (N - 1 - k) : Int), vI (k : Int)]) (fun _ => k_W S) (fun _ => True) a rfl rfl trivial (by omega) ?_ ?_
      · intro k hk _
        have e := body k hk
        simp only [e, qS_nop, qS_seq, qS_set, qS_setJ, qS_if, qS_brk, qS_ret, qS_retV, qS_throw, qS_inc, qS_cl, qS_ast, qS_aop, qS_fst, qS_fop, qS_sw, qT_eC, qT_eCB, qT_eL, qT_eLJ, qT_eLR, qT_eLB, qT_e1, qT_e2, qT_bCmp, qT_bCmpJ, qT_bAnd, qT_bOr, qT_bNot, qT_eBI, qT_eIf, qT_eLd, qT_eLdR, qT_eLen, qT_eF, qT_eFR, qT_aN, qT_aS, qT_eCl, qT_eClR, qT_eClB, qT_some, qT_x, z_nx_N, z_nx_B, z_nx_R, z_nx_X, z_bk_N, z_bk_B, z_bk_R, z_bk_X, oAdd, oSub, oMul, oNeg, cLt, cLe, cGt, cGe, cEq, cNe, Option.some.injEq, Sum.inl.injEq, Sum.inr.injEq, Prod.mk.injEq, exists_eq_left, exists_eq_left', exists_eq_right, exists_and_left, reduceCtorEq, and_true, true_and, and_false, false_and, List.getElem?_cons_zero, List.getElem?_cons_succ, List.set_cons_zero, List.set_cons_succ, List.replicate, List.length_cons, List.length_nil, List.cons_append, List.nil_append, Nat.reduceAdd, Nat.reduceSub, decide_eq_true_eq, decide_eq_false_iff_not, Bool.true_eq_false, Bool.false_eq_true, true_implies, false_implies, implies_true, Nat.reduceLT, exists_const, z_vB_inj, and_assoc, z_in_iff, oI2L, oL2I, Int.toNat_natCast, z_toNat0, Bool.not_eq_true', Bool.not_eq_false', ne_eq, Bool.not_true, Bool.not_false, Nat.add_zero, Int.add_zero, z_sl_s]
        (repeat' (first | apply And.intro | intro _)) <;> first | omega | rfl | grind
      · intro _
        have n02 : ¬ ((0 : Int) = 2) := by decide
        have n12 : ¬ ((1 : Int) = 2) := by decide
        have n10 : ¬ ((1 : Int) = 0) := by decide
        have u1 : ∀ f : Nat → Int, ∀ p q : Int, z_up (z_up f 0 p) 1 q 0 = p := fun _ _ _ => rfl
        have u2 : ∀ f : Nat → Int, ∀ p q : Int, z_up (z_up f 0 p) 1 q 1 = q := fun _ _ _ => rfl
        simp only [← hy, cy, x0, k_o0, q_obj po, q_arr pc (by decide : 9 < 2147483648), hA', hB', fb, k_o45, k_u_s, u1, u2, n02, n12, n10, qS_nop, qS_seq, qS_set, qS_setJ, qS_if, qS_brk, qS_ret, qS_retV, qS_throw, qS_inc, qS_cl, qS_ast, qS_aop, qS_fst, qS_fop, qS_sw, qT_eC, qT_eCB, qT_eL, qT_eLJ, qT_eLR, qT_eLB, qT_e1, qT_e2, qT_bCmp, qT_bCmpJ, qT_bAnd, qT_bOr, qT_bNot, qT_eBI, qT_eIf, qT_eLd, qT_eLdR, qT_eLen, qT_eF, qT_eFR, qT_aN, qT_aS, qT_eCl, qT_eClR, qT_eClB, qT_some, qT_x, z_nx_N, z_nx_B, z_nx_R, z_nx_X, z_bk_N, z_bk_B, z_bk_R, z_bk_X, oAdd, oSub, oMul, oNeg, cLt, cLe, cGt, cGe, cEq, cNe, Option.some.injEq, Sum.inl.injEq, Sum.inr.injEq, Prod.mk.injEq, exists_eq_left, exists_eq_left', exists_eq_right, exists_and_left, reduceCtorEq, and_true, true_and, and_false, false_and, List.getElem?_cons_zero, List.getElem?_cons_succ, List.set_cons_zero, List.set_cons_succ, List.replicate, List.length_cons, List.length_nil, List.cons_append, List.nil_append, Nat.reduceAdd, Nat.reduceSub, decide_eq_true_eq, decide_eq_false_iff_not, Bool.true_eq_false, Bool.false_eq_true, true_implies, false_implies, implies_true, Nat.reduceLT, exists_const, z_vB_inj, and_assoc, z_in_iff, oI2L, oL2I, Int.toNat_natCast, z_toNat0, Bool.not_eq_true', Bool.not_eq_false', ne_eq, Bool.not_true, Bool.not_false, Nat.add_zero, Int.add_zero, z_sl_s]
        (repeat' (first | apply And.intro | intro _)) <;> first | omega | rfl | grind
    · have o1 := rf_of (S := T) h_i xb.1
      have o2 := rf_of (S := T) h_i yb.1
      rw [g6] at o1 o2
      have hA2 : rP S i x - rP S i y = A := hA.symm
      have n02 : ¬ ((0 : Int) = 2) := by decide
      have n21 : ¬ ((2 : Int) = 1) := by decide
      have n20 : ¬ ((2 : Int) = 0) := by decide
      have n10 : ¬ ((1 : Int) = 0) := by decide
      unfold m_X6_root
      rw [k_v85]
      apply q_body
      have b6 : INF = 1000000 := rfl
      simp only [b_X6_root, r0, g1, r1, r2, g2, g3, t1, t2, g4, g5, o1, o2, hA2, hB', rc, dA, dB, n02, n21, n20, n10, z_vB1, z_vB0, if_true, if_false, not_true_eq_false, not_false_eq_true, k_t_n, k_t_1, exists_eq, k_v85, k_o85, k_r0, k_r1, k_r2, k_r3, k_r4, k_r5, k_r6, k_r7, k_r8, k_r9, k_r10, k_r11, k_r12, k_r13, k_r14, k_r15, k_r16, k_r17, k_r18, k_rl, k_sc, k_st, k_a86, k_s86, k_a87, k_s87, k_a88, k_s88, k_a89, k_s89, k_a90, k_s90, k_a91, k_s91, k_a92, k_s92, k_a93, k_s93, k_a94, k_s94, k_a95, k_s95, k_a96, k_s96, k_a97, k_s97, k_a98, k_s98, k_a99, k_s99, k_a100, k_s100, k_a101, k_s101, k_a102, k_s102, k_u_s, k_u_n, k_u_u, Nat.reduceEqDiff, not_false_eq_true, qS_nop, qS_seq, qS_set, qS_setJ, qS_if, qS_brk, qS_ret, qS_retV, qS_throw, qS_inc, qS_cl, qS_ast, qS_aop, qS_fst, qS_fop, qS_sw, qT_eC, qT_eCB, qT_eL, qT_eLJ, qT_eLR, qT_eLB, qT_e1, qT_e2, qT_bCmp, qT_bCmpJ, qT_bAnd, qT_bOr, qT_bNot, qT_eBI, qT_eIf, qT_eLd, qT_eLdR, qT_eLen, qT_eF, qT_eFR, qT_aN, qT_aS, qT_eCl, qT_eClR, qT_eClB, qT_some, qT_x, z_nx_N, z_nx_B, z_nx_R, z_nx_X, z_bk_N, z_bk_B, z_bk_R, z_bk_X, oAdd, oSub, oMul, oNeg, cLt, cLe, cGt, cGe, cEq, cNe, Option.some.injEq, Sum.inl.injEq, Sum.inr.injEq, Prod.mk.injEq, exists_eq_left, exists_eq_left', exists_eq_right, exists_and_left, reduceCtorEq, and_true, true_and, and_false, false_and, List.getElem?_cons_zero, List.getElem?_cons_succ, List.set_cons_zero, List.set_cons_succ, List.replicate, List.length_cons, List.length_nil, List.cons_append, List.nil_append, Nat.reduceAdd, Nat.reduceSub, decide_eq_true_eq, decide_eq_false_iff_not, Bool.true_eq_false, Bool.false_eq_true, true_implies, false_implies, implies_true, Nat.reduceLT, exists_const, z_vB_inj, and_assoc, z_in_iff, oI2L, oL2I, Int.toNat_natCast, z_toNat0, Bool.not_eq_true', Bool.not_eq_false', ne_eq, Bool.not_true, Bool.not_false, Nat.add_zero, Int.add_zero, z_sl_s]
      (repeat' (first | apply And.intro | intro _)) <;> first | omega | rfl | grind
  · refine fin (B.tdiv D) (k_u S 45 (z_up (z_up (S 45) 0 (A.tdiv D)) 1 (B.tdiv D))) (fun q hq => k_u_n (fun e => hq (by subst e; unfold kFree; omega))) ?_ (fun T g g1 g2 g3 g4 g5 g6 => ?_)
    · unfold m_X5_root
      rw [k_v0]
      apply q_body
      have b6 : INF = 1000000 := rfl
      simp only [b_X5_root, c0, k_o0, k_a1, a1, s1, c1, c2, c9', qS_nop, qS_seq, qS_set, qS_setJ, qS_if, qS_brk, qS_ret, qS_retV, qS_throw, qS_inc, qS_cl, qS_ast, qS_aop, qS_fst, qS_fop, qS_sw, qT_eC, qT_eCB, qT_eL, qT_eLJ, qT_eLR, qT_eLB, qT_e1, qT_e2, qT_bCmp, qT_bCmpJ, qT_bAnd, qT_bOr, qT_bNot, qT_eBI, qT_eIf, qT_eLd, qT_eLdR, qT_eLen, qT_eF, qT_eFR, qT_aN, qT_aS, qT_eCl, qT_eClR, qT_eClB, qT_some, qT_x, z_nx_N, z_nx_B, z_nx_R, z_nx_X, z_bk_N, z_bk_B, z_bk_R, z_bk_X, oAdd, oSub, oMul, oNeg, cLt, cLe, cGt, cGe, cEq, cNe, Option.some.injEq, Sum.inl.injEq, Sum.inr.injEq, Prod.mk.injEq, exists_eq_left, exists_eq_left', exists_eq_right, exists_and_left, reduceCtorEq, and_true, true_and, and_false, false_and, List.getElem?_cons_zero, List.getElem?_cons_succ, List.set_cons_zero, List.set_cons_succ, List.replicate, List.length_cons, List.length_nil, List.cons_append, List.nil_append, Nat.reduceAdd, Nat.reduceSub, decide_eq_true_eq, decide_eq_false_iff_not, Bool.true_eq_false, Bool.false_eq_true, true_implies, false_implies, implies_true, Nat.reduceLT, exists_const, z_vB_inj, and_assoc, z_in_iff, oI2L, oL2I, Int.toNat_natCast, z_toNat0, Bool.not_eq_true', Bool.not_eq_false', ne_eq, Bool.not_true, Bool.not_false, Nat.add_zero, Int.add_zero, z_sl_s]
      repeat (refine And.intro (by omega) ?_)
      refine qS_for (fun k => [vR 0, vI (i : Int), vI (a : Int), vI 1, vR (49 + 9 * i), vI (cNo F (N - 1 - k) : Int), vI (k : Int)]) (fun _ => k_W S) (fun _ => True) a rfl rfl trivial (by omega) ?_ ?_
      · intro k hk _
        have e := body k hk
        simp only [e, qS_nop, qS_seq, qS_set, qS_setJ, qS_if, qS_brk, qS_ret, qS_retV, qS_throw, qS_inc, qS_cl, qS_ast, qS_aop, qS_fst, qS_fop, qS_sw, qT_eC, qT_eCB, qT_eL, qT_eLJ, qT_eLR, qT_eLB, qT_e1, qT_e2, qT_bCmp, qT_bCmpJ, qT_bAnd, qT_bOr, qT_bNot, qT_eBI, qT_eIf, qT_eLd, qT_eLdR, qT_eLen, qT_eF, qT_eFR, qT_aN, qT_aS, qT_eCl, qT_eClR, qT_eClB, qT_some, qT_x, z_nx_N, z_nx_B, z_nx_R, z_nx_X, z_bk_N, z_bk_B, z_bk_R, z_bk_X, oAdd, oSub, oMul, oNeg, cLt, cLe, cGt, cGe, cEq, cNe, Option.some.injEq, Sum.inl.injEq, Sum.inr.injEq, Prod.mk.injEq, exists_eq_left, exists_eq_left', exists_eq_right, exists_and_left, reduceCtorEq, and_true, true_and, and_false, false_and, List.getElem?_cons_zero, List.getElem?_cons_succ, List.set_cons_zero, List.set_cons_succ, List.replicate, List.length_cons, List.length_nil, List.cons_append, List.nil_append, Nat.reduceAdd, Nat.reduceSub, decide_eq_true_eq, decide_eq_false_iff_not, Bool.true_eq_false, Bool.false_eq_true, true_implies, false_implies, implies_true, Nat.reduceLT, exists_const, z_vB_inj, and_assoc, z_in_iff, oI2L, oL2I, Int.toNat_natCast, z_toNat0, Bool.not_eq_true', Bool.not_eq_false', ne_eq, Bool.not_true, Bool.not_false, Nat.add_zero, Int.add_zero, z_sl_s]
        (repeat' (first | apply And.intro | intro _)) <;> first | omega | rfl | grind
      · intro _
        have n02 : ¬ ((0 : Int) = 2) := by decide
        have n12 : ¬ ((1 : Int) = 2) := by decide
        have n10 : ¬ ((1 : Int) = 0) := by decide
        have u1 : ∀ f : Nat → Int, ∀ p q : Int, z_up (z_up f 0 p) 1 q 0 = p := fun _ _ _ => rfl
        have u2 : ∀ f : Nat → Int, ∀ p q : Int, z_up (z_up f 0 p) 1 q 1 = q := fun _ _ _ => rfl
        simp only [← hy, cy, x0, k_o0, q_obj po, q_arr pc (by decide : 9 < 2147483648), hA', hB', fb, k_o45, k_u_s, u1, u2, n02, n12, n10, qS_nop, qS_seq, qS_set, qS_setJ, qS_if, qS_brk, qS_ret, qS_retV, qS_throw, qS_inc, qS_cl, qS_ast, qS_aop, qS_fst, qS_fop, qS_sw, qT_eC, qT_eCB, qT_eL, qT_eLJ, qT_eLR, qT_eLB, qT_e1, qT_e2, qT_bCmp, qT_bCmpJ, qT_bAnd, qT_bOr, qT_bNot, qT_eBI, qT_eIf, qT_eLd, qT_eLdR, qT_eLen, qT_eF, qT_eFR, qT_aN, qT_aS, qT_eCl, qT_eClR, qT_eClB, qT_some, qT_x, z_nx_N, z_nx_B, z_nx_R, z_nx_X, z_bk_N, z_bk_B, z_bk_R, z_bk_X, oAdd, oSub, oMul, oNeg, cLt, cLe, cGt, cGe, cEq, cNe, Option.some.injEq, Sum.inl.injEq, Sum.inr.injEq, Prod.mk.injEq, exists_eq_left, exists_eq_left', exists_eq_right, exists_and_left, reduceCtorEq, and_true, true_and, and_false, false_and, List.getElem?_cons_zero, List.getElem?_cons_succ, List.set_cons_zero, List.set_cons_succ, List.replicate, List.length_cons, List.length_nil, List.cons_append, List.nil_append, Nat.reduceAdd, Nat.reduceSub, decide_eq_true_eq, decide_eq_false_iff_not, Bool.true_eq_false, Bool.false_eq_true, true_implies, false_implies, implies_true, Nat.reduceLT, exists_const, z_vB_inj, and_assoc, z_in_iff, oI2L, oL2I, Int.toNat_natCast, z_toNat0, Bool.not_eq_true', Bool.not_eq_false', ne_eq, Bool.not_true, Bool.not_false, Nat.add_zero, Int.add_zero, z_sl_s]
        (repeat' (first | apply And.intro | intro _)) <;> first | omega | rfl | grind
    · have o1 := rf_of (S := T) h_i xb.1
      have o2 := rf_of (S := T) h_i yb.1
      rw [g6] at o1 o2
      have hA2 : rP S i x - rP S i y = A := hA.symm
      have n02 : ¬ ((0 : Int) = 2) := by decide
      have n21 : ¬ ((2 : Int) = 1) := by decide
      have n20 : ¬ ((2 : Int) = 0) := by decide
      have n10 : ¬ ((1 : Int) = 0) := by decide
      unfold m_X6_root
      rw [k_v85]
      apply q_body
      have b6 : INF = 1000000 := rfl
      simp only [b_X6_root, r0, g1, r1, r2, g2, g3, t1, t2, g4, g5, o1, o2, hA2, hB', rc, dA, dB, n02, n21, n20, n10, z_vB1, z_vB0, if_true, if_false, not_true_eq_false, not_false_eq_true, k_t_n, k_t_1, exists_eq, k_v85, k_o85, k_r0, k_r1, k_r2, k_r3, k_r4, k_r5, k_r6, k_r7, k_r8, k_r9, k_r10, k_r11, k_r12, k_r13, k_r14, k_r15, k_r16, k_r17, k_r18, k_rl, k_sc, k_st, k_a86, k_s86, k_a87, k_s87, k_a88, k_s88, k_a89, k_s89, k_a90, k_s90, k_a91, k_s91, k_a92, k_s92, k_a93, k_s93, k_a94, k_s94, k_a95, k_s95, k_a96, k_s96, k_a97, k_s97, k_a98, k_s98, k_a99, k_s99, k_a100, k_s100, k_a101, k_s101, k_a102, k_s102, k_u_s, k_u_n, k_u_u, Nat.reduceEqDiff, not_false_eq_true, qS_nop, qS_seq, qS_set, qS_setJ, qS_if, qS_brk, qS_ret, qS_retV, qS_throw, qS_inc, qS_cl, qS_ast, qS_aop, qS_fst, qS_fop, qS_sw, qT_eC, qT_eCB, qT_eL, qT_eLJ, qT_eLR, qT_eLB, qT_e1, qT_e2, qT_bCmp, qT_bCmpJ, qT_bAnd, qT_bOr, qT_bNot, qT_eBI, qT_eIf, qT_eLd, qT_eLdR, qT_eLen, qT_eF, qT_eFR, qT_aN, qT_aS, qT_eCl, qT_eClR, qT_eClB, qT_some, qT_x, z_nx_N, z_nx_B, z_nx_R, z_nx_X, z_bk_N, z_bk_B, z_bk_R, z_bk_X, oAdd, oSub, oMul, oNeg, cLt, cLe, cGt, cGe, cEq, cNe, Option.some.injEq, Sum.inl.injEq, Sum.inr.injEq, Prod.mk.injEq, exists_eq_left, exists_eq_left', exists_eq_right, exists_and_left, reduceCtorEq, and_true, true_and, and_false, false_and, List.getElem?_cons_zero, List.getElem?_cons_succ, List.set_cons_zero, List.set_cons_succ, List.replicate, List.length_cons, List.length_nil, List.cons_append, List.nil_append, Nat.reduceAdd, Nat.reduceSub, decide_eq_true_eq, decide_eq_false_iff_not, Bool.true_eq_false, Bool.false_eq_true, true_implies, false_implies, implies_true, Nat.reduceLT, exists_const, z_vB_inj, and_assoc, z_in_iff, oI2L, oL2I, Int.toNat_natCast, z_toNat0, Bool.not_eq_true', Bool.not_eq_false', ne_eq, Bool.not_true, Bool.not_false, Nat.add_zero, Int.add_zero, z_sl_s]
      (repeat' (first | apply And.intro | intro _)) <;> first | omega | rfl | grind
  · refine fin (B) (S) (fun q hq => rfl) ?_ (fun T g g1 g2 g3 g4 g5 g6 => ?_)
    · unfold m_X5_root
      rw [k_v0]
      apply q_body
      have b6 : INF = 1000000 := rfl
      simp only [b_X5_root, c0, k_o0, k_a1, a1, s1, c1, c2, c9', qS_nop, qS_seq, qS_set, qS_setJ, qS_if, qS_brk, qS_ret, qS_retV, qS_throw, qS_inc, qS_cl, qS_ast, qS_aop, qS_fst, qS_fop, qS_sw, qT_eC, qT_eCB, qT_eL, qT_eLJ, qT_eLR, qT_eLB, qT_e1, qT_e2, qT_bCmp, qT_bCmpJ, qT_bAnd, qT_bOr, qT_bNot, qT_eBI, qT_eIf, qT_eLd, qT_eLdR, qT_eLen, qT_eF, qT_eFR, qT_aN, qT_aS, qT_eCl, qT_eClR, qT_eClB, qT_some, qT_x, z_nx_N, z_nx_B, z_nx_R, z_nx_X, z_bk_N, z_bk_B, z_bk_R, z_bk_X, oAdd, oSub, oMul, oNeg, cLt, cLe, cGt, cGe, cEq, cNe, Option.some.injEq, Sum.inl.injEq, Sum.inr.injEq, Prod.mk.injEq, exists_eq_left, exists_eq_left', exists_eq_right, exists_and_left, reduceCtorEq, and_true, true_and, and_false, false_and, List.getElem?_cons_zero, List.getElem?_cons_succ, List.set_cons_zero, List.set_cons_succ, List.replicate, List.length_cons, List.length_nil, List.cons_append, List.nil_append, Nat.reduceAdd, Nat.reduceSub, decide_eq_true_eq, decide_eq_false_iff_not, Bool.true_eq_false, Bool.false_eq_true, true_implies, false_implies, implies_true, Nat.reduceLT, exists_const, z_vB_inj, and_assoc, z_in_iff, oI2L, oL2I, Int.toNat_natCast, z_toNat0, Bool.not_eq_true', Bool.not_eq_false', ne_eq, Bool.not_true, Bool.not_false, Nat.add_zero, Int.add_zero, z_sl_s]
      repeat (refine And.intro (by omega) ?_)
      refine qS_for (fun k => [vR 0, vI (i : Int), vI (a : Int), vI 2, vR (49 + 9 * i), vI (cNo F (N - 1 - k) : Int), vI (k : Int)]) (fun _ => k_W S) (fun _ => True) a rfl rfl trivial (by omega) ?_ ?_
      · intro k hk _
        have e := body k hk
        simp only [e, qS_nop, qS_seq, qS_set, qS_setJ, qS_if, qS_brk, qS_ret, qS_retV, qS_throw, qS_inc, qS_cl, qS_ast, qS_aop, qS_fst, qS_fop, qS_sw, qT_eC, qT_eCB, qT_eL, qT_eLJ, qT_eLR, qT_eLB, qT_e1, qT_e2, qT_bCmp, qT_bCmpJ, qT_bAnd, qT_bOr, qT_bNot, qT_eBI, qT_eIf, qT_eLd, qT_eLdR, qT_eLen, qT_eF, qT_eFR, qT_aN, qT_aS, qT_eCl, qT_eClR, qT_eClB, qT_some, qT_x, z_nx_N, z_nx_B, z_nx_R, z_nx_X, z_bk_N, z_bk_B, z_bk_R, z_bk_X, oAdd, oSub, oMul, oNeg, cLt, cLe, cGt, cGe, cEq, cNe, Option.some.injEq, Sum.inl.injEq, Sum.inr.injEq, Prod.mk.injEq, exists_eq_left, exists_eq_left', exists_eq_right, exists_and_left, reduceCtorEq, and_true, true_and, and_false, false_and, List.getElem?_cons_zero, List.getElem?_cons_succ, List.set_cons_zero, List.set_cons_succ, List.replicate, List.length_cons, List.length_nil, List.cons_append, List.nil_append, Nat.reduceAdd, Nat.reduceSub, decide_eq_true_eq, decide_eq_false_iff_not, Bool.true_eq_false, Bool.false_eq_true, true_implies, false_implies, implies_true, Nat.reduceLT, exists_const, z_vB_inj, and_assoc, z_in_iff, oI2L, oL2I, Int.toNat_natCast, z_toNat0, Bool.not_eq_true', Bool.not_eq_false', ne_eq, Bool.not_true, Bool.not_false, Nat.add_zero, Int.add_zero, z_sl_s]
        (repeat' (first | apply And.intro | intro _)) <;> first | omega | rfl | grind
      · intro _
        have n02 : ¬ ((0 : Int) = 2) := by decide
        have n12 : ¬ ((1 : Int) = 2) := by decide
        have n10 : ¬ ((1 : Int) = 0) := by decide
        have u1 : ∀ f : Nat → Int, ∀ p q : Int, z_up (z_up f 0 p) 1 q 0 = p := fun _ _ _ => rfl
        have u2 : ∀ f : Nat → Int, ∀ p q : Int, z_up (z_up f 0 p) 1 q 1 = q := fun _ _ _ => rfl
        simp only [← hy, cy, x0, k_o0, q_obj po, q_arr pc (by decide : 9 < 2147483648), hA', hB', fb, k_o45, k_u_s, u1, u2, n02, n12, n10, qS_nop, qS_seq, qS_set, qS_setJ, qS_if, qS_brk, qS_ret, qS_retV, qS_throw, qS_inc, qS_cl, qS_ast, qS_aop, qS_fst, qS_fop, qS_sw, qT_eC, qT_eCB, qT_eL, qT_eLJ, qT_eLR, qT_eLB, qT_e1, qT_e2, qT_bCmp, qT_bCmpJ, qT_bAnd, qT_bOr, qT_bNot, qT_eBI, qT_eIf, qT_eLd, qT_eLdR, qT_eLen, qT_eF, qT_eFR, qT_aN, qT_aS, qT_eCl, qT_eClR, qT_eClB, qT_some, qT_x, z_nx_N, z_nx_B, z_nx_R, z_nx_X, z_bk_N, z_bk_B, z_bk_R, z_bk_X, oAdd, oSub, oMul, oNeg, cLt, cLe, cGt, cGe, cEq, cNe, Option.some.injEq, Sum.inl.injEq, Sum.inr.injEq, Prod.mk.injEq, exists_eq_left, exists_eq_left', exists_eq_right, exists_and_left, reduceCtorEq, and_true, true_and, and_false, false_and, List.getElem?_cons_zero, List.getElem?_cons_succ, List.set_cons_zero, List.set_cons_succ, List.replicate, List.length_cons, List.length_nil, List.cons_append, List.nil_append, Nat.reduceAdd, Nat.reduceSub, decide_eq_true_eq, decide_eq_false_iff_not, Bool.true_eq_false, Bool.false_eq_true, true_implies, false_implies, implies_true, Nat.reduceLT, exists_const, z_vB_inj, and_assoc, z_in_iff, oI2L, oL2I, Int.toNat_natCast, z_toNat0, Bool.not_eq_true', Bool.not_eq_false', ne_eq, Bool.not_true, Bool.not_false, Nat.add_zero, Int.add_zero, z_sl_s]
        (repeat' (first | apply And.intro | intro _)) <;> first | omega | rfl | grind
    · have o1 := rf_of (S := T) h_i xb.1
      have o2 := rf_of (S := T) h_i yb.1
      rw [g6] at o1 o2
      have hA2 : rP S i x - rP S i y = A := hA.symm
      have n02 : ¬ ((0 : Int) = 2) := by decide
      have n21 : ¬ ((2 : Int) = 1) := by decide
      have n20 : ¬ ((2 : Int) = 0) := by decide
      have n10 : ¬ ((1 : Int) = 0) := by decide
      unfold m_X6_root
      rw [k_v85]
      apply q_body
      have b6 : INF = 1000000 := rfl
      simp only [b_X6_root, r0, g1, r1, r2, g2, g3, t1, t2, g4, g5, o1, o2, hA2, hB', rc, dA, dB, n02, n21, n20, n10, z_vB1, z_vB0, if_true, if_false, not_true_eq_false, not_false_eq_true, k_t_n, k_t_1, exists_eq, k_v85, k_o85, k_r0, k_r1, k_r2, k_r3, k_r4, k_r5, k_r6, k_r7, k_r8, k_r9, k_r10, k_r11, k_r12, k_r13, k_r14, k_r15, k_r16, k_r17, k_r18, k_rl, k_sc, k_st, k_a86, k_s86, k_a87, k_s87, k_a88, k_s88, k_a89, k_s89, k_a90, k_s90, k_a91, k_s91, k_a92, k_s92, k_a93, k_s93, k_a94, k_s94, k_a95, k_s95, k_a96, k_s96, k_a97, k_s97, k_a98, k_s98, k_a99, k_s99, k_a100, k_s100, k_a101, k_s101, k_a102, k_s102, k_u_s, k_u_n, k_u_u, Nat.reduceEqDiff, not_false_eq_true, qS_nop, qS_seq, qS_set, qS_setJ, qS_if, qS_brk, qS_ret, qS_retV, qS_throw, qS_inc, qS_cl, qS_ast, qS_aop, qS_fst, qS_fop, qS_sw, qT_eC, qT_eCB, qT_eL, qT_eLJ, qT_eLR, qT_eLB, qT_e1, qT_e2, qT_bCmp, qT_bCmpJ, qT_bAnd, qT_bOr, qT_bNot, qT_eBI, qT_eIf, qT_eLd, qT_eLdR, qT_eLen, qT_eF, qT_eFR, qT_aN, qT_aS, qT_eCl, qT_eClR, qT_eClB, qT_some, qT_x, z_nx_N, z_nx_B, z_nx_R, z_nx_X, z_bk_N, z_bk_B, z_bk_R, z_bk_X, oAdd, oSub, oMul, oNeg, cLt, cLe, cGt, cGe, cEq, cNe, Option.some.injEq, Sum.inl.injEq, Sum.inr.injEq, Prod.mk.injEq, exists_eq_left, exists_eq_left', exists_eq_right, exists_and_left, reduceCtorEq, and_true, true_and, and_false, false_and, List.getElem?_cons_zero, List.getElem?_cons_succ, List.set_cons_zero, List.set_cons_succ, List.replicate, List.length_cons, List.length_nil, List.cons_append, List.nil_append, Nat.reduceAdd, Nat.reduceSub, decide_eq_true_eq, decide_eq_false_iff_not, Bool.true_eq_false, Bool.false_eq_true, true_implies, false_implies, implies_true, Nat.reduceLT, exists_const, z_vB_inj, and_assoc, z_in_iff, oI2L, oL2I, Int.toNat_natCast, z_toNat0, Bool.not_eq_true', Bool.not_eq_false', ne_eq, Bool.not_true, Bool.not_false, Nat.add_zero, Int.add_zero, z_sl_s]
      (repeat' (first | apply And.intro | intro _)) <;> first | omega | rfl | grind

end FR2
