/-! THE LAW: matrices, all of it -/
section LMM
variable {X : z_Hp} {S : Nat → Nat → Int}
theorem mC_R (M : Nat → Nat → Int) {n : Nat} (hn : n ≤ 5) : 0 ≤ mC M n n ∧ kR (mC M n n) := by
  have b := mC_b M n n
  have : (n : Int) * n ≤ 25 := by
    have := Nat.mul_le_mul hn hn
    have e := n_sqi n
    omega
  exact ⟨b.1, ⟨by omega, by omega⟩⟩
theorem cut_b {c : Int} {A : Nat → Nat → Int} {n : Nat} (h : mB c A n) (hc : c ≤ 99999) : ∀ i j, i < 5 → j < 5 → cut A n i j = INF ∨ (-99999 ≤ cut A n i j ∧ cut A n i j ≤ 99999) := fun i j _ _ => by
  unfold cut
  split
  · next q =>
    have := h i j q.1 q.2
    unfold eB at this
    omega
  · exact Or.inl rfl
theorem mB.of {lo : Int} {many n : Nat} {A : Nat → Nat → Int} (h : ∀ x y, x < n → y < n → A x y = INF ∨ (lo ≤ A x y ∧ A x y < lo + many)) (h1 : -100 ≤ lo ∧ lo ≤ 0) (h2 : many ≤ 100) : mB 100 A n := fun i j hi hj => by
  have := h i j hi hj
  unfold eB
  omega
theorem f_lmat (I : cInv S) (sc : List Int) (hl : sc.length < 2147483648) {a : Nat} (ha : a < 10000) : ∃ S', m_L_matrices sc [vR 0, vS, vI (a : Int)] (k_W X S) = some (.inl (some (vB true)), k_W X S') ∧ cInv S' := by
  have b6 : INF = 1000000 := rfl
  obtain ⟨d, d1, d2⟩ := dr_n sc hl (k := (a : Int)) (most := 5) ⟨by omega, by omega⟩ (by decide)
  obtain ⟨n, hn⟩ : ∃ n, n = d + 1 := ⟨_, rfl⟩
  have nb : 1 ≤ n ∧ n ≤ 5 := by omega
  have en : (1 : Int) + (d : Int) = (n : Int) := by omega
  have d3 : ∀ h, m_L_draw sc [wS (), vI (a : Int), vI 5] h = some (.inl (some (vI (d : Int))), h) := d2
  obtain ⟨T1, f1, s1, v1, r1, I1⟩ := f_fills (X := X) I sc hl (m := 0) (n := n) (at' := a + 1) (low := -6) (many := 40) (by decide) nb (by omega) (by decide) (by decide)
  obtain ⟨T2, f2, s2, v2, r2, I2⟩ := f_fills (X := X) I1 sc hl (m := 1) (n := n) (at' := a + 26) (low := -20) (many := 60) (by decide) nb (by omega) (by decide) (by decide)
  obtain ⟨T3, f3, s3, v3, r3, I3⟩ := f_fills (X := X) I2 sc hl (m := 2) (n := n) (at' := a + 51) (low := -3) (many := 9) (by decide) nb (by omega) (by decide) (by decide)
  obtain ⟨A, hA⟩ : ∃ A, A = cM T1 0 := ⟨_, rfl⟩
  obtain ⟨B, hB⟩ : ∃ B, B = cM T2 1 := ⟨_, rfl⟩
  obtain ⟨C, hC⟩ : ∃ C, C = cM T3 2 := ⟨_, rfl⟩
  have a1 : lM T1 0 n A := ⟨s1, fun _ _ _ _ => by rw [hA]⟩
  have a2 := a1.fr r2 (by decide) (fun a _ _ => by unfold cMx; omega)
  have a3 := a2.fr r3 (by decide) (fun a _ _ => by unfold cMx; omega)
  have b2 : lM T2 1 n B := ⟨s2, fun _ _ _ _ => by rw [hB]⟩
  have b3 := b2.fr r3 (by decide) (fun a _ _ => by unfold cMx; omega)
  have c3 : lM T3 2 n C := ⟨s3, fun _ _ _ _ => by rw [hC]⟩
  have mA : mB 100 A n := by rw [hA]; exact mB.of v1 (by decide) (by decide)
  have mBB : mB 100 B n := by rw [hB]; exact mB.of v2 (by decide) (by decide)
  have mCC : mB 100 C n := by rw [hC]; exact mB.of v3 (by decide) (by decide)
  clear v1 v2 v3 s1 s2 s3
  have mAB := mA.mul mBB
  have mABC := mAB.mul mCC
  have mBC := mBB.mul mCC
  have mA_BC := mA.mul mBC
  have no : ∀ i a, 51 + 9 * i ≤ a → a ≤ 57 + 9 * i → ¬ False := fun _ _ _ _ => id
  have ndr : ∀ i : Nat, ∀ a, 51 + 9 * i ≤ a → a ≤ 57 + 9 * i → ¬ (30 ≤ a ∧ a ≤ 43) := fun _ _ _ _ => by omega
  -- the determinants
  obtain ⟨T4, e4, r4, k4, I4⟩ := g_det (X := X) I3 (i := 0) (by decide) nb a3
  have a4 := a3.fr r4 (by decide) (no 0)
  have b4 := b3.fr r4 (by decide) (no 1)
  have c4 := c3.fr r4 (by decide) (no 2)
  obtain ⟨T5, e5, r5, k5, I5⟩ := g_det (X := X) I4 (i := 1) (by decide) nb b4
  have a5 := a4.fr r5 (by decide) (no 0)
  have b5 := b4.fr r5 (by decide) (no 1)
  have c5 := c4.fr r5 (by decide) (no 2)
  -- products
  obtain ⟨T6, e6, m6, r6, I6⟩ := g_mul (X := X) I5 (i := 0) (j := 1) (l := 3) (by decide) (by decide) (by decide) a5 b5 (mA.to (by decide)) (mBB.to (by decide))
  have a6 := a5.fr r6 (by decide) (fun a _ _ => by unfold cMD; omega)
  have b6' := b5.fr r6 (by decide) (fun a _ _ => by unfold cMD; omega)
  have c6 := c5.fr r6 (by decide) (fun a _ _ => by unfold cMD; omega)
  obtain ⟨T7, e7, r7, k7, I7⟩ := g_det (X := X) I6 (i := 3) (by decide) nb m6
  have a7 := a6.fr r7 (by decide) (no 0)
  have b7 := b6'.fr r7 (by decide) (no 1)
  have c7 := c6.fr r7 (by decide) (no 2)
  have m7 := m6.fr r7 (by decide) (no 3)
  obtain ⟨T8, e8, m8, r8, I8⟩ := g_mul (X := X) I7 (i := 3) (j := 2) (l := 3) (by decide) (by decide) (by decide) m7 c7 (mAB.to (by decide)) (mCC.to (by decide))
  have a8 := a7.fr r8 (by decide) (fun a _ _ => by unfold cMD; omega)
  have b8 := b7.fr r8 (by decide) (fun a _ _ => by unfold cMD; omega)
  have c8 := c7.fr r8 (by decide) (fun a _ _ => by unfold cMD; omega)
  obtain ⟨T9, e9, m9, r9, I9⟩ := g_mul (X := X) I8 (i := 1) (j := 2) (l := 1) (by decide) (by decide) (by decide) b8 c8 (mBB.to (by decide)) (mCC.to (by decide))
  have a9 := a8.fr r9 (by decide) (fun a _ _ => by unfold cMD; omega)
  have x9 := m8.fr r9 (by decide) (fun a _ _ => by unfold cMD; omega)
  obtain ⟨T10, e10, m10, r10, I10⟩ := g_mul (X := X) I9 (i := 0) (j := 1) (l := 1) (by decide) (by decide) (by decide) a9 m9 (mA.to (by decide)) (mBC.to (by decide))
  have a10 := a9.fr r10 (by decide) (fun a _ _ => by unfold cMD; omega)
  have x10 := x9.fr r10 (by decide) (fun a _ _ => by unfold cMD; omega)
  have l10 := g_like (X := X) I10 (a := 1) (b := 3) (by decide) (by decide) nb m10 x10 (fun x y hx hy => (mm_assoc (mA.to (by decide)) (mBB.to (by decide)) (mCC.to (by decide)) hx hy).symm)
  obtain ⟨T11, wy, e11, r11, k11, w11, I11⟩ := g_ways (X := X) I10 (i := 0) (by decide) nb a10
  have a11 := a10.fr r11 (by decide) (no 0)
  obtain ⟨T12, e12, -, r12, I12, k12, k12'⟩ := g_mean (X := X) I11 (i := 0) (by decide) nb a11
  have a12 := a11.fr r12 (by decide) (ndr 0)
  obtain ⟨T13, -, e13, r13, I13, -, -⟩ := g_mean (X := X) I12 (i := 0) (by decide) nb a12
  have a13 := a12.fr r13 (by decide) (ndr 0)
  have dle : dT (cut (mMul A B n) n) n ≤ z_plus (dT (cut A n) n) (dT (cut B n) n) := dT_mul nb.2 (cut_b mA (by decide)) (cut_b mBB (by decide)) (cut_b mAB (by decide)) (fun x y hx hy => by
    have e : ∀ M : Nat → Nat → Int, ∀ i j, i < n → j < n → cut M n i j = M i j := fun M i j hi hj => if_pos ⟨hi, hj⟩
    rw [e _ x y hx hy]
    exact mm_cg (fun i j hi hj => (e A i j hi hj).symm) (fun i j hi hj => (e B i j hi hj).symm) hx hy)
  have dA5 : kR (z_plus (dT (cut A n) n) (dT (cut B n) n)) := by
    have x := (dG_all nb.2 (cut_b mA (by decide)) 32 (2 ^ n - 1) (by have := p2_32 nb.2; omega) (by have := p2_32 nb.2; omega)).1
    have y := (dG_all nb.2 (cut_b mBB (by decide)) 32 (2 ^ n - 1) (by have := p2_32 nb.2; omega) (by have := p2_32 nb.2; omega)).1
    have p := p2_32 nb.2
    have nbl := nb_le ⟨2 ^ n - 1, by omega⟩
    simp only at nbl
    unfold dT z_plus
    split
    · exact ⟨by omega, by omega⟩
    · exact ⟨by omega, by omega⟩
  have pl := f_lplus k4 k5
  -- in the law's words
  have F1 : m_L_fills sc [vR 0, vI 0, vI (n : Int), wS (), vI ((a : Int) + 1), vI (-6), vI 40] (k_W X S) = some (.inl none, k_W X T1) := f1
  have F2 : m_L_fills sc [vR 0, vI 1, vI (n : Int), wS (), vI ((a : Int) + 26), vI (-20), vI 60] (k_W X T1) = some (.inl none, k_W X T2) := f2
  have F3 : m_L_fills sc [vR 0, vI 2, vI (n : Int), wS (), vI ((a : Int) + 51), vI (-3), vI 9] (k_W X T2) = some (.inl none, k_W X T3) := f3
  have E4 : m_X5_determinant [vR 0, vI 0] (k_W X T3) = some (.inl (some (vI (dT (cut A n) n))), k_W X T4) := e4
  have E5 : m_X5_determinant [vR 0, vI 1] (k_W X T4) = some (.inl (some (vI (dT (cut B n) n))), k_W X T5) := e5
  have E6 : m_L_asks [vR 0, vI 1, vI 0, vI 1, vI 3] (k_W X T5) = some (.inl (some (vI (mC (mMul A B n) n n))), k_W X T6) := f_asks1_ok e6
  have E7 : m_X5_determinant [vR 0, vI 3] (k_W X T6) = some (.inl (some (vI (dT (cut (mMul A B n) n) n))), k_W X T7) := e7
  have E8 : m_L_asks [vR 0, vI 1, vI 3, vI 2, vI 3] (k_W X T7) = some (.inl (some (vI (mC (mMul (mMul A B n) C n) n n))), k_W X T8) := f_asks1_ok e8
  have E9 : m_L_asks [vR 0, vI 1, vI 1, vI 2, vI 1] (k_W X T8) = some (.inl (some (vI (mC (mMul B C n) n n))), k_W X T9) := f_asks1_ok e9
  have E10 : m_L_asks [vR 0, vI 1, vI 0, vI 1, vI 1] (k_W X T9) = some (.inl (some (vI (mC (mMul A (mMul B C n) n) n n))), k_W X T10) := f_asks1_ok e10
  have L10 : m_L_isLike [vR 0, vI 1, vI 3, vI (n : Int)] (k_W X T10) = some (.inl (some (vB true)), k_W X T10) := l10
  have E11 : m_X5_ways [vR 0, vI 0] (k_W X T10) = some (.inl (some (vI wy)), k_W X T11) := e11
  have E12 : m_X5_mean [vR 0, vI 0, vI 0] (k_W X T11) = some (.inl (some (vI (fRd (fSt A n n)).1)), k_W X T12) := e12
  have E13 : m_X5_mean [vR 0, vI 0, vI 1] (k_W X T12) = some (.inl (some (vI (fRd (fSt A n n)).2)), k_W X T13) := e13
  have q6 := mC_R (mMul A B n) nb.2
  have q8 := mC_R (mMul (mMul A B n) C n) nb.2
  have q9 := mC_R (mMul B C n) nb.2
  have q10 := mC_R (mMul A (mMul B C n) n) nb.2
  have q6' := q6.1
  have q8' := q8.1
  have q9' := q9.1
  have q10' := q10.1
  -- as far as the star
  have sb : mB 600 (sP (wD A) n n) n := by
    have hD : mB 100 (wD A) n := fun i j hi hj => by
      have u := mA i j hi hj
      have v := mA i i hi hi
      unfold eB at *
      unfold wD
      (repeat' split) <;> omega
    refine (sP_mB hD n).to ?_
    have : (n : Int) ≤ 5 := by omega
    omega
  have mn := mean_neg (mA.to (show (100 : Int) ≤ 1000 by decide)) nb.2
  obtain ⟨T14, g1, g2⟩ := g_star (X := X) I13 (i := 0) (l := 1) (by decide) (by decide) a13 (sb.to (by decide)).w
  have first : ∀ (T' : Nat → Nat → Int), (qS (s_L_matrices_187 sc) [vR 0, vS, vI (a : Int), vI (n : Int), vI (dT (cut A n) n), vI (dT (cut B n) n), vB true, vI (fRd (fSt A n n)).1, vI (fRd (fSt A n n)).2, vU, vU] (k_W X T13) (fun oc h1 => oc = oR (some (vB true)) ∧ h1 = k_W X T') ↔ True) → m_L_matrices sc [vR 0, vS, vI (a : Int)] (k_W X S) = some (.inl (some (vB true)), k_W X T') := fun T' H => by
    have hc : (dT (cut A n) n = 1000000 ∧ wy = 0) ∨ (¬ dT (cut A n) n = 1000000 ∧ ¬ wy = 0) := by
      by_cases c : dT (cut A n) n = 1000000
      · exact Or.inl ⟨c, w11.mpr c⟩
      · exact Or.inr ⟨c, fun w => c (w11.mp w)⟩
    unfold m_L_matrices
    apply q_body
    have b6 : INF = 1000000 := rfl
    generalize (fRd (fSt A n n)).1 = ov at *
    generalize (fRd (fSt A n n)).2 = un at *
    generalize dT (cut A n) n = one at *
    generalize dT (cut B n) n = two at *
    generalize dT (cut (mMul A B n) n) n = thr at *
    generalize z_plus one two = pls at *
    simp only [b_L_matrices, s_L_matrices_9, s_L_matrices_23, s_L_matrices_38, s_L_matrices_53, s_L_matrices_60, s_L_matrices_67, s_L_matrices_171, s_L_matrices_179, d3, en, F1, F2, F3, E4, E5, E6, E7, E8, E9, E10, L10, E11, E12, E13, q6', q8', q9', q10', dle, pl, z_vB1, z_vB0, if_true, if_false, not_true_eq_false, not_false_eq_true, exists_eq, qS_nop, qS_seq, qS_set, qS_setJ, qS_if, qS_brk, qS_ret, qS_retV, qS_throw, qS_inc, qS_cl, qS_ast, qS_aop, qS_fst, qS_fop, qS_sw, qT_eC, qT_eCB, qT_eL, qT_eLJ, qT_eLR, qT_eLS, qT_eSLen, qT_eSLd, qT_eLB, qT_e1, qT_e2, qT_bCmp, qT_bCmpJ, qT_bAnd, qT_bOr, qT_bNot, qT_eBI, qT_eIf, qT_eLd, qT_eLdR, qT_eLen, qT_eF, qT_eFR, qT_aN, qT_aS, qT_eCl, qT_eClR, qT_eClB, qT_some, qT_x, z_nx_N, z_nx_B, z_nx_R, z_nx_X, z_bk_N, z_bk_B, z_bk_R, z_bk_X, oAdd, oSub, oMul, oNeg, cLt, cLe, cGt, cGe, cEq, cNe, Option.some.injEq, Sum.inl.injEq, Sum.inr.injEq, Prod.mk.injEq, exists_eq_left, exists_eq_left', exists_eq_right, exists_and_left, reduceCtorEq, and_true, true_and, and_false, false_and, List.getElem?_cons_zero, List.getElem?_cons_succ, List.set_cons_zero, List.set_cons_succ, List.replicate, List.length_cons, List.length_nil, List.cons_append, List.nil_append, Nat.reduceAdd, Nat.reduceSub, decide_eq_true_eq, decide_eq_false_iff_not, Bool.true_eq_false, Bool.false_eq_true, true_implies, false_implies, implies_true, Nat.reduceLT, exists_const, z_vB_inj, and_assoc, z_in_iff, oI2L, oL2I, Int.toNat_natCast, z_toNat0, Bool.not_eq_true', Bool.not_eq_false', ne_eq, Bool.not_true, Bool.not_false, Nat.add_zero, Int.add_zero, z_sl_s]
    rcases hc with ⟨c1, c2⟩ | ⟨c1, c2⟩
    · simp only [c1, c2, if_true, decide_true, H, and_true]
      rw [c1] at H
      simp only [H, and_true]
      omega
    · simp only [c1, c2, if_false, decide_true, H, and_true]
      omega
  have hWA : mWi A n := fun i j hi hj => by
    have := mA i j hi hj
    unfold eB at this
    omega
  have hD := wD_ok hWA
  have fb := fSt_b nb.2 hWA n (Nat.le_refl n)
  have sg := fRd_sg _ fb.2.1
  by_cases Q : ∀ x, x < n → 0 ≤ sP (wD A) n n x x
  rotate_left
  · obtain ⟨s14, r14, I14⟩ := g1 Q
    have E14 : m_L_asks [vR 0, vI 2, vI 0, vI 1, vI 0] (k_W X T13) = some (.inl (some (vI (-70008))), k_W X T14) := f_asks2_is s14
    have h1 := mn.mp Q
    have h2 := sg.2 (sg.1.mp h1)
    refine ⟨T14, first T14 (iff_true_intro ?_), I14⟩
    have n7 : (-70008 : Int) < 0 := by decide
    simp only [s_L_matrices_187, s_L_matrices_197, E14, h1, h2, n7, z_vB1, z_vB0, if_true, if_false, not_true_eq_false, not_false_eq_true, exists_eq, qS_nop, qS_seq, qS_set, qS_setJ, qS_if, qS_brk, qS_ret, qS_retV, qS_throw, qS_inc, qS_cl, qS_ast, qS_aop, qS_fst, qS_fop, qS_sw, qT_eC, qT_eCB, qT_eL, qT_eLJ, qT_eLR, qT_eLS, qT_eSLen, qT_eSLd, qT_eLB, qT_e1, qT_e2, qT_bCmp, qT_bCmpJ, qT_bAnd, qT_bOr, qT_bNot, qT_eBI, qT_eIf, qT_eLd, qT_eLdR, qT_eLen, qT_eF, qT_eFR, qT_aN, qT_aS, qT_eCl, qT_eClR, qT_eClB, qT_some, qT_x, z_nx_N, z_nx_B, z_nx_R, z_nx_X, z_bk_N, z_bk_B, z_bk_R, z_bk_X, oAdd, oSub, oMul, oNeg, cLt, cLe, cGt, cGe, cEq, cNe, Option.some.injEq, Sum.inl.injEq, Sum.inr.injEq, Prod.mk.injEq, exists_eq_left, exists_eq_left', exists_eq_right, exists_and_left, reduceCtorEq, and_true, true_and, and_false, false_and, List.getElem?_cons_zero, List.getElem?_cons_succ, List.set_cons_zero, List.set_cons_succ, List.replicate, List.length_cons, List.length_nil, List.cons_append, List.nil_append, Nat.reduceAdd, Nat.reduceSub, decide_eq_true_eq, decide_eq_false_iff_not, Bool.true_eq_false, Bool.false_eq_true, true_implies, false_implies, implies_true, Nat.reduceLT, exists_const, z_vB_inj, and_assoc, z_in_iff, oI2L, oL2I, Int.toNat_natCast, z_toNat0, Bool.not_eq_true', Bool.not_eq_false', ne_eq, Bool.not_true, Bool.not_false, Nat.add_zero, Int.add_zero, z_sl_s]
    omega
  obtain ⟨s14, m14, r14, I14⟩ := g2 Q
  obtain ⟨Z, hZ⟩ : ∃ Z, Z = sP (wD A) n n := ⟨_, rfl⟩
  rw [← hZ] at s14 m14 sb
  have tZ : tS Z n := by
    rw [hZ] at sb ⊢
    exact star_tS hD nb.2 Q (sb.to (by decide))
  have a14 := a13.fr r14 (by decide) (fun a _ _ => by unfold cMD; omega)
  obtain ⟨T15, e15, m15, r15, I15⟩ := g_mul (X := X) I14 (i := 1) (j := 1) (l := 3) (by decide) (by decide) (by decide) m14 m14 (sb.to (by decide)) (sb.to (by decide))
  rw [mC_cg (fun x y hx hy => tZ.sq hx hy) n (Nat.le_refl n)] at e15
  have a15 := a14.fr r15 (by decide) (fun a _ _ => by unfold cMD; omega)
  have m15' := m14.fr r15 (by decide) (fun a _ _ => by unfold cMD; omega)
  have l15 := g_like (X := X) I15 (a := 1) (b := 3) (by decide) (by decide) nb m15' m15 (fun x y hx hy => (tZ.sq hx hy).symm)
  obtain ⟨T16, -, g16⟩ := g_star (X := X) I15 (i := 1) (l := 3) (by decide) (by decide) m15' (fun x y hx hy => by rw [tZ.st hx hy]; exact (sb.to (show (600 : Int) ≤ 99999 by decide)).w x y hx hy)
  obtain ⟨s16, m16, r16, I16⟩ := g16 (fun x hx => by rw [tZ.st hx hx, tZ.1 x hx]; exact Int.le_refl 0)
  rw [mC_cg (fun x y hx hy => tZ.st hx hy) n (Nat.le_refl n)] at s16
  have a16 := a15.fr r16 (by decide) (fun a _ _ => by unfold cMD; omega)
  have m16' := m15'.fr r16 (by decide) (fun a _ _ => by unfold cMD; omega)
  have l16 := g_like (X := X) I16 (a := 1) (b := 3) (by decide) (by decide) nb m16' m16 (fun x y hx hy => (tZ.st hx hy).symm)
  obtain ⟨T17, e17, -, r17, I17, -, -⟩ := g_mean (X := X) I16 (i := 1) (by decide) nb m16'
  have a17 := a16.fr r17 (by decide) (ndr 0)
  have m17 := m16'.fr r17 (by decide) (ndr 1)
  obtain ⟨T18, -, e18, r18, I18, -, -⟩ := g_mean (X := X) I17 (i := 1) (by decide) nb m17
  have a18 := a17.fr r18 (by decide) (ndr 0)
  have m18 := m17.fr r18 (by decide) (ndr 1)
  obtain ⟨T19, e19, r19, k19, I19⟩ := g_det (X := X) I18 (i := 1) (by decide) nb m18
  have a19 := a18.fr r19 (by decide) (no 0)
  have m19 := m18.fr r19 (by decide) (no 1)
  rw [tZ.mn nb.1] at e17 e18
  have dz : dT (cut Z n) n = 0 := tZ.dt (T := cut Z n) nb.2 (fun i j hi hj => if_pos ⟨hi, hj⟩) (cut_b sb (by decide))
  rw [dz] at e19
  have E14 : m_L_asks [vR 0, vI 2, vI 0, vI 1, vI 0] (k_W X T13) = some (.inl (some (vI (mC Z n n))), k_W X T14) := f_asks2_ok s14
  have E15 : m_L_asks [vR 0, vI 1, vI 1, vI 1, vI 3] (k_W X T14) = some (.inl (some (vI (mC Z n n))), k_W X T15) := f_asks1_ok e15
  have L15 : m_L_isLike [vR 0, vI 1, vI 3, vI (n : Int)] (k_W X T15) = some (.inl (some (vB true)), k_W X T15) := l15
  have E16 : m_L_asks [vR 0, vI 2, vI 1, vI 3, vI 0] (k_W X T15) = some (.inl (some (vI (mC Z n n))), k_W X T16) := f_asks2_ok s16
  have L16 : m_L_isLike [vR 0, vI 1, vI 3, vI (n : Int)] (k_W X T16) = some (.inl (some (vB true)), k_W X T16) := l16
  have E17 : m_X5_mean [vR 0, vI 1, vI 0] (k_W X T16) = some (.inl (some (vI 0)), k_W X T17) := e17
  have E18 : m_X5_mean [vR 0, vI 1, vI 1] (k_W X T17) = some (.inl (some (vI 1)), k_W X T18) := e18
  have E19 : m_X5_determinant [vR 0, vI 1] (k_W X T18) = some (.inl (some (vI 0)), k_W X T19) := e19
  have qz := mC_R Z nb.2
  have h1 : 0 ≤ (fRd (fSt A n n)).1 := by
    rcases Int.lt_or_le (fRd (fSt A n n)).1 0 with w | w
    · exact absurd Q (mn.mpr w)
    · exact w
  have h2 : ¬ (mC Z n n < 0) := by omega
  refine ⟨T19, first T19 (iff_true_intro ?_), I19⟩
  generalize (fRd (fSt A n n)).1 = ov at *
  generalize (fRd (fSt A n n)).2 = un at *
  generalize mC Z n n = told at *
  simp only [s_L_matrices_187, s_L_matrices_197, s_L_matrices_228, s_L_matrices_318, E14, E15, L15, E16, L16, E17, E18, E19, h1, h2, z_vB1, z_vB0, if_true, if_false, not_true_eq_false, not_false_eq_true, exists_eq, qS_nop, qS_seq, qS_set, qS_setJ, qS_if, qS_brk, qS_ret, qS_retV, qS_throw, qS_inc, qS_cl, qS_ast, qS_aop, qS_fst, qS_fop, qS_sw, qT_eC, qT_eCB, qT_eL, qT_eLJ, qT_eLR, qT_eLS, qT_eSLen, qT_eSLd, qT_eLB, qT_e1, qT_e2, qT_bCmp, qT_bCmpJ, qT_bAnd, qT_bOr, qT_bNot, qT_eBI, qT_eIf, qT_eLd, qT_eLdR, qT_eLen, qT_eF, qT_eFR, qT_aN, qT_aS, qT_eCl, qT_eClR, qT_eClB, qT_some, qT_x, z_nx_N, z_nx_B, z_nx_R, z_nx_X, z_bk_N, z_bk_B, z_bk_R, z_bk_X, oAdd, oSub, oMul, oNeg, cLt, cLe, cGt, cGe, cEq, cNe, Option.some.injEq, Sum.inl.injEq, Sum.inr.injEq, Prod.mk.injEq, exists_eq_left, exists_eq_left', exists_eq_right, exists_and_left, reduceCtorEq, and_true, true_and, and_false, false_and, List.getElem?_cons_zero, List.getElem?_cons_succ, List.set_cons_zero, List.set_cons_succ, List.replicate, List.length_cons, List.length_nil, List.cons_append, List.nil_append, Nat.reduceAdd, Nat.reduceSub, decide_eq_true_eq, decide_eq_false_iff_not, Bool.true_eq_false, Bool.false_eq_true, true_implies, false_implies, implies_true, Nat.reduceLT, exists_const, z_vB_inj, and_assoc, z_in_iff, oI2L, oL2I, Int.toNat_natCast, z_toNat0, Bool.not_eq_true', Bool.not_eq_false', ne_eq, Bool.not_true, Bool.not_false, Nat.add_zero, Int.add_zero, z_sl_s]
  repeat (refine And.intro (by omega) ?_)
  refine qS_for (fun k => [vR 0, vS, vI (a : Int), vI (n : Int), vI (dT (cut A n) n), vI (dT (cut B n) n), vB true, vI ov, vI un, vI told, vI (k : Int)]) (fun _ => k_W X T19) (fun _ => True) (n * n) rfl rfl trivial (by have := Nat.mul_le_mul nb.2 nb.2; omega) ?_ ?_
  · intro k hk _
    have kb := n_sq nb.2 hk
    have nn := n_sqi n
    have kn : (k : Int) < ((n * n : Nat) : Int) := by omega
    have n25 : n * n ≤ 25 := Nat.mul_le_mul nb.2 nb.2
    have u1 : oDiv (k : Int) (n : Int) = some ((k / n : Nat) : Int) := z_dv (by omega) (by omega) (by omega)
    have u2 : oRem (k : Int) (n : Int) = some ((k % n : Nat) : Int) := z_rm (by omega) (by omega) (by omega)
    have w1 := f_at (X := X) (S := T19) (m := 1) (by decide) nb.2 m19.1 kb.1 kb.2.1
    have w2 := f_at (X := X) (S := T19) (m := 0) (by decide) nb.2 a19.1 kb.1 kb.2.1
    have w3 := f_at (X := X) (S := T19) (m := 1) (by decide) nb.2 m19.1 kb.1 kb.1
    rw [m19.2 _ _ kb.1 kb.2.1] at w1
    rw [a19.2 _ _ kb.1 kb.2.1] at w2
    rw [m19.2 _ _ kb.1 kb.1, tZ.1 _ kb.1] at w3
    have W1 : m_X5_at [vR 0, vI 1, vI ((k / n : Nat) : Int), vI ((k % n : Nat) : Int)] (k_W X T19) = some (.inl (some (vI (Z (k / n) (k % n)))), k_W X T19) := w1
    have W2 : m_X5_at [vR 0, vI 0, vI ((k / n : Nat) : Int), vI ((k % n : Nat) : Int)] (k_W X T19) = some (.inl (some (vI (A (k / n) (k % n)))), k_W X T19) := w2
    have W3 : m_X5_at [vR 0, vI 1, vI ((k / n : Nat) : Int), vI ((k / n : Nat) : Int)] (k_W X T19) = some (.inl (some (vI 0)), k_W X T19) := w3
    have le : Z (k / n) (k % n) ≤ A (k / n) (k % n) := by rw [hZ]; exact star_le hD Q kb.1 kb.2.1
    have zb := sb _ _ kb.1 kb.2.1
    have ab := mA _ _ kb.1 kb.2.1
    unfold eB at zb ab
    generalize Z (k / n) (k % n) = z1 at *
    generalize A (k / n) (k % n) = z2 at *
    simp only [l_L_matrices_334, u1, u2, W1, W2, W3, nn, kn, le, z_vB1, z_vB0, if_true, if_false, not_true_eq_false, not_false_eq_true, exists_eq, qS_nop, qS_seq, qS_set, qS_setJ, qS_if, qS_brk, qS_ret, qS_retV, qS_throw, qS_inc, qS_cl, qS_ast, qS_aop, qS_fst, qS_fop, qS_sw, qT_eC, qT_eCB, qT_eL, qT_eLJ, qT_eLR, qT_eLS, qT_eSLen, qT_eSLd, qT_eLB, qT_e1, qT_e2, qT_bCmp, qT_bCmpJ, qT_bAnd, qT_bOr, qT_bNot, qT_eBI, qT_eIf, qT_eLd, qT_eLdR, qT_eLen, qT_eF, qT_eFR, qT_aN, qT_aS, qT_eCl, qT_eClR, qT_eClB, qT_some, qT_x, z_nx_N, z_nx_B, z_nx_R, z_nx_X, z_bk_N, z_bk_B, z_bk_R, z_bk_X, oAdd, oSub, oMul, oNeg, cLt, cLe, cGt, cGe, cEq, cNe, Option.some.injEq, Sum.inl.injEq, Sum.inr.injEq, Prod.mk.injEq, exists_eq_left, exists_eq_left', exists_eq_right, exists_and_left, reduceCtorEq, and_true, true_and, and_false, false_and, List.getElem?_cons_zero, List.getElem?_cons_succ, List.set_cons_zero, List.set_cons_succ, List.replicate, List.length_cons, List.length_nil, List.cons_append, List.nil_append, Nat.reduceAdd, Nat.reduceSub, decide_eq_true_eq, decide_eq_false_iff_not, Bool.true_eq_false, Bool.false_eq_true, true_implies, false_implies, implies_true, Nat.reduceLT, exists_const, z_vB_inj, and_assoc, z_in_iff, oI2L, oL2I, Int.toNat_natCast, z_toNat0, Bool.not_eq_true', Bool.not_eq_false', ne_eq, Bool.not_true, Bool.not_false, Nat.add_zero, Int.add_zero, z_sl_s]
    (repeat' (first | apply And.intro | intro _)) <;> first | omega | rfl | grind
  · intro _
    have nn := n_sqi n
    have nk : ¬ (((n * n : Nat) : Int) < ((n * n : Nat) : Int)) := by omega
    have n25 : n * n ≤ 25 := Nat.mul_le_mul nb.2 nb.2
    simp only [s_L_matrices_403, nn, nk, z_vB1, z_vB0, if_true, if_false, not_true_eq_false, not_false_eq_true, exists_eq, qS_nop, qS_seq, qS_set, qS_setJ, qS_if, qS_brk, qS_ret, qS_retV, qS_throw, qS_inc, qS_cl, qS_ast, qS_aop, qS_fst, qS_fop, qS_sw, qT_eC, qT_eCB, qT_eL, qT_eLJ, qT_eLR, qT_eLS, qT_eSLen, qT_eSLd, qT_eLB, qT_e1, qT_e2, qT_bCmp, qT_bCmpJ, qT_bAnd, qT_bOr, qT_bNot, qT_eBI, qT_eIf, qT_eLd, qT_eLdR, qT_eLen, qT_eF, qT_eFR, qT_aN, qT_aS, qT_eCl, qT_eClR, qT_eClB, qT_some, qT_x, z_nx_N, z_nx_B, z_nx_R, z_nx_X, z_bk_N, z_bk_B, z_bk_R, z_bk_X, oAdd, oSub, oMul, oNeg, cLt, cLe, cGt, cGe, cEq, cNe, Option.some.injEq, Sum.inl.injEq, Sum.inr.injEq, Prod.mk.injEq, exists_eq_left, exists_eq_left', exists_eq_right, exists_and_left, reduceCtorEq, and_true, true_and, and_false, false_and, List.getElem?_cons_zero, List.getElem?_cons_succ, List.set_cons_zero, List.set_cons_succ, List.replicate, List.length_cons, List.length_nil, List.cons_append, List.nil_append, Nat.reduceAdd, Nat.reduceSub, decide_eq_true_eq, decide_eq_false_iff_not, Bool.true_eq_false, Bool.false_eq_true, true_implies, false_implies, implies_true, Nat.reduceLT, exists_const, z_vB_inj, and_assoc, z_in_iff, oI2L, oL2I, Int.toNat_natCast, z_toNat0, Bool.not_eq_true', Bool.not_eq_false', ne_eq, Bool.not_true, Bool.not_false, Nat.add_zero, Int.add_zero, z_sl_s]
    omega
end LMM
