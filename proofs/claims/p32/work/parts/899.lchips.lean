/-! THE LAW: chips, all of it -/
section LCA
variable {X : z_Hp} {S : Nat → Nat → Int}
theorem ed2 (I : cInv S) {ii jj n : Int} (hi : 0 ≤ ii ∧ ii < 5) (hj : 0 ≤ jj ∧ jj < 5) (hij : ii ≠ jj) (hn : 0 ≤ n ∧ n ≤ 3) : ∃ T1 T2 m, m_X5_edges [vR 0, vI ii, vI jj, vI n] (k_W X S) = some (.inl (some (vI m)), k_W X T1) ∧ (0 ≤ m ∧ m ≤ 3) ∧ m_X5_edges [vR 0, vI jj, vI ii, vI n] (k_W X T1) = some (.inl (some (vI n)), k_W X T2) ∧ cInv T2 := by
  obtain ⟨i, rfl⟩ : ∃ i : Nat, ii = (i : Int) := ⟨ii.toNat, by omega⟩
  obtain ⟨j, rfl⟩ : ∃ j : Nat, jj = (j : Int) := ⟨jj.toNat, by omega⟩
  have i5 : i < 5 := by omega
  have j5 : j < 5 := by omega
  have ne : i ≠ j := by omega
  obtain ⟨e1, I1, -⟩ := f_edges (X := X) I i5 j5 ne hn
  obtain ⟨e2, I2, -⟩ := f_edges (X := X) I1 j5 i5 (Ne.symm ne) hn
  have g := I.g i j i5 j5
  rw [kF_l i5] at g
  rw [kEd_at ne, if_pos (Or.inr ⟨rfl, rfl⟩)] at e2
  exact ⟨_, _, _, e1, ⟨g.1, g.2.1⟩, e2, I2⟩
def ckE (a x k : Nat) (ρ : List z_V) (h' : z_Hp) : Prop := ∃ Sk kk z6 z7 z8, h' = k_W [] Sk ∧ ρ = [vR 0, vS, vI (a : Int), vI (x : Int), vB true, vI kk, z6, z7, z8, vU, vU, vU, vU, vU, vU, vU] ∧ kk = (k : Int) ∧ cInv Sk
def ckC (a x k : Nat) (ρ : List z_V) (h' : z_Hp) : Prop := ∃ Sk z6 z7 z8, h' = k_W [] Sk ∧ ρ = [vR 0, vS, vI (a : Int), vI (x : Int), vB true, vI (k : Int), z6, z7, z8, vU, vU, vU, vU, vU, vU, vU] ∧ cInv Sk
theorem f_lchips (I : cInv S) (sc : List Int) (hl : sc.length < 2147483648) {a : Nat} (ha : a < 10000) : ∃ S', m_L_chips sc [vR 0, vS, vI (a : Int)] (k_W [] S) = some (.inl (some (vB true)), k_W [] S') := by
  have b6 : INF = 1000000 := rfl
  obtain ⟨x, hx, x2⟩ := dr_n sc hl (k := (a : Int)) (most := 1073741824) ⟨by omega, by omega⟩ (by decide)
  have x3 : ∀ h, m_L_draw sc [wS (), vI (a : Int), vI 1073741824] h = some (.inl (some (vI (x : Int))), h) := x2
  have g1 : oDiv (x : Int) 7 = some ((x / 7 : Nat) : Int) := z_dv (m := 7) (by decide) (by omega) (by decide)
  have g2 : oRem ((x / 7 : Nat) : Int) 4 = some ((x / 7 % 4 : Nat) : Int) := z_rm (m := 4) (by decide) (by omega) (by decide)
  have g3 : oDiv (x : Int) 11 = some ((x / 11 : Nat) : Int) := z_dv (m := 11) (by decide) (by omega) (by decide)
  have g4 : oRem ((x / 11 : Nat) : Int) 5 = some ((x / 11 % 5 : Nat) : Int) := z_rm (m := 5) (by decide) (by omega) (by decide)
  obtain ⟨w, hw⟩ : ∃ w, w = x / 7 % 4 := ⟨_, rfl⟩
  obtain ⟨u, hu⟩ : ∃ u, u = x / 11 % 5 := ⟨_, rfl⟩
  rw [← hw] at g2
  rw [← hu] at g4
  have w4 : w < 4 := by omega
  have u5 : u < 5 := by omega
  clear hw hu
  have q : ∃ h', m_L_chips sc [vR 0, vS, vI (a : Int)] (k_W [] S) = some (.inl (some (vB true)), h') ∧ ∃ W, h' = k_W [] W := by
    unfold m_L_chips
    apply q_bodyV
    have b6 : INF = 1000000 := rfl
    simp only [b_L_chips, s_L_chips_8, s_L_chips_11, x3, z_vB1, z_vB0, if_true, if_false, not_true_eq_false, not_false_eq_true, exists_eq, qS_nop, qS_seq, qS_set, qS_setJ, qS_if, qS_brk, qS_ret, qS_retV, qS_throw, qS_inc, qS_cl, qS_ast, qS_aop, qS_fst, qS_fop, qS_sw, qT_eC, qT_eCB, qT_eL, qT_eLJ, qT_eLR, qT_eLS, qT_eSLen, qT_eSLd, qT_eLB, qT_e1, qT_e2, qT_bCmp, qT_bCmpJ, qT_bAnd, qT_bOr, qT_bNot, qT_eBI, qT_eIf, qT_eLd, qT_eLdR, qT_eLen, qT_eF, qT_eFR, qT_aN, qT_aS, qT_eCl, qT_eClR, qT_eClB, qT_some, qT_x, z_nx_N, z_nx_B, z_nx_R, z_nx_X, z_bk_N, z_bk_B, z_bk_R, z_bk_X, oAdd, oSub, oMul, oNeg, cLt, cLe, cGt, cGe, cEq, cNe, Option.some.injEq, Sum.inl.injEq, Sum.inr.injEq, Prod.mk.injEq, exists_eq_left, exists_eq_left', exists_eq_right, exists_and_left, reduceCtorEq, and_true, true_and, and_false, false_and, List.getElem?_cons_zero, List.getElem?_cons_succ, List.set_cons_zero, List.set_cons_succ, List.replicate, List.length_cons, List.length_nil, List.cons_append, List.nil_append, Nat.reduceAdd, Nat.reduceSub, decide_eq_true_eq, decide_eq_false_iff_not, Bool.true_eq_false, Bool.false_eq_true, true_implies, false_implies, implies_true, Nat.reduceLT, exists_const, z_vB_inj, and_assoc, z_in_iff, oI2L, oL2I, Int.toNat_natCast, z_toNat0, Bool.not_eq_true', Bool.not_eq_false', ne_eq, Bool.not_true, Bool.not_false, Nat.add_zero, Int.add_zero, z_sl_s]
    refine qS_loop (fun k ρ h' => ckE a x k ρ h') 10 ?_ ?_ 10 0 z_fuel _ _ (by omega) (z_fuel_lt (by omega)) ⟨S, 0, vU, vU, vU, rfl, rfl, rfl, I⟩
    · rintro k ρ h' hk ⟨Sk, kk, z6, z7, z8, e1, e2, ek, Ik⟩
      obtain ⟨y, sh⟩ : ∃ y, oShr (x : Int) (2 * kk) = some y := ⟨_, rfl⟩
      obtain ⟨z, an, z1, z2⟩ : ∃ z, oAnd y 3 = some z ∧ -2147483648 ≤ z ∧ z < 2147483648 := ⟨_, rfl, Int32.le_toInt _, Int32.toInt_lt _⟩
      obtain ⟨d, d1, d2⟩ := dr_n sc hl (k := (a : Int) + 1 + kk) (most := 4) ⟨by omega, by omega⟩ (by decide)
      have d3 : ∀ h, m_L_draw sc [wS (), vI ((a : Int) + 1 + kk), vI 4] h = some (.inl (some (vI (d : Int))), h) := d2
      have nx : ∀ T z6 z7 z8, cInv T → ckE a x (k + 1) [vR 0, vS, vI (a : Int), vI (x : Int), vB true, vI (kk + 1), z6, z7, z8, vU, vU, vU, vU, vU, vU, vU] (k_W [] T) := fun T z6 z7 z8 hT => ⟨T, kk + 1, z6, z7, z8, rfl, rfl, by omega, hT⟩
      rcases (by omega : kk < 4 ∨ (¬ kk < 4 ∧ kk < 7) ∨ (¬ kk < 4 ∧ ¬ kk < 7 ∧ kk < 9) ∨ (¬ kk < 4 ∧ ¬ kk < 7 ∧ ¬ kk < 9)) with c1 | ⟨c1, c2⟩ | ⟨c1, c2, c3⟩ | ⟨c1, c2, c3⟩
      · obtain ⟨T1, T2, m, p1, p2, p3, p4⟩ := ed2 (X := []) Ik (ii := 0) (jj := 1 + kk) (n := (d : Int)) ⟨by omega, by omega⟩ ⟨by omega, by omega⟩ (by omega) ⟨by omega, by omega⟩
        obtain ⟨V1, V2, n, q1, q2, q3, q4⟩ := ed2 (X := []) Ik (ii := 0) (jj := 1 + kk) (n := 0) ⟨by omega, by omega⟩ ⟨by omega, by omega⟩ (by omega) ⟨by omega, by omega⟩
        subst e1
        subst e2
        simp only [l_L_chips_21, s_L_chips_56, s_L_chips_100, s_L_chips_147, sh, an, g1, g2, d3, p1, p3, q1, q3, eq_true c1, eq_false (show ¬ 3 < kk by omega), eq_true p2.1, eq_true q2.1, eq_self, decide_true, decide_false, z_vB1, z_vB0, if_true, if_false, not_true_eq_false, not_false_eq_true, exists_eq, qS_nop, qS_seq, qS_set, qS_setJ, qS_if, qS_brk, qS_ret, qS_retV, qS_throw, qS_inc, qS_cl, qS_ast, qS_aop, qS_fst, qS_fop, qS_sw, qT_eC, qT_eCB, qT_eL, qT_eLJ, qT_eLR, qT_eLS, qT_eSLen, qT_eSLd, qT_eLB, qT_e1, qT_e2, qT_bCmp, qT_bCmpJ, qT_bAnd, qT_bOr, qT_bNot, qT_eBI, qT_eIf, qT_eLd, qT_eLdR, qT_eLen, qT_eF, qT_eFR, qT_aN, qT_aS, qT_eCl, qT_eClR, qT_eClB, qT_some, qT_x, z_nx_N, z_nx_B, z_nx_R, z_nx_X, z_bk_N, z_bk_B, z_bk_R, z_bk_X, oAdd, oSub, oMul, oNeg, cLt, cLe, cGt, cGe, cEq, cNe, Option.some.injEq, Sum.inl.injEq, Sum.inr.injEq, Prod.mk.injEq, exists_eq_left, exists_eq_left', exists_eq_right, exists_and_left, reduceCtorEq, and_true, true_and, and_false, false_and, List.getElem?_cons_zero, List.getElem?_cons_succ, List.set_cons_zero, List.set_cons_succ, List.replicate, List.length_cons, List.length_nil, List.cons_append, List.nil_append, Nat.reduceAdd, Nat.reduceSub, decide_eq_true_eq, decide_eq_false_iff_not, Bool.true_eq_false, Bool.false_eq_true, true_implies, false_implies, implies_true, Nat.reduceLT, exists_const, z_vB_inj, and_assoc, z_in_iff, oI2L, oL2I, Int.toNat_natCast, z_toNat0, Bool.not_eq_true', Bool.not_eq_false', ne_eq, Bool.not_true, Bool.not_false, Nat.add_zero, Int.add_zero, z_sl_s]
        (repeat' (first | apply And.intro | intro _)) <;> first | omega | exact nx _ _ _ _ p4 | exact nx _ _ _ _ q4
      · obtain ⟨T1, T2, m, p1, p2, p3, p4⟩ := ed2 (X := []) Ik (ii := 1) (jj := kk - 2) (n := (d : Int)) ⟨by omega, by omega⟩ ⟨by omega, by omega⟩ (by omega) ⟨by omega, by omega⟩
        obtain ⟨V1, V2, n, q1, q2, q3, q4⟩ := ed2 (X := []) Ik (ii := 1) (jj := kk - 2) (n := 0) ⟨by omega, by omega⟩ ⟨by omega, by omega⟩ (by omega) ⟨by omega, by omega⟩
        subst e1
        subst e2
        simp only [l_L_chips_21, s_L_chips_56, s_L_chips_100, s_L_chips_147, sh, an, g1, g2, d3, p1, p3, q1, q3, eq_false c1, eq_true c2, eq_true (show 3 < kk by omega), eq_true p2.1, eq_true q2.1, eq_self, decide_true, decide_false, z_vB1, z_vB0, if_true, if_false, not_true_eq_false, not_false_eq_true, exists_eq, qS_nop, qS_seq, qS_set, qS_setJ, qS_if, qS_brk, qS_ret, qS_retV, qS_throw, qS_inc, qS_cl, qS_ast, qS_aop, qS_fst, qS_fop, qS_sw, qT_eC, qT_eCB, qT_eL, qT_eLJ, qT_eLR, qT_eLS, qT_eSLen, qT_eSLd, qT_eLB, qT_e1, qT_e2, qT_bCmp, qT_bCmpJ, qT_bAnd, qT_bOr, qT_bNot, qT_eBI, qT_eIf, qT_eLd, qT_eLdR, qT_eLen, qT_eF, qT_eFR, qT_aN, qT_aS, qT_eCl, qT_eClR, qT_eClB, qT_some, qT_x, z_nx_N, z_nx_B, z_nx_R, z_nx_X, z_bk_N, z_bk_B, z_bk_R, z_bk_X, oAdd, oSub, oMul, oNeg, cLt, cLe, cGt, cGe, cEq, cNe, Option.some.injEq, Sum.inl.injEq, Sum.inr.injEq, Prod.mk.injEq, exists_eq_left, exists_eq_left', exists_eq_right, exists_and_left, reduceCtorEq, and_true, true_and, and_false, false_and, List.getElem?_cons_zero, List.getElem?_cons_succ, List.set_cons_zero, List.set_cons_succ, List.replicate, List.length_cons, List.length_nil, List.cons_append, List.nil_append, Nat.reduceAdd, Nat.reduceSub, decide_eq_true_eq, decide_eq_false_iff_not, Bool.true_eq_false, Bool.false_eq_true, true_implies, false_implies, implies_true, Nat.reduceLT, exists_const, z_vB_inj, and_assoc, z_in_iff, oI2L, oL2I, Int.toNat_natCast, z_toNat0, Bool.not_eq_true', Bool.not_eq_false', ne_eq, Bool.not_true, Bool.not_false, Nat.add_zero, Int.add_zero, z_sl_s]
        (repeat' (first | apply And.intro | intro _)) <;> first | omega | exact nx _ _ _ _ p4 | exact nx _ _ _ _ q4
      · obtain ⟨T1, T2, m, p1, p2, p3, p4⟩ := ed2 (X := []) Ik (ii := 2) (jj := kk - 4) (n := (d : Int)) ⟨by omega, by omega⟩ ⟨by omega, by omega⟩ (by omega) ⟨by omega, by omega⟩
        obtain ⟨V1, V2, n, q1, q2, q3, q4⟩ := ed2 (X := []) Ik (ii := 2) (jj := kk - 4) (n := 0) ⟨by omega, by omega⟩ ⟨by omega, by omega⟩ (by omega) ⟨by omega, by omega⟩
        subst e1
        subst e2
        simp only [l_L_chips_21, s_L_chips_56, s_L_chips_100, s_L_chips_147, sh, an, g1, g2, d3, p1, p3, q1, q3, eq_false c1, eq_false c2, eq_true c3, eq_true (show 3 < kk by omega), eq_true p2.1, eq_true q2.1, eq_self, decide_true, decide_false, z_vB1, z_vB0, if_true, if_false, not_true_eq_false, not_false_eq_true, exists_eq, qS_nop, qS_seq, qS_set, qS_setJ, qS_if, qS_brk, qS_ret, qS_retV, qS_throw, qS_inc, qS_cl, qS_ast, qS_aop, qS_fst, qS_fop, qS_sw, qT_eC, qT_eCB, qT_eL, qT_eLJ, qT_eLR, qT_eLS, qT_eSLen, qT_eSLd, qT_eLB, qT_e1, qT_e2, qT_bCmp, qT_bCmpJ, qT_bAnd, qT_bOr, qT_bNot, qT_eBI, qT_eIf, qT_eLd, qT_eLdR, qT_eLen, qT_eF, qT_eFR, qT_aN, qT_aS, qT_eCl, qT_eClR, qT_eClB, qT_some, qT_x, z_nx_N, z_nx_B, z_nx_R, z_nx_X, z_bk_N, z_bk_B, z_bk_R, z_bk_X, oAdd, oSub, oMul, oNeg, cLt, cLe, cGt, cGe, cEq, cNe, Option.some.injEq, Sum.inl.injEq, Sum.inr.injEq, Prod.mk.injEq, exists_eq_left, exists_eq_left', exists_eq_right, exists_and_left, reduceCtorEq, and_true, true_and, and_false, false_and, List.getElem?_cons_zero, List.getElem?_cons_succ, List.set_cons_zero, List.set_cons_succ, List.replicate, List.length_cons, List.length_nil, List.cons_append, List.nil_append, Nat.reduceAdd, Nat.reduceSub, decide_eq_true_eq, decide_eq_false_iff_not, Bool.true_eq_false, Bool.false_eq_true, true_implies, false_implies, implies_true, Nat.reduceLT, exists_const, z_vB_inj, and_assoc, z_in_iff, oI2L, oL2I, Int.toNat_natCast, z_toNat0, Bool.not_eq_true', Bool.not_eq_false', ne_eq, Bool.not_true, Bool.not_false, Nat.add_zero, Int.add_zero, z_sl_s]
        (repeat' (first | apply And.intro | intro _)) <;> first | omega | exact nx _ _ _ _ p4 | exact nx _ _ _ _ q4
      · obtain ⟨T1, T2, m, p1, p2, p3, p4⟩ := ed2 (X := []) Ik (ii := 3) (jj := 4) (n := (d : Int)) ⟨by omega, by omega⟩ ⟨by omega, by omega⟩ (by omega) ⟨by omega, by omega⟩
        obtain ⟨V1, V2, n, q1, q2, q3, q4⟩ := ed2 (X := []) Ik (ii := 3) (jj := 4) (n := 0) ⟨by omega, by omega⟩ ⟨by omega, by omega⟩ (by omega) ⟨by omega, by omega⟩
        subst e1
        subst e2
        simp only [l_L_chips_21, s_L_chips_56, s_L_chips_100, s_L_chips_147, sh, an, g1, g2, d3, p1, p3, q1, q3, eq_false c1, eq_false c2, eq_false c3, eq_true (show 3 < kk by omega), eq_true p2.1, eq_true q2.1, eq_self, decide_true, decide_false, z_vB1, z_vB0, if_true, if_false, not_true_eq_false, not_false_eq_true, exists_eq, qS_nop, qS_seq, qS_set, qS_setJ, qS_if, qS_brk, qS_ret, qS_retV, qS_throw, qS_inc, qS_cl, qS_ast, qS_aop, qS_fst, qS_fop, qS_sw, qT_eC, qT_eCB, qT_eL, qT_eLJ, qT_eLR, qT_eLS, qT_eSLen, qT_eSLd, qT_eLB, qT_e1, qT_e2, qT_bCmp, qT_bCmpJ, qT_bAnd, qT_bOr, qT_bNot, qT_eBI, qT_eIf, qT_eLd, qT_eLdR, qT_eLen, qT_eF, qT_eFR, qT_aN, qT_aS, qT_eCl, qT_eClR, qT_eClB, qT_some, qT_x, z_nx_N, z_nx_B, z_nx_R, z_nx_X, z_bk_N, z_bk_B, z_bk_R, z_bk_X, oAdd, oSub, oMul, oNeg, cLt, cLe, cGt, cGe, cEq, cNe, Option.some.injEq, Sum.inl.injEq, Sum.inr.injEq, Prod.mk.injEq, exists_eq_left, exists_eq_left', exists_eq_right, exists_and_left, reduceCtorEq, and_true, true_and, and_false, false_and, List.getElem?_cons_zero, List.getElem?_cons_succ, List.set_cons_zero, List.set_cons_succ, List.replicate, List.length_cons, List.length_nil, List.cons_append, List.nil_append, Nat.reduceAdd, Nat.reduceSub, decide_eq_true_eq, decide_eq_false_iff_not, Bool.true_eq_false, Bool.false_eq_true, true_implies, false_implies, implies_true, Nat.reduceLT, exists_const, z_vB_inj, and_assoc, z_in_iff, oI2L, oL2I, Int.toNat_natCast, z_toNat0, Bool.not_eq_true', Bool.not_eq_false', ne_eq, Bool.not_true, Bool.not_false, Nat.add_zero, Int.add_zero, z_sl_s]
        (repeat' (first | apply And.intro | intro _)) <;> first | omega | exact nx _ _ _ _ p4 | exact nx _ _ _ _ q4
    · rintro ρ h' ⟨Sk, kk, z6, z7, z8, e1, e2, ek, Ik⟩
      have k10 : kk = 10 := by omega
      have n10 : ¬ ((10 : Int) < 10) := by decide
      subst k10
      subst e1
      subst e2
      simp only [s_L_chips_193, n10, decide_false, z_vB1, z_vB0, if_true, if_false, not_true_eq_false, not_false_eq_true, exists_eq, qS_nop, qS_seq, qS_set, qS_setJ, qS_if, qS_brk, qS_ret, qS_retV, qS_throw, qS_inc, qS_cl, qS_ast, qS_aop, qS_fst, qS_fop, qS_sw, qT_eC, qT_eCB, qT_eL, qT_eLJ, qT_eLR, qT_eLS, qT_eSLen, qT_eSLd, qT_eLB, qT_e1, qT_e2, qT_bCmp, qT_bCmpJ, qT_bAnd, qT_bOr, qT_bNot, qT_eBI, qT_eIf, qT_eLd, qT_eLdR, qT_eLen, qT_eF, qT_eFR, qT_aN, qT_aS, qT_eCl, qT_eClR, qT_eClB, qT_some, qT_x, z_nx_N, z_nx_B, z_nx_R, z_nx_X, z_bk_N, z_bk_B, z_bk_R, z_bk_X, oAdd, oSub, oMul, oNeg, cLt, cLe, cGt, cGe, cEq, cNe, Option.some.injEq, Sum.inl.injEq, Sum.inr.injEq, Prod.mk.injEq, exists_eq_left, exists_eq_left', exists_eq_right, exists_and_left, reduceCtorEq, and_true, true_and, and_false, false_and, List.getElem?_cons_zero, List.getElem?_cons_succ, List.set_cons_zero, List.set_cons_succ, List.replicate, List.length_cons, List.length_nil, List.cons_append, List.nil_append, Nat.reduceAdd, Nat.reduceSub, decide_eq_true_eq, decide_eq_false_iff_not, Bool.true_eq_false, Bool.false_eq_true, true_implies, false_implies, implies_true, Nat.reduceLT, exists_const, z_vB_inj, and_assoc, z_in_iff, oI2L, oL2I, Int.toNat_natCast, z_toNat0, Bool.not_eq_true', Bool.not_eq_false', ne_eq, Bool.not_true, Bool.not_false, Nat.add_zero, Int.add_zero, z_sl_s]
      repeat (refine And.intro (by omega) ?_)
      refine qS_loop (fun k ρ h' => ckC a x k ρ h') 5 ?_ ?_ 5 0 z_fuel _ _ (by omega) (z_fuel_lt (by omega)) ⟨Sk, z6, z7, z8, rfl, rfl, Ik⟩
      · rintro k ρ h' hk ⟨Sk, z6, z7, z8, e1, e2, Ik⟩
        obtain ⟨d, d1, d2⟩ := dr_n sc hl (k := (a : Int) + 11 + (k : Int)) (most := 9) ⟨by omega, by omega⟩ (by decide)
        have d3 : ∀ h, m_L_draw sc [wS (), vI ((a : Int) + 11 + (k : Int)), vI 9] h = some (.inl (some (vI (d : Int))), h) := d2
        obtain ⟨f, f1, f2⟩ := dr_n sc hl (k := (a : Int) + 16 + (k : Int)) (most := 41) ⟨by omega, by omega⟩ (by decide)
        have f3 : ∀ h, m_L_draw sc [wS (), vI ((a : Int) + 16 + (k : Int)), vI 41] h = some (.inl (some (vI (f : Int))), h) := f2
        have p1 := f_chips (X := []) (S := Sk) hk (n := (d : Int) - 4 + ((f : Int) - 20)) ⟨by omega, by omega⟩
        have p2 := Ik.chips (v := k) (n := (d : Int) - 4 + ((f : Int) - 20)) ⟨by omega, by omega⟩
        have q1 := f_chips (X := []) (S := Sk) hk (n := (d : Int) - 4) ⟨by omega, by omega⟩
        have q2 := Ik.chips (v := k) (n := (d : Int) - 4) ⟨by omega, by omega⟩
        have nx : ∀ T, cInv T → ckC a x (k + 1) [vR 0, vS, vI (a : Int), vI (x : Int), vB true, vI ((k : Int) + 1), z6, z7, z8, vU, vU, vU, vU, vU, vU, vU] (k_W [] T) := fun T hT => ⟨T, z6, z7, z8, rfl, rfl, hT⟩
        subst e1
        subst e2
        simp only [l_L_chips_202, d3, f3, g3, g4, p1, q1, qS_pop, z_vB1, z_vB0, if_true, if_false, not_true_eq_false, not_false_eq_true, exists_eq, qS_nop, qS_seq, qS_set, qS_setJ, qS_if, qS_brk, qS_ret, qS_retV, qS_throw, qS_inc, qS_cl, qS_ast, qS_aop, qS_fst, qS_fop, qS_sw, qT_eC, qT_eCB, qT_eL, qT_eLJ, qT_eLR, qT_eLS, qT_eSLen, qT_eSLd, qT_eLB, qT_e1, qT_e2, qT_bCmp, qT_bCmpJ, qT_bAnd, qT_bOr, qT_bNot, qT_eBI, qT_eIf, qT_eLd, qT_eLdR, qT_eLen, qT_eF, qT_eFR, qT_aN, qT_aS, qT_eCl, qT_eClR, qT_eClB, qT_some, qT_x, z_nx_N, z_nx_B, z_nx_R, z_nx_X, z_bk_N, z_bk_B, z_bk_R, z_bk_X, oAdd, oSub, oMul, oNeg, cLt, cLe, cGt, cGe, cEq, cNe, Option.some.injEq, Sum.inl.injEq, Sum.inr.injEq, Prod.mk.injEq, exists_eq_left, exists_eq_left', exists_eq_right, exists_and_left, reduceCtorEq, and_true, true_and, and_false, false_and, List.getElem?_cons_zero, List.getElem?_cons_succ, List.set_cons_zero, List.set_cons_succ, List.replicate, List.length_cons, List.length_nil, List.cons_append, List.nil_append, Nat.reduceAdd, Nat.reduceSub, decide_eq_true_eq, decide_eq_false_iff_not, Bool.true_eq_false, Bool.false_eq_true, true_implies, false_implies, implies_true, Nat.reduceLT, exists_const, z_vB_inj, and_assoc, z_in_iff, oI2L, oL2I, Int.toNat_natCast, z_toNat0, Bool.not_eq_true', Bool.not_eq_false', ne_eq, Bool.not_true, Bool.not_false, Nat.add_zero, Int.add_zero, z_sl_s]
        (repeat' (first | apply And.intro | intro _)) <;> first | omega | exact nx _ p2 | exact nx _ q2
      · rintro ρ h' ⟨U, z6, z7, z8, e1, e2, Ik⟩
        have K := lc260 (sc := sc) Ik (a := a) hx (z6 := z6) (z7 := z7) (z8 := z8)
        have e5 : ((5 : Nat) : Int) = 5 := rfl
        have n55 : ¬ ((5 : Int) < 5) := by decide
        subst e1
        subst e2
        simp only [e5, n55, decide_false, K, z_vB1, z_vB0, if_true, if_false, not_true_eq_false, not_false_eq_true, exists_eq, qS_nop, qS_seq, qS_set, qS_setJ, qS_if, qS_brk, qS_ret, qS_retV, qS_throw, qS_inc, qS_cl, qS_ast, qS_aop, qS_fst, qS_fop, qS_sw, qT_eC, qT_eCB, qT_eL, qT_eLJ, qT_eLR, qT_eLS, qT_eSLen, qT_eSLd, qT_eLB, qT_e1, qT_e2, qT_bCmp, qT_bCmpJ, qT_bAnd, qT_bOr, qT_bNot, qT_eBI, qT_eIf, qT_eLd, qT_eLdR, qT_eLen, qT_eF, qT_eFR, qT_aN, qT_aS, qT_eCl, qT_eClR, qT_eClB, qT_some, qT_x, z_nx_N, z_nx_B, z_nx_R, z_nx_X, z_bk_N, z_bk_B, z_bk_R, z_bk_X, oAdd, oSub, oMul, oNeg, cLt, cLe, cGt, cGe, cEq, cNe, Option.some.injEq, Sum.inl.injEq, Sum.inr.injEq, Prod.mk.injEq, exists_eq_left, exists_eq_left', exists_eq_right, exists_and_left, reduceCtorEq, and_true, true_and, and_false, false_and, List.getElem?_cons_zero, List.getElem?_cons_succ, List.set_cons_zero, List.set_cons_succ, List.replicate, List.length_cons, List.length_nil, List.cons_append, List.nil_append, Nat.reduceAdd, Nat.reduceSub, decide_eq_true_eq, decide_eq_false_iff_not, Bool.true_eq_false, Bool.false_eq_true, true_implies, false_implies, implies_true, Nat.reduceLT, exists_const, z_vB_inj, and_assoc, z_in_iff, oI2L, oL2I, Int.toNat_natCast, z_toNat0, Bool.not_eq_true', Bool.not_eq_false', ne_eq, Bool.not_true, Bool.not_false, Nat.add_zero, Int.add_zero, z_sl_s]
        omega
  obtain ⟨h', q1, W, rfl⟩ := q
  exact ⟨W, q1⟩
end LCA
