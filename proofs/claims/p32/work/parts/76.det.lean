/-! THE FACE: determinant, ways -/
variable {X : z_Hp}
theorem nb_ltn : ∀ (n : Fin 6) (s : Fin 32), s.val < 2 ^ n.val → nb s.val ≤ n.val := by decide
section CH2
variable {h : z_Hp} {o a c : Nat} {P : (Nat → Int) × (Nat → Int)}
theorem s_choose2 {om em rm n : Nat} {M N : Nat → Nat → Int} (q : cAt h o a c P) (m : mAt h om em rm n M) (hn : 1 ≤ n ∧ n ≤ 5) (hE : ∀ i j, i < n → j < n → M i j = N i j) (hM : mBd N 100000) :
    ∃ h', m_X0_choose [vR o, vR om] h = some (.inl none, h') ∧ cAt h' o a c (cSets N n P (2 ^ n - 1)) ∧ z_fr (fun x => x = a ∨ x = c) h h' := by
  unfold m_X0_choose
  rw [q_vm q.1]
  apply q_bodyV
  have b6 : INF = 1000000 := rfl
  have fa : ∀ (h : z_Hp) x, z_fr (fun x => x = a ∨ x = c) h (h.set a x) := fun h x => z_fr.set (Or.inl rfl)
  have fc : ∀ (h : z_Hp) x, z_fr (fun x => x = a ∨ x = c) h (h.set c x) := fun h x => z_fr.set (Or.inr rfl)
  have q1 := q.sa (z_up P.1 0 0)
  have q2 := q1.sc (z_up P.2 0 1)
  have f2 := (fa h (.inr (0, 32, z_up P.1 0 0))).tr (fc _ (.inr (0, 32, z_up P.2 0 1)))
  have m2 := q.m m f2
  have hs := o_shl ⟨n, by omega⟩
  simp only at hs
  have p5 : 1 ≤ 2 ^ n ∧ 2 ^ n ≤ 32 := ⟨Nat.pow_pos (by decide), by have := Nat.pow_le_pow_right (show 2 > 0 by decide) hn.2; omega⟩
  simp only [b_X0_choose, q_obj q.1, q_arr q.2.1 (by decide), q_obj q1.1, q_arr q1.2.2.1 (by decide), qS_nop, qS_seq, qS_set, qS_setJ, qS_if, qS_brk, qS_ret, qS_retV, qS_throw, qS_inc, qS_cl, qS_ast, qS_aop, qS_fst, qS_fop, qS_sw, qT_eC, qT_eCB, qT_eL, qT_eLJ, qT_eLR, qT_eLS, qT_eSLen, qT_eSLd, qT_eLB, qT_e1, qT_e2, qT_bCmp, qT_bCmpJ, qT_bAnd, qT_bOr, qT_bNot, qT_eBI, qT_eIf, qT_eLd, qT_eLdR, qT_eLen, qT_eF, qT_eFR, qT_aN, qT_aS, qT_eCl, qT_eClR, qT_eClB, qT_some, qT_x, z_nx_N, z_nx_B, z_nx_R, z_nx_X, z_bk_N, z_bk_B, z_bk_R, z_bk_X, oAdd, oSub, oMul, oNeg, cLt, cLe, cGt, cGe, cEq, cNe, Option.some.injEq, Sum.inl.injEq, Sum.inr.injEq, Prod.mk.injEq, exists_eq_left, exists_eq_left', exists_eq_right, exists_and_left, reduceCtorEq, and_true, true_and, and_false, false_and, List.getElem?_cons_zero, List.getElem?_cons_succ, List.set_cons_zero, List.set_cons_succ, List.replicate, List.length_cons, List.length_nil, List.cons_append, List.nil_append, Nat.reduceAdd, Nat.reduceSub, decide_eq_true_eq, decide_eq_false_iff_not, Bool.true_eq_false, Bool.false_eq_true, true_implies, false_implies, implies_true, Nat.reduceLT, exists_const, z_vB_inj, and_assoc, z_in_iff, oI2L, oL2I, Int.toNat_natCast, z_toNat0, Bool.not_eq_true', Bool.not_eq_false', ne_eq, Bool.not_true, Bool.not_false, Nat.add_zero, Int.add_zero, z_sl_s]
  refine ⟨by omega, by omega, by omega, by omega, ?_⟩
  generalize (h.set a (.inr (0, 32, z_up P.1 0 0))).set c (.inr (0, 32, z_up P.2 0 1)) = h2 at q2 f2 m2
  refine qS_loop (fun k ρ h' => cAt h' o a c (cSets N n P k) ∧ z_fr (fun x => x = a ∨ x = c) h h' ∧ mAt h' om em rm n M ∧ ∃ x y, ρ = [vR o, vR om, vI ((k : Int) + 1), x, y]) (2 ^ n - 1) ?_ ?_ (2 ^ n - 1) 0 z_fuel _ _ (by omega) (z_fuel_lt (by omega)) ⟨q2, f2, m2, _, _, rfl⟩
  · rintro k ρ h' hk ⟨q3, f3, m3, x, y, rfl⟩
    have q4 := q3.sa (z_up (cSets N n P k).1 (k + 1) INF)
    have q5 := q4.sc (z_up (cSets N n P k).2 (k + 1) 0)
    have f5 := (fa h' (.inr (0, 32, z_up (cSets N n P k).1 (k + 1) INF))).tr (fc _ (.inr (0, 32, z_up (cSets N n P k).2 (k + 1) 0)))
    have m5 := q3.m m3 f5
    have ek : ((k : Int) + 1).toNat = k + 1 := by omega
    simp only [q_obj m3.1, hs, q_obj q3.1, q_arr q3.2.1 (by decide), q_obj q4.1, q_arr q4.2.2.1 (by decide), ek, qS_nop, qS_seq, qS_set, qS_setJ, qS_if, qS_brk, qS_ret, qS_retV, qS_throw, qS_inc, qS_cl, qS_ast, qS_aop, qS_fst, qS_fop, qS_sw, qT_eC, qT_eCB, qT_eL, qT_eLJ, qT_eLR, qT_eLS, qT_eSLen, qT_eSLd, qT_eLB, qT_e1, qT_e2, qT_bCmp, qT_bCmpJ, qT_bAnd, qT_bOr, qT_bNot, qT_eBI, qT_eIf, qT_eLd, qT_eLdR, qT_eLen, qT_eF, qT_eFR, qT_aN, qT_aS, qT_eCl, qT_eClR, qT_eClB, qT_some, qT_x, z_nx_N, z_nx_B, z_nx_R, z_nx_X, z_bk_N, z_bk_B, z_bk_R, z_bk_X, oAdd, oSub, oMul, oNeg, cLt, cLe, cGt, cGe, cEq, cNe, Option.some.injEq, Sum.inl.injEq, Sum.inr.injEq, Prod.mk.injEq, exists_eq_left, exists_eq_left', exists_eq_right, exists_and_left, reduceCtorEq, and_true, true_and, and_false, false_and, List.getElem?_cons_zero, List.getElem?_cons_succ, List.set_cons_zero, List.set_cons_succ, List.replicate, List.length_cons, List.length_nil, List.cons_append, List.nil_append, Nat.reduceAdd, Nat.reduceSub, decide_eq_true_eq, decide_eq_false_iff_not, Bool.true_eq_false, Bool.false_eq_true, true_implies, false_implies, implies_true, Nat.reduceLT, exists_const, z_vB_inj, and_assoc, z_in_iff, oI2L, oL2I, Int.toNat_natCast, z_toNat0, Bool.not_eq_true', Bool.not_eq_false', ne_eq, Bool.not_true, Bool.not_false, Nat.add_zero, Int.add_zero, z_sl_s]
    refine ⟨by omega, by omega, by omega, by omega, by omega, by omega, by omega, by omega, by omega, ?_⟩
    generalize (h'.set a (.inr (0, 32, z_up (cSets N n P k).1 (k + 1) 1000000))).set c (.inr (0, 32, z_up (cSets N n P k).2 (k + 1) 0)) = h5 at q5 f5 m5
    refine qS_loop (fun j ρ h' => cAt h' o a c (cCols N (k + 1) (cSets N n P k) j) ∧ z_fr (fun x => x = a ∨ x = c) h h' ∧ mAt h' om em rm n M ∧ ∃ y, ρ = [vR o, vR om, vI ((k : Int) + 1), vI (j : Int), y]) n ?_ ?_ n 0 z_fuel _ _ (by omega) (z_fuel_lt (by omega)) ⟨q5, f3.tr f5, m5, _, rfl⟩
    · rintro j ρ h6 hj ⟨q6, f6, m6, y, rfl⟩
      have b1 := o_shr ⟨k + 1, by omega⟩ ⟨j, by omega⟩
      have b0 : (k + 1) / 2 ^ j < 32 := Nat.lt_of_le_of_lt (Nat.div_le_self _ _) (by omega)
      have b2 := o_and ⟨(k + 1) / 2 ^ j, b0⟩
      have b3 := o_bit ⟨k + 1, by omega⟩ ⟨j, by omega⟩
      have b4 := o_shl ⟨j, by omega⟩
      have b5 := s_bits ⟨k + 1, by omega⟩ h6
      simp only [Int.natCast_add, Int.natCast_one] at b1 b2 b3 b4 b5
      change m_J6_bitCount_0f7a4 [vI ((k : Int) + 1)] h6 = some (Sum.inl (some (vI ((nb (k + 1) : Nat) : Int))), h6) at b5
      simp only [q_obj m6.1, b1, b2, b4, b5, qS_nop, qS_seq, qS_set, qS_setJ, qS_if, qS_brk, qS_ret, qS_retV, qS_throw, qS_inc, qS_cl, qS_ast, qS_aop, qS_fst, qS_fop, qS_sw, qT_eC, qT_eCB, qT_eL, qT_eLJ, qT_eLR, qT_eLS, qT_eSLen, qT_eSLd, qT_eLB, qT_e1, qT_e2, qT_bCmp, qT_bCmpJ, qT_bAnd, qT_bOr, qT_bNot, qT_eBI, qT_eIf, qT_eLd, qT_eLdR, qT_eLen, qT_eF, qT_eFR, qT_aN, qT_aS, qT_eCl, qT_eClR, qT_eClB, qT_some, qT_x, z_nx_N, z_nx_B, z_nx_R, z_nx_X, z_bk_N, z_bk_B, z_bk_R, z_bk_X, oAdd, oSub, oMul, oNeg, cLt, cLe, cGt, cGe, cEq, cNe, Option.some.injEq, Sum.inl.injEq, Sum.inr.injEq, Prod.mk.injEq, exists_eq_left, exists_eq_left', exists_eq_right, exists_and_left, reduceCtorEq, and_true, true_and, and_false, false_and, List.getElem?_cons_zero, List.getElem?_cons_succ, List.set_cons_zero, List.set_cons_succ, List.replicate, List.length_cons, List.length_nil, List.cons_append, List.nil_append, Nat.reduceAdd, Nat.reduceSub, decide_eq_true_eq, decide_eq_false_iff_not, Bool.true_eq_false, Bool.false_eq_true, true_implies, false_implies, implies_true, Nat.reduceLT, exists_const, z_vB_inj, and_assoc, z_in_iff, oI2L, oL2I, Int.toNat_natCast, z_toNat0, Bool.not_eq_true', Bool.not_eq_false', ne_eq, Bool.not_true, Bool.not_false, Nat.add_zero, Int.add_zero, z_sl_s]
      have n0 := nb_pos ⟨k + 1, by omega⟩ (Nat.succ_pos k)
      have n1 := nb_le ⟨k + 1, by omega⟩
      simp only at n0 n1
      refine ⟨by omega, by omega, by omega, by omega, by omega, by omega, by omega, by omega, by omega, fun w => ?_, fun w => ?_⟩
      · obtain ⟨fo, c1, c2, cc⟩ := m6.row2
        have tb := b3.mp w
        have ns := nb_sub ⟨k + 1, by omega⟩ ⟨j, by omega⟩ tb
        simp only at ns
        have pj : 0 < 2 ^ j := Nat.pow_pos (by decide)
        obtain ⟨c3, c4, c5⟩ := cc (nb (k + 1) - 1) (by omega)
        have en : (((nb (k + 1) : Nat) : Int) - 1).toNat = nb (k + 1) - 1 := by omega
        have el : (k : Int) + 1 - ((2 ^ j : Nat) : Int) = ((k + 1 - 2 ^ j : Nat) : Int) := by omega
        have hin := cSets_in (P := P) hM hn.2 k (by omega)
        have hcol := cCols_in hM (show 0 < k + 1 by omega) (show k + 1 < 32 by omega) hin j (by omega)
        have hl := hin (k + 1 - 2 ^ j) (by omega)
        have hl2 := hcol.1 (k + 1 - 2 ^ j) (by omega)
        have hn5 := nb_le ⟨k + 1 - 2 ^ j, by omega⟩
        simp only at hn5
        have p5 : (5 : Int) ^ nb (k + 1 - 2 ^ j) ≤ 3125 := by
          have : 5 ^ nb (k + 1 - 2 ^ j) ≤ 5 ^ 5 := Nat.pow_le_pow_right (by decide) hn5
          have := Int.ofNat_le.mpr this
          simpa using this
        have p6 : (j : Int) * (5 : Int) ^ (nb (k + 1) - 1) ≤ 15625 := by
          have : j * 5 ^ (nb (k + 1) - 1) ≤ 5 * 5 ^ 5 := Nat.mul_le_mul (by omega) (Nat.pow_le_pow_right (by decide) (by omega))
          have := Int.ofNat_le.mpr this
          simpa using this
        have hm := hM (nb (k + 1) - 1) j (by omega) (by omega)
        have hnn := nb_ltn ⟨n, by omega⟩ ⟨k + 1, by omega⟩ (by simp only; omega)
        simp only at hnn
        have hEe := hE (nb (k + 1) - 1) j (by omega) (by omega)
        rw [← hEe] at hm
        have so := s_offer q6 (s := k + 1) (l := k + 1 - 2 ^ j) (by omega) (by omega) (by omega) (e := M (nb (k + 1) - 1) j) hm ⟨by omega, by omega⟩ ⟨by rw [hl2.1]; omega, by rw [hl2.1]; omega⟩ ⟨by omega, by omega⟩ ⟨by rw [hl2.2]; omega, by rw [hl2.2]; omega⟩
        refine ⟨5, fo, c2, by omega, by omega, by rw [en]; exact c3, 5, M (nb (k + 1) - 1), by rw [en, c4]; exact c5, by omega, by omega, ?_⟩
        rw [el]
        obtain ⟨h7, g1, g2, g3⟩ := so
        rw [Int.natCast_add, Int.natCast_one] at g1
        simp only [g1, qS_nop, qS_seq, qS_set, qS_setJ, qS_if, qS_brk, qS_ret, qS_retV, qS_throw, qS_inc, qS_cl, qS_ast, qS_aop, qS_fst, qS_fop, qS_sw, qT_eC, qT_eCB, qT_eL, qT_eLJ, qT_eLR, qT_eLS, qT_eSLen, qT_eSLd, qT_eLB, qT_e1, qT_e2, qT_bCmp, qT_bCmpJ, qT_bAnd, qT_bOr, qT_bNot, qT_eBI, qT_eIf, qT_eLd, qT_eLdR, qT_eLen, qT_eF, qT_eFR, qT_aN, qT_aS, qT_eCl, qT_eClR, qT_eClB, qT_some, qT_x, z_nx_N, z_nx_B, z_nx_R, z_nx_X, z_bk_N, z_bk_B, z_bk_R, z_bk_X, oAdd, oSub, oMul, oNeg, cLt, cLe, cGt, cGe, cEq, cNe, Option.some.injEq, Sum.inl.injEq, Sum.inr.injEq, Prod.mk.injEq, exists_eq_left, exists_eq_left', exists_eq_right, exists_and_left, reduceCtorEq, and_true, true_and, and_false, false_and, List.getElem?_cons_zero, List.getElem?_cons_succ, List.set_cons_zero, List.set_cons_succ, List.replicate, List.length_cons, List.length_nil, List.cons_append, List.nil_append, Nat.reduceAdd, Nat.reduceSub, decide_eq_true_eq, decide_eq_false_iff_not, Bool.true_eq_false, Bool.false_eq_true, true_implies, false_implies, implies_true, Nat.reduceLT, exists_const, z_vB_inj, and_assoc, z_in_iff, oI2L, oL2I, Int.toNat_natCast, z_toNat0, Bool.not_eq_true', Bool.not_eq_false', ne_eq, Bool.not_true, Bool.not_false, Nat.add_zero, Int.add_zero, z_sl_s]
        refine ⟨?_, f6.tr g3, q6.m m6 g3, _, rfl⟩
        rw [cCols, cCol, if_pos tb, ← hEe]
        exact g2
      · refine ⟨?_, f6, m6, _, rfl⟩
        rw [cCols, cCol, if_neg (fun q => w (b3.mpr q))]
        exact q6
    · rintro ρ h6 ⟨q6, f6, m6, y, rfl⟩
      simp only [q_obj m6.1, qS_nop, qS_seq, qS_set, qS_setJ, qS_if, qS_brk, qS_ret, qS_retV, qS_throw, qS_inc, qS_cl, qS_ast, qS_aop, qS_fst, qS_fop, qS_sw, qT_eC, qT_eCB, qT_eL, qT_eLJ, qT_eLR, qT_eLS, qT_eSLen, qT_eSLd, qT_eLB, qT_e1, qT_e2, qT_bCmp, qT_bCmpJ, qT_bAnd, qT_bOr, qT_bNot, qT_eBI, qT_eIf, qT_eLd, qT_eLdR, qT_eLen, qT_eF, qT_eFR, qT_aN, qT_aS, qT_eCl, qT_eClR, qT_eClB, qT_some, qT_x, z_nx_N, z_nx_B, z_nx_R, z_nx_X, z_bk_N, z_bk_B, z_bk_R, z_bk_X, oAdd, oSub, oMul, oNeg, cLt, cLe, cGt, cGe, cEq, cNe, Option.some.injEq, Sum.inl.injEq, Sum.inr.injEq, Prod.mk.injEq, exists_eq_left, exists_eq_left', exists_eq_right, exists_and_left, reduceCtorEq, and_true, true_and, and_false, false_and, List.getElem?_cons_zero, List.getElem?_cons_succ, List.set_cons_zero, List.set_cons_succ, List.replicate, List.length_cons, List.length_nil, List.cons_append, List.nil_append, Nat.reduceAdd, Nat.reduceSub, decide_eq_true_eq, decide_eq_false_iff_not, Bool.true_eq_false, Bool.false_eq_true, true_implies, false_implies, implies_true, Nat.reduceLT, exists_const, z_vB_inj, and_assoc, z_in_iff, oI2L, oL2I, Int.toNat_natCast, z_toNat0, Bool.not_eq_true', Bool.not_eq_false', ne_eq, Bool.not_true, Bool.not_false, Nat.add_zero, Int.add_zero, z_sl_s]
      exact ⟨by omega, by omega, by omega, by omega, by omega, q6, f6, m6, _, _, rfl⟩
  · rintro ρ h' ⟨q3, f3, m3, x, y, rfl⟩
    simp only [q_obj m3.1, hs, qS_nop, qS_seq, qS_set, qS_setJ, qS_if, qS_brk, qS_ret, qS_retV, qS_throw, qS_inc, qS_cl, qS_ast, qS_aop, qS_fst, qS_fop, qS_sw, qT_eC, qT_eCB, qT_eL, qT_eLJ, qT_eLR, qT_eLS, qT_eSLen, qT_eSLd, qT_eLB, qT_e1, qT_e2, qT_bCmp, qT_bCmpJ, qT_bAnd, qT_bOr, qT_bNot, qT_eBI, qT_eIf, qT_eLd, qT_eLdR, qT_eLen, qT_eF, qT_eFR, qT_aN, qT_aS, qT_eCl, qT_eClR, qT_eClB, qT_some, qT_x, z_nx_N, z_nx_B, z_nx_R, z_nx_X, z_bk_N, z_bk_B, z_bk_R, z_bk_X, oAdd, oSub, oMul, oNeg, cLt, cLe, cGt, cGe, cEq, cNe, Option.some.injEq, Sum.inl.injEq, Sum.inr.injEq, Prod.mk.injEq, exists_eq_left, exists_eq_left', exists_eq_right, exists_and_left, reduceCtorEq, and_true, true_and, and_false, false_and, List.getElem?_cons_zero, List.getElem?_cons_succ, List.set_cons_zero, List.set_cons_succ, List.replicate, List.length_cons, List.length_nil, List.cons_append, List.nil_append, Nat.reduceAdd, Nat.reduceSub, decide_eq_true_eq, decide_eq_false_iff_not, Bool.true_eq_false, Bool.false_eq_true, true_implies, false_implies, implies_true, Nat.reduceLT, exists_const, z_vB_inj, and_assoc, z_in_iff, oI2L, oL2I, Int.toNat_natCast, z_toNat0, Bool.not_eq_true', Bool.not_eq_false', ne_eq, Bool.not_true, Bool.not_false, Nat.add_zero, Int.add_zero, z_sl_s]
    exact ⟨by omega, by omega, by omega, by omega, by omega, q3, f3⟩
theorem s_leastSum2 {om em rm n : Nat} {M N : Nat → Nat → Int} (q : cAt h o a c P) (m : mAt h om em rm n M) (hn : 1 ≤ n ∧ n ≤ 5) (hE : ∀ i j, i < n → j < n → M i j = N i j) (hM : mBd N 100000) :
    ∃ h', m_X0_leastSum [vR o, vR om] h = some (.inl (some (vI ((cSets N n P (2 ^ n - 1)).1 (2 ^ n - 1)))), h') ∧ cAt h' o a c (cSets N n P (2 ^ n - 1)) ∧ z_fr (fun x => x = a ∨ x = c) h h' := by
  obtain ⟨h1, e1, q1, f1⟩ := s_choose2 q m hn hE hM
  have m1 := q.m m f1
  have hs := o_shl ⟨n, by omega⟩
  simp only at hs
  have p5 : 1 ≤ 2 ^ n ∧ 2 ^ n ≤ 32 := ⟨Nat.pow_pos (by decide), by have := Nat.pow_le_pow_right (show 2 > 0 by decide) hn.2; omega⟩
  have ek : (((2 ^ n : Nat) : Int) - 1).toNat = 2 ^ n - 1 := by omega
  unfold m_X0_leastSum
  rw [q_vm q.1]
  apply q_bodyV
  have b6 : INF = 1000000 := rfl
  simp only [b_X0_leastSum, e1, q_obj q1.1, q_obj m1.1, hs, q_arr q1.2.1 (by decide), ek, qS_nop, qS_seq, qS_set, qS_setJ, qS_if, qS_brk, qS_ret, qS_retV, qS_throw, qS_inc, qS_cl, qS_ast, qS_aop, qS_fst, qS_fop, qS_sw, qT_eC, qT_eCB, qT_eL, qT_eLJ, qT_eLR, qT_eLS, qT_eSLen, qT_eSLd, qT_eLB, qT_e1, qT_e2, qT_bCmp, qT_bCmpJ, qT_bAnd, qT_bOr, qT_bNot, qT_eBI, qT_eIf, qT_eLd, qT_eLdR, qT_eLen, qT_eF, qT_eFR, qT_aN, qT_aS, qT_eCl, qT_eClR, qT_eClB, qT_some, qT_x, z_nx_N, z_nx_B, z_nx_R, z_nx_X, z_bk_N, z_bk_B, z_bk_R, z_bk_X, oAdd, oSub, oMul, oNeg, cLt, cLe, cGt, cGe, cEq, cNe, Option.some.injEq, Sum.inl.injEq, Sum.inr.injEq, Prod.mk.injEq, exists_eq_left, exists_eq_left', exists_eq_right, exists_and_left, reduceCtorEq, and_true, true_and, and_false, false_and, List.getElem?_cons_zero, List.getElem?_cons_succ, List.set_cons_zero, List.set_cons_succ, List.replicate, List.length_cons, List.length_nil, List.cons_append, List.nil_append, Nat.reduceAdd, Nat.reduceSub, decide_eq_true_eq, decide_eq_false_iff_not, Bool.true_eq_false, Bool.false_eq_true, true_implies, false_implies, implies_true, Nat.reduceLT, exists_const, z_vB_inj, and_assoc, z_in_iff, oI2L, oL2I, Int.toNat_natCast, z_toNat0, Bool.not_eq_true', Bool.not_eq_false', ne_eq, Bool.not_true, Bool.not_false, Nat.add_zero, Int.add_zero, z_sl_s]
  exact ⟨by omega, by omega, q1, f1⟩
theorem s_countLeast2 {om em rm n : Nat} {M N : Nat → Nat → Int} (q : cAt h o a c P) (m : mAt h om em rm n M) (hn : 1 ≤ n ∧ n ≤ 5) (hE : ∀ i j, i < n → j < n → M i j = N i j) (hM : mBd N 100000) :
    ∃ h', m_X0_countLeast [vR o, vR om] h = some (.inl (some (vI ((cSets N n P (2 ^ n - 1)).2 (2 ^ n - 1)))), h') ∧ cAt h' o a c (cSets N n P (2 ^ n - 1)) ∧ z_fr (fun x => x = a ∨ x = c) h h' := by
  obtain ⟨h1, e1, q1, f1⟩ := s_choose2 q m hn hE hM
  have m1 := q.m m f1
  have hs := o_shl ⟨n, by omega⟩
  simp only at hs
  have p5 : 1 ≤ 2 ^ n ∧ 2 ^ n ≤ 32 := ⟨Nat.pow_pos (by decide), by have := Nat.pow_le_pow_right (show 2 > 0 by decide) hn.2; omega⟩
  have ek : (((2 ^ n : Nat) : Int) - 1).toNat = 2 ^ n - 1 := by omega
  unfold m_X0_countLeast
  rw [q_vm q.1]
  apply q_bodyV
  have b6 : INF = 1000000 := rfl
  simp only [b_X0_countLeast, e1, q_obj q1.1, q_obj m1.1, hs, q_arr q1.2.2.1 (by decide), ek, qS_nop, qS_seq, qS_set, qS_setJ, qS_if, qS_brk, qS_ret, qS_retV, qS_throw, qS_inc, qS_cl, qS_ast, qS_aop, qS_fst, qS_fop, qS_sw, qT_eC, qT_eCB, qT_eL, qT_eLJ, qT_eLR, qT_eLS, qT_eSLen, qT_eSLd, qT_eLB, qT_e1, qT_e2, qT_bCmp, qT_bCmpJ, qT_bAnd, qT_bOr, qT_bNot, qT_eBI, qT_eIf, qT_eLd, qT_eLdR, qT_eLen, qT_eF, qT_eFR, qT_aN, qT_aS, qT_eCl, qT_eClR, qT_eClB, qT_some, qT_x, z_nx_N, z_nx_B, z_nx_R, z_nx_X, z_bk_N, z_bk_B, z_bk_R, z_bk_X, oAdd, oSub, oMul, oNeg, cLt, cLe, cGt, cGe, cEq, cNe, Option.some.injEq, Sum.inl.injEq, Sum.inr.injEq, Prod.mk.injEq, exists_eq_left, exists_eq_left', exists_eq_right, exists_and_left, reduceCtorEq, and_true, true_and, and_false, false_and, List.getElem?_cons_zero, List.getElem?_cons_succ, List.set_cons_zero, List.set_cons_succ, List.replicate, List.length_cons, List.length_nil, List.cons_append, List.nil_append, Nat.reduceAdd, Nat.reduceSub, decide_eq_true_eq, decide_eq_false_iff_not, Bool.true_eq_false, Bool.false_eq_true, true_implies, false_implies, implies_true, Nat.reduceLT, exists_const, z_vB_inj, and_assoc, z_in_iff, oI2L, oL2I, Int.toNat_natCast, z_toNat0, Bool.not_eq_true', Bool.not_eq_false', ne_eq, Bool.not_true, Bool.not_false, Nat.add_zero, Int.add_zero, z_sl_s]
  exact ⟨by omega, by omega, q1, f1⟩
end CH2
section FDt
variable {S : Nat → Nat → Int}
/-- what lies ahead in the sums does not matter -/
theorem cCols_e {M : Nat → Nat → Int} {s : Nat} {P P' : (Nat → Int) × (Nat → Int)} (h0 : 0 < s) (hs : s < 32) (h : ∀ k, k < s → P.1 k = P'.1 k ∧ P.2 k = P'.2 k) : ∀ j, j ≤ 5 → ∀ k, k < s + 1 → (cCols M s P j).1 k = (cCols M s P' j).1 k ∧ (cCols M s P j).2 k = (cCols M s P' j).2 k
  | 0, _, k, hk => by
    unfold cCols z_up
    by_cases c : k = s
    · simp [c]
    · simp only [c, if_false]
      exact h k (by omega)
  | j + 1, hj, k, hk => by
    have ih := cCols_e (M := M) h0 hs h j (by omega)
    unfold cCols cCol
    by_cases tb : s.testBit j = true
    · rw [if_pos tb, if_pos tb]
      have ns := nb_sub ⟨s, hs⟩ ⟨j, by omega⟩ tb
      simp only at ns
      have pj : 0 < 2 ^ j := Nat.pow_pos (by decide)
      have i1 := ih (s - 2 ^ j) (by omega)
      have i2 := ih s (by omega)
      have i3 := ih k hk
      unfold cOff
      rw [i1.1, i2.1, i1.2, i2.2]
      unfold z_up
      by_cases c : k = s
      · subst c
        (repeat' split) <;> simp_all
      · (repeat' split) <;> simp_all
    · rw [if_neg tb, if_neg tb]
      exact ih k hk
theorem cSets_e {M : Nat → Nat → Int} {n : Nat} (hn : n ≤ 5) {P P' : (Nat → Int) × (Nat → Int)} : ∀ s, s < 32 → ∀ k, k < s + 1 → (cSets M n P s).1 k = (cSets M n P' s).1 k ∧ (cSets M n P s).2 k = (cSets M n P' s).2 k
  | 0, _, k, hk => by
    have : k = 0 := by omega
    subst this
    simp [cSets, z_up]
  | s + 1, hs, k, hk => cCols_e (Nat.succ_pos s) hs (fun k hk => cSets_e hn s (by omega) k hk) n hn k hk
theorem k_cA (S : Nat → Nat → Int) : cAt (k_W X S) 46 47 48 (S 47, S 48) := ⟨k_get (by decide), k_get (by decide), k_get (by decide), by decide⟩
/-- a heap in which sums and counts alone have changed -/
theorem k_backC {S : Nat → Nat → Int} {h' : z_Hp} {P : (Nat → Int) × (Nat → Int)} (a : cAt h' 46 47 48 P) (f : z_fr (fun x => x = 47 ∨ x = 48) (k_W X S) h') : h' = k_W X (k_u (k_u S 47 P.1) 48 P.2) := by
  have hf : ∀ q, q ≠ 47 → q ≠ 48 → h'[q]? = (k_W X S)[q]? := fun q h1 h2 => f q (by rintro (w | w); exact h1 w; exact h2 w)
  refine k_ext (T := S) (fun x hx => ?_) (fun x hx => hf x (by omega) (by omega))
  by_cases c : x = 48
  · subst c
    rw [a.2.2.1, k_u_s]
    rfl
  · by_cases d : x = 47
    · subst d
      rw [a.2.1, k_u_n (by decide), k_u_s]
      rfl
    · rw [hf x d c, k_get hx, k_u_n c, k_u_n d]
/-- a matrix's numbers alone -/
def cN (S : Nat → Nat → Int) (i n : Nat) : Nat → Nat → Int := fun x y => if x < n ∧ y < n then cM S i x y else INF
theorem cN_l {S : Nat → Nat → Int} {i n x y : Nat} (hx : x < n) (hy : y < n) : cN S i n x y = cM S i x y := if_pos ⟨hx, hy⟩
theorem cN_b {S : Nat → Nat → Int} (I : cInv S) {i n : Nat} (hi : i < 4) (e : S (51 + 9 * i) 0 = (n : Int)) : mBd (cN S i n) 100000 := fun x y hx hy => by
  have b6 : INF = 1000000 := rfl
  obtain ⟨n', a1, a2, a3, a4⟩ := I.2.1 i hi
  have en : n' = n := by omega
  subst en
  unfold cN
  split
  · next c =>
    have := a4 x y c.1 c.2
    omega
  · omega
end FDt
