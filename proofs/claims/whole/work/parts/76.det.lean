/-! THE FACE: determinant, ways -/
theorem nb_ltn : ∀ (n : Fin 6) (s : Fin 32), s.val < 2 ^ n.val → nb s.val ≤ n.val := by decide
section CH2
variable {h : z_Hp} {o a c : Nat} {P : (Nat → Int) × (Nat → Int)}
theorem s_choose2 {om em rm n : Nat} {M N : Nat → Nat → Int} (q : cAt h o a c P) (m : mAt h om em rm n M) (hn : 1 ≤ n ∧ n ≤ 5) (hE : ∀ i j, i < n → j < n → M i j = N i j) (hM : mBd N 100000) :
    ∃ h', m_X0_choose [vR o, vR om] h = some (.inl none, h') ∧ cAt h' o a c (cSets N n P (2 ^ n - 1)) ∧ z_fr (fun x => x = a ∨ x = c) h h' := by
  unfold m_X0_choose
  rw [q_vm q.1]
  apply q_bodyV
  have b6 : INF = 1000000 := rfl
  have fa : ∀ (h : z_Hp) x, z_fr (fun x => x = a ∨ x = c) h (h.set a x) := fun h x => z_fr.set (Or.inl rfl)
  have fc : ∀ (h : z_Hp) x, z_fr (fun x => x = a ∨ x = c) h (h.set c x) := fun h x => z_fr.set (Or.inr rfl)
  have q1 := q.sa (z_up P.1 0 0)
  have q2 := q1.sc (z_up P.2 0 1)
  have f2 := (fa h (.inr (0, 32, z_up P.1 0 0))).tr (fc _ (.inr (0, 32, z_up P.2 0 1)))
  have m2 := q.m m f2
  have hs := o_shl ⟨n, by omega⟩
  simp only at hs
  have p5 : 1 ≤ 2 ^ n ∧ 2 ^ n ≤ 32 := ⟨Nat.pow_pos (by decide), by have := Nat.pow_le_pow_right (show 2 > 0 by decide) hn.2; omega⟩
  simp only [b_X0_choose, q_obj q.1, q_arr q.2.1 (by decide), q_obj q1.1, q_arr q1.2.2.1 (by decide), qS_nop, qS_seq, qS_set, qS_setJ, qS_if, qS_brk, qS_ret, qS_retV, qS_throw, qS_inc, qS_cl, qS_ast, qS_aop, qS_fst, qS_fop, qS_sw, qT_eC, qT_eCB, qT_eL, qT_eLJ, qT_eLR, qT_eLB, qT_e1, qT_e2, qT_bCmp, qT_bCmpJ, qT_bAnd, qT_bOr, qT_bNot, qT_eBI, qT_eIf, qT_eLd, qT_eLdR, qT_eLen, qT_eF, qT_eFR, qT_aN, qT_aS, qT_eCl, qT_eClR, qT_eClB, qT_some, qT_x, z_nx_N, z_nx_B, z_nx_R, z_nx_X, z_bk_N, z_bk_B, z_bk_R, z_bk_X, oAdd, oSub, oMul, oNeg, cLt, cLe, cGt, cGe, cEq, cNe, Option.some.injEq, Sum.inl.injEq, Sum.inr.injEq, Prod.mk.injEq, exists_eq_left, exists_eq_left', exists_eq_right, exists_and_left, reduceCtorEq, and_true, true_and, and_false, false_and, List.getElem?_cons_zero, List.getElem?_cons_succ, List.set_cons_zero, List.set_cons_succ, List.replicate, List.length_cons, List.length_nil, List.cons_append, List.nil_append, Nat.reduceAdd, Nat.reduceSub, decide_eq_true_eq, decide_eq_false_iff_not, Bool.true_eq_false, Bool.false_eq_true, true_implies, false_implies, implies_true, Nat.reduceLT, exists_const, z_vB_inj, and_assoc, z_in_iff, oI2L, oL2I, Int.toNat_natCast, z_toNat0, Bool.not_eq_true', Bool.not_eq_false', ne_eq, Bool.not_true, Bool.not_false, Nat.add_zero, Int.add_zero, z_sl_s]
  refine ⟨by omega, by omega, by omega, by omega, ?_⟩
  generalize (h.set a (.inr (0, 32, z_up P.1 0 0))).set c (.inr (0, 32, z_up P.2 0 1)) = h2 at q2 f2 m2
  refine qS_loop (fun k ρ h' => cAt h' o a c (cSets N n P k) ∧ z_fr (fun x => x = a ∨ x = c) h h' ∧ mAt h' om em rm n M ∧ ∃ x y, ρ = [vR o, vR om, vI ((k : Int) + 1), x, y]) (2 ^ n - 1) ?_ ?_ (2 ^ n - 1) 0 z_fuel _ _ (by omega) (z_fuel_lt (by omega)) ⟨q2, f2, m2, _, _, rfl⟩
  · rintro k ρ h' hk ⟨q3, f3, m3, x, y, rfl⟩
    have q4 := q3.sa (z_up (cSets N n P k).1 (k + 1) INF)
    have q5 := q4.sc (z_up (cSets N n P k).2 (k + 1) 0)
    have f5 := (fa h' (.inr (0, 32, z_up (cSets N n P k).1 (k + 1) INF))).tr (fc _ (.inr (0, 32, z_up (cSets N n P k).2 (k + 1) 0)))
    have m5 := q3.m m3 f5
    have ek : ((k : Int) + 1).toNat = k + 1 := by omega
    simp only [q_obj m3.1, hs, q_obj q3.1, q_arr q3.2.1 (by decide), q_obj q4.1, q_arr q4.2.2.1 (by decide), ek, qS_nop, qS_seq, qS_set, qS_setJ, qS_if, qS_brk, qS_ret, qS_retV, qS_throw, qS_inc, qS_cl, qS_ast, qS_aop, qS_fst, qS_fop, qS_sw, qT_eC, qT_eCB, qT_eL, qT_eLJ, qT_eLR, qT_eLB, qT_e1, qT_e2, qT_bCmp, qT_bCmpJ, qT_bAnd, qT_bOr, qT_bNot, qT_eBI, qT_eIf, qT_eLd, qT_eLdR, qT_eLen, qT_eF, qT_eFR, qT_aN, qT_aS, qT_eCl, qT_eClR, qT_eClB, qT_some, qT_x, z_nx_N, z_nx_B, z_nx_R, z_nx_X, z_bk_N, z_bk_B, z_bk_R, z_bk_X, oAdd, oSub, oMul, oNeg, cLt, cLe, cGt, cGe, cEq, cNe, Option.some.injEq, Sum.inl.injEq, Sum.inr.injEq, Prod.mk.injEq, exists_eq_left, exists_eq_left', exists_eq_right, exists_and_left, reduceCtorEq, and_true, true_and, and_false, false_and, List.getElem?_cons_zero, List.getElem?_cons_succ, List.set_cons_zero, List.set_cons_succ, List.replicate, List.length_cons, List.length_nil, List.cons_append, List.nil_append, Nat.reduceAdd, Nat.reduceSub, decide_eq_true_eq, decide_eq_false_iff_not, Bool.true_eq_false, Bool.false_eq_true, true_implies, false_implies, implies_true, Nat.reduceLT, exists_const, z_vB_inj, and_assoc, z_in_iff, oI2L, oL2I, Int.toNat_natCast, z_toNat0, Bool.not_eq_true', Bool.not_eq_false', ne_eq, Bool.not_true, Bool.not_false, Nat.add_zero, Int.add_zero, z_sl_s]
    refine ⟨by omega, by omega, by omega, by omega, by omega, by omega, by omega, by omega, by omega, ?_⟩
    generalize (h'.set a (.inr (0, 32, z_up (cSets N n P k).1 (k + 1) 1000000))).set c (.inr (0, 32, z_up (cSets N n P k).2 (k + 1) 0)) = h5 at q5 f5 m5
    refine qS_loop (fun j ρ h' => cAt h' o a c (cCols N (k + 1) (cSets N n P k) j) ∧ z_fr (fun x => x = a ∨ x = c) h h' ∧ mAt h' om em rm n M ∧ ∃ y, ρ = [vR o, vR om, vI ((k : Int) + 1), vI (j : Int), y]) n ?_ ?_ n 0 z_fuel _ _ (by omega) (z_fuel_lt (by omega)) ⟨q5, f3.tr f5, m5, _, rfl⟩
    · rintro j ρ h6 hj ⟨q6, f6, m6, y, rfl⟩
      have b1 := o_shr ⟨k + 1, by omega⟩ ⟨j, by omega⟩
      have b0 : (k + 1) / 2 ^ j < 32 := Nat.lt_of_le_of_lt (Nat.div_le_self _ _) (by omega)
      have b2 := o_and ⟨(k + 1) / 2 ^ j, b0⟩
      have b3 := o_bit ⟨k + 1, by omega⟩ ⟨j, by omega⟩
      have b4 := o_shl ⟨j, by omega⟩
      have b5 := s_bits ⟨k + 1, by omega⟩ h6
      simp only [Int.natCast_add, Int.natCast_one] at b1 b2 b3 b4 b5
      change m_J6_bitCount_0f7a4 [vI ((k : Int) + 1)] h6 = some (Sum.inl (some (vI ((nb (k + 1) : Nat) : Int))), h6) at b5
      simp only [q_obj m6.1, b1, b2, b4, b5, qS_nop, qS_seq, qS_set, qS_setJ, qS_if, qS_brk, qS_ret, qS_retV, qS_throw, qS_inc, qS_cl, qS_ast, qS_aop, qS_fst, qS_fop, qS_sw, qT_eC, qT_eCB, qT_eL, qT_eLJ, qT_eLR, qT_eLB, qT_e1, qT_e2, qT_bCmp, qT_bCmpJ, qT_bAnd, qT_bOr, qT_bNot, qT_eBI, qT_eIf, qT_eLd, qT_eLdR, qT_eLen, qT_eF, qT_eFR, qT_aN, qT_aS, qT_eCl, qT_eClR, qT_eClB, qT_some, qT_x, z_nx_N, z_nx_B, z_nx_R, z_nx_X, z_bk_N, z_bk_B, z_bk_R, z_bk_X, oAdd, oSub, oMul, oNeg, cLt, cLe, cGt, cGe, cEq, cNe, Option.some.injEq, Sum.inl.injEq, Sum.inr.injEq, Prod.mk.injEq, exists_eq_left, exists_eq_left', exists_eq_right, exists_and_left, reduceCtorEq, and_true, true_and, and_false, false_and, List.getElem?_cons_zero, List.getElem?_cons_succ, List.set_cons_zero, List.set_cons_succ, List.replicate, List.length_cons, List.length_nil, List.cons_append, List.nil_append, Nat.reduceAdd, Nat.reduceSub, decide_eq_true_eq, decide_eq_false_iff_not, Bool.true_eq_false, Bool.false_eq_true, true_implies, false_implies, implies_true, Nat.reduceLT, exists_const, z_vB_inj, and_assoc, z_in_iff, oI2L, oL2I, Int.toNat_natCast, z_toNat0, Bool.not_eq_true', Bool.not_eq_false', ne_eq, Bool.not_true, Bool.not_false, Nat.add_zero, Int.add_zero, z_sl_s]
      have n0 := nb_pos ⟨k + 1, by omega⟩ (Nat.succ_pos k)
      have n1 := nb_le ⟨k + 1, by omega⟩
      simp only at n0 n1
      refine ⟨by omega, by omega, by omega, by omega, by omega, by omega, by omega, by omega, by omega, fun w => ?_, fun w => ?_⟩
      · obtain ⟨fo, c1, c2, cc⟩ := m6.row2
        have tb := b3.mp w
        have ns := nb_sub ⟨k + 1, by omega⟩ ⟨j, by omega⟩ tb
        simp only at ns
        have pj : 0 < 2 ^ j := Nat.pow_pos (by decide)
        obtain ⟨c3, c4, c5⟩ := cc (nb (k + 1) - 1) (by omega)
        have en : (((nb (k + 1) : Nat) : Int) - 1).toNat = nb (k + 1) - 1 := by omega
        have el : (k : Int) + 1 - ((2 ^ j : Nat) : Int) = ((k + 1 - 2 ^ j : Nat) : Int) := by omega
        have hin := cSets_in (P := P) hM hn.2 k (by omega)
        have hcol := cCols_in hM (show 0 < k + 1 by omega) (show k + 1 < 32 by omega) hin j (by omega)
        have hl := hin (k + 1 - 2 ^ j) (by omega)
        have hl2 := hcol.1 (k + 1 - 2 ^ j) (by omega)
        have hn5 := nb_le ⟨k + 1 - 2 ^ j, by omega⟩
        simp only at hn5
        have p5 : (5 : Int) ^ nb (k + 1 - 2 ^ j) ≤ 3125 := by
          have : 5 ^ nb (k + 1 - 2 ^ j) ≤ 5 ^ 5 := Nat.pow_le_pow_right (by decide) hn5
          have := Int.ofNat_le.mpr this
          simpa using this
        have p6 : (j : Int) * (5 : Int) ^ (nb (k + 1) - 1) ≤ 15625 := by
          have : j * 5 ^ (nb (k + 1) - 1) ≤ 5 * 5 ^ 5 := Nat.mul_le_mul (by omega) (Nat.pow_le_pow_right (by decide) (by omega))
          have := Int.ofNat_le.mpr this
          simpa using this
        have hm := hM (nb (k + 1) - 1) j (by omega) (by omega)
        have hnn := nb_ltn ⟨n, by omega⟩ ⟨k + 1, by omega⟩ (by simp only; omega)
        simp only at hnn
        have hEe := hE (nb (k + 1) - 1) j (by omega) (by omega)
        rw [← hEe] at hm
        have so := s_offer q6 (s := k + 1) (l := k + 1 - 2 ^ j) (by omega) (by omega) (by omega) (e := M (nb (k + 1) - 1) j) hm ⟨by omega, by omega⟩ ⟨by rw [hl2.1]; omega, by rw [hl2.1]; omega⟩ ⟨by omega, by omega⟩ ⟨by rw [hl2.2]; omega, by rw [hl2.2]; omega⟩
        refine ⟨5, fo, c2, by omega, by omega, by rw [en]; exact c3, 5, M (nb (k + 1) - 1), by rw [en, c4]; exact c5, by omega, by omega, ?_⟩
        rw [el]
        obtain ⟨h7, g1, g2, g3⟩ := so
        rw [Int.natCast_add, Int.natCast_one] at g1
        simp only [g1, qS_nop, qS_seq, qS_set, qS_setJ, qS_if, qS_brk, qS_ret, qS_retV, qS_throw, qS_inc, qS_cl, qS_ast, qS_aop, qS_fst, qS_fop, qS_sw, qT_eC, qT_eCB, qT_eL, qT_eLJ, qT_eLR, qT_eLB, qT_e1, qT_e2, qT_bCmp, qT_bCmpJ, qT_bAnd, qT_bOr, qT_bNot, qT_eBI, qT_eIf, qT_eLd, qT_eLdR, qT_eLen, qT_eF, qT_eFR, qT_aN, qT_aS, qT_eCl, qT_eClR, qT_eClB, qT_some, qT_x, z_nx_N, z_nx_B, z_nx_R, z_nx_X, z_bk_N, z_bk_B, z_bk_R, z_bk_X, oAdd, oSub, oMul, oNeg, cLt, cLe, cGt, cGe, cEq, cNe, Option.some.injEq, Sum.inl.injEq, Sum.inr.injEq, Prod.mk.injEq, exists_eq_left, exists_eq_left', exists_eq_right, exists_and_left, reduceCtorEq, and_true, true_and, and_false, false_and, List.getElem?_cons_zero, List.getElem?_cons_succ, List.set_cons_zero, List.set_cons_succ, List.replicate, List.length_cons, List.length_nil, List.cons_append, List.nil_append, Nat.reduceAdd, Nat.reduceSub, decide_eq_true_eq, decide_eq_false_iff_not, Bool.true_eq_false, Bool.false_eq_true, true_implies, false_implies, implies_true, Nat.reduceLT, exists_const, z_vB_inj, and_assoc, z_in_iff, oI2L, oL2I, Int.toNat_natCast, z_toNat0, Bool.not_eq_true', Bool.not_eq_false', ne_eq, Bool.not_true, Bool.not_false, Nat.add_zero, Int.add_zero, z_sl_s]
        refine ⟨?_, f6.tr g3, q6.m m6 g3, _, rfl⟩
        rw [cCols, cCol, if_pos tb, ← hEe]
        exact g2
      · refine ⟨?_, f6, m6, _, rfl⟩
        rw [cCols, cCol, if_neg (fun q => w (b3.mpr q))]
        exact q6
    · rintro ρ h6 ⟨q6, f6, m6, y, rfl⟩
      simp only [q_obj m6.1, qS_nop, qS_seq, qS_set, qS_setJ, qS_if, qS_brk, qS_ret, qS_retV, qS_throw, qS_inc, qS_cl, qS_ast, qS_aop, qS_fst, qS_fop, qS_sw, qT_eC, qT_eCB, qT_eL, qT_eLJ, qT_eLR, qT_eLB, qT_e1, qT_e2, qT_bCmp, qT_bCmpJ, qT_bAnd, qT_bOr, qT_bNot, qT_eBI, qT_eIf, qT_eLd, qT_eLdR, qT_eLen, qT_eF, qT_eFR, qT_aN, qT_aS, qT_eCl, qT_eClR, qT_eClB, qT_some, qT_x, z_nx_N, z_nx_B, z_nx_R, z_nx_X, z_bk_N, z_bk_B, z_bk_R, z_bk_X, oAdd, oSub, oMul, oNeg, cLt, cLe, cGt, cGe, cEq, cNe, Option.some.injEq, Sum.inl.injEq, Sum.inr.injEq, Prod.mk.injEq, exists_eq_left, exists_eq_left', exists_eq_right, exists_and_left, reduceCtorEq, and_true, true_and, and_false, false_and, List.getElem?_cons_zero, List.getElem?_cons_succ, List.set_cons_zero, List.set_cons_succ, List.replicate, List.length_cons, List.length_nil, List.cons_append, List.nil_append, Nat.reduceAdd, Nat.reduceSub, decide_eq_true_eq, decide_eq_false_iff_not, Bool.true_eq_false, Bool.false_eq_true, true_implies, false_implies, implies_true, Nat.reduceLT, exists_const, z_vB_inj, and_assoc, z_in_iff, oI2L, oL2I, Int.toNat_natCast, z_toNat0, Bool.not_eq_true', Bool.not_eq_false', ne_eq, Bool.not_true, Bool.not_false, Nat.add_zero, Int.add_zero, z_sl_s]
      exact ⟨by omega, by omega, by omega, by omega, by omega, q6, f6, m6, _, _, rfl⟩
  · rintro ρ h' ⟨q3, f3, m3, x, y, rfl⟩
    simp only [q_obj m3.1, hs, qS_nop, qS_seq, qS_set, qS_setJ, qS_if, qS_brk, qS_ret, qS_retV, qS_throw, qS_inc, qS_cl, qS_ast, qS_aop, qS_fst, qS_fop, qS_sw, qT_eC, qT_eCB, qT_eL, qT_eLJ, qT_eLR, qT_eLB, qT_e1, qT_e2, qT_bCmp, qT_bCmpJ, qT_bAnd, qT_bOr, qT_bNot, qT_eBI, qT_eIf, qT_eLd, qT_eLdR, qT_eLen, qT_eF, qT_eFR, qT_aN, qT_aS, qT_eCl, qT_eClR, qT_eClB, qT_some, qT_x, z_nx_N, z_nx_B, z_nx_R, z_nx_X, z_bk_N, z_bk_B, z_bk_R, z_bk_X, oAdd, oSub, oMul, oNeg, cLt, cLe, cGt, cGe, cEq, cNe, Option.some.injEq, Sum.inl.injEq, Sum.inr.injEq, Prod.mk.injEq, exists_eq_left, exists_eq_left', exists_eq_right, exists_and_left, reduceCtorEq, and_true, true_and, and_false, false_and, List.getElem?_cons_zero, List.getElem?_cons_succ, List.set_cons_zero, List.set_cons_succ, List.replicate, List.length_cons, List.length_nil, List.cons_append, List.nil_append, Nat.reduceAdd, Nat.reduceSub, decide_eq_true_eq, decide_eq_false_iff_not, Bool.true_eq_false, Bool.false_eq_true, true_implies, false_implies, implies_true, Nat.reduceLT, exists_const, z_vB_inj, and_assoc, z_in_iff, oI2L, oL2I, Int.toNat_natCast, z_toNat0, Bool.not_eq_true', Bool.not_eq_false', ne_eq, Bool.not_true, Bool.not_false, Nat.add_zero, Int.add_zero, z_sl_s]
    exact ⟨by omega, by omega, by omega, by omega, by omega, q3, f3⟩
theorem s_leastSum2 {om em rm n : Nat} {M N : Nat → Nat → Int} (q : cAt h o a c P) (m : mAt h om em rm n M) (hn : 1 ≤ n ∧ n ≤ 5) (hE : ∀ i j, i < n → j < n → M i j = N i j) (hM : mBd N 100000) :
    ∃ h', m_X0_leastSum [vR o, vR om] h = some (.inl (some (vI ((cSets N n P (2 ^ n - 1)).1 (2 ^ n - 1)))), h') ∧ cAt h' o a c (cSets N n P (2 ^ n - 1)) ∧ z_fr (fun x => x = a ∨ x = c) h h' := by
  obtain ⟨h1, e1, q1, f1⟩ := s_choose2 q m hn hE hM
  have m1 := q.m m f1
  have hs := o_shl ⟨n, by omega⟩
  simp only at hs
  have p5 : 1 ≤ 2 ^ n ∧ 2 ^ n ≤ 32 := ⟨Nat.pow_pos (by decide), by have := Nat.pow_le_pow_right (show 2 > 0 by decide) hn.2; omega⟩
  have ek : (((2 ^ n : Nat) : Int) - 1).toNat = 2 ^ n - 1 := by omega
  unfold m_X0_leastSum
  rw [q_vm q.1]
  apply q_bodyV
  have b6 : INF = 1000000 := rfl
  simp only [b_X0_leastSum, e1, q_obj q1.1, q_obj m1.1, hs, q_arr q1.2.1 (by decide), ek, qS_nop, qS_seq, qS_set, qS_setJ, qS_if, qS_brk, qS_ret, qS_retV, qS_throw, qS_inc, qS_cl, qS_ast, qS_aop, qS_fst, qS_fop, qS_sw, qT_eC, qT_eCB, qT_eL, qT_eLJ, qT_eLR, qT_eLB, qT_e1, qT_e2, qT_bCmp, qT_bCmpJ, qT_bAnd, qT_bOr, qT_bNot, qT_eBI, qT_eIf, qT_eLd, qT_eLdR, qT_eLen, qT_eF, qT_eFR, qT_aN, qT_aS, qT_eCl, qT_eClR, qT_eClB, qT_some, qT_x, z_nx_N, z_nx_B, z_nx_R, z_nx_X, z_bk_N, z_bk_B, z_bk_R, z_bk_X, oAdd, oSub, oMul, oNeg, cLt, cLe, cGt, cGe, cEq, cNe, Option.some.injEq, Sum.inl.injEq, Sum.inr.injEq, Prod.mk.injEq, exists_eq_left, exists_eq_left', exists_eq_right, exists_and_left, reduceCtorEq, and_true, true_and, and_false, false_and, List.getElem?_cons_zero, List.getElem?_cons_succ, List.set_cons_zero, List.set_cons_succ, List.replicate, List.length_cons, List.length_nil, List.cons_append, List.nil_append, Nat.reduceAdd, Nat.reduceSub, decide_eq_true_eq, decide_eq_false_iff_not, Bool.true_eq_false, Bool.false_eq_true, true_implies, false_implies, implies_true, Nat.reduceLT, exists_const, z_vB_inj, and_assoc, z_in_iff, oI2L, oL2I, Int.toNat_natCast, z_toNat0, Bool.not_eq_true', Bool.not_eq_false', ne_eq, Bool.not_true, Bool.not_false, Nat.add_zero, Int.add_zero, z_sl_s]
  exact ⟨by omega, by omega, q1, f1⟩
theorem s_countLeast2 {om em rm n : Nat} {M N : Nat → Nat → Int} (q : cAt h o a c P) (m : mAt h om em rm n M) (hn : 1 ≤ n ∧ n ≤ 5) (hE : ∀ i j, i < n → j < n → M i j = N i j) (hM : mBd N 100000) :
    ∃ h', m_X0_countLeast [vR o, vR om] h = some (.inl (some (vI ((cSets N n P (2 ^ n - 1)).2 (2 ^ n - 1)))), h') ∧ cAt h' o a c (cSets N n P (2 ^ n - 1)) ∧ z_fr (fun x => x = a ∨ x = c) h h' := by
  obtain ⟨h1, e1, q1, f1⟩ := s_choose2 q m hn hE hM
  have m1 := q.m m f1
  have hs := o_shl ⟨n, by omega⟩
  simp only at hs
  have p5 : 1 ≤ 2 ^ n ∧ 2 ^ n ≤ 32 := ⟨Nat.pow_pos (by decide), by have := Nat.pow_le_pow_right (show 2 > 0 by decide) hn.2; omega⟩
  have ek : (((2 ^ n : Nat) : Int) - 1).toNat = 2 ^ n - 1 := by omega
  unfold m_X0_countLeast
  rw [q_vm q.1]
  apply q_bodyV
  have b6 : INF = 1000000 := rfl
  simp only [b_X0_countLeast, e1, q_obj q1.1, q_obj m1.1, hs, q_arr q1.2.2.1 (by decide), ek, qS_nop, qS_seq, qS_set, qS_setJ, qS_if, qS_brk, qS_ret, qS_retV, qS_throw, qS_inc, qS_cl, qS_ast, qS_aop, qS_fst, qS_fop, qS_sw, qT_eC, qT_eCB, qT_eL, qT_eLJ, qT_eLR, qT_eLB, qT_e1, qT_e2, qT_bCmp, qT_bCmpJ, qT_bAnd, qT_bOr, qT_bNot, qT_eBI, qT_eIf, qT_eLd, qT_eLdR, qT_eLen, qT_eF, qT_eFR, qT_aN, qT_aS, qT_eCl, qT_eClR, qT_eClB, qT_some, qT_x, z_nx_N, z_nx_B, z_nx_R, z_nx_X, z_bk_N, z_bk_B, z_bk_R, z_bk_X, oAdd, oSub, oMul, oNeg, cLt, cLe, cGt, cGe, cEq, cNe, Option.some.injEq, Sum.inl.injEq, Sum.inr.injEq, Prod.mk.injEq, exists_eq_left, exists_eq_left', exists_eq_right, exists_and_left, reduceCtorEq, and_true, true_and, and_false, false_and, List.getElem?_cons_zero, List.getElem?_cons_succ, List.set_cons_zero, List.set_cons_succ, List.replicate, List.length_cons, List.length_nil, List.cons_append, List.nil_append, Nat.reduceAdd, Nat.reduceSub, decide_eq_true_eq, decide_eq_false_iff_not, Bool.true_eq_false, Bool.false_eq_true, true_implies, false_implies, implies_true, Nat.reduceLT, exists_const, z_vB_inj, and_assoc, z_in_iff, oI2L, oL2I, Int.toNat_natCast, z_toNat0, Bool.not_eq_true', Bool.not_eq_false', ne_eq, Bool.not_true, Bool.not_false, Nat.add_zero, Int.add_zero, z_sl_s]
  exact ⟨by omega, by omega, q1, f1⟩
end CH2
section FDt
variable {S : Nat → Nat → Int}
/-- what lies ahead in the sums does not matter -/
theorem cCols_e {M : Nat → Nat → Int} {s : Nat} {P P' : (Nat → Int) × (Nat → Int)} (h0 : 0 < s) (hs : s < 32) (h : ∀ k, k < s → P.1 k = P'.1 k ∧ P.2 k = P'.2 k) : ∀ j, j ≤ 5 → ∀ k, k < s + 1 → (cCols M s P j).1 k = (cCols M s P' j).1 k ∧ (cCols M s P j).2 k = (cCols M s P' j).2 k
  | 0, _, k, hk => by
    unfold cCols z_up
    by_cases c : k = s
    · simp [c]
    · simp only [c, if_false]
      exact h k (by omega)
  | j + 1, hj, k, hk => by
    have ih := cCols_e (M := M) h0 hs h j (by omega)
    unfold cCols cCol
    by_cases tb : s.testBit j = true
    · rw [if_pos tb, if_pos tb]
      have ns := nb_sub ⟨s, hs⟩ ⟨j, by omega⟩ tb
      simp only at ns
      have pj : 0 < 2 ^ j := Nat.pow_pos (by decide)
      have i1 := ih (s - 2 ^ j) (by omega)
      have i2 := ih s (by omega)
      have i3 := ih k hk
      unfold cOff
      rw [i1.1, i2.1, i1.2, i2.2]
      unfold z_up
      by_cases c : k = s
      · subst c
        (repeat' split) <;> simp_all
      · (repeat' split) <;> simp_all
    · rw [if_neg tb, if_neg tb]
      exact ih k hk
theorem cSets_e {M : Nat → Nat → Int} {n : Nat} (hn : n ≤ 5) {P P' : (Nat → Int) × (Nat → Int)} : ∀ s, s < 32 → ∀ k, k < s + 1 → (cSets M n P s).1 k = (cSets M n P' s).1 k ∧ (cSets M n P s).2 k = (cSets M n P' s).2 k
  | 0, _, k, hk => by
    have : k = 0 := by omega
    subst this
    simp [cSets, z_up]
  | s + 1, hs, k, hk => cCols_e (Nat.succ_pos s) hs (fun k hk => cSets_e hn s (by omega) k hk) n hn k hk
theorem k_cA (S : Nat → Nat → Int) : cAt (k_W S) 46 47 48 (S 47, S 48) := ⟨k_get (by decide), k_get (by decide), k_get (by decide), by decide⟩
/-- a heap in which sums and counts alone have changed -/
theorem k_backC {S : Nat → Nat → Int} {h' : z_Hp} {P : (Nat → Int) × (Nat → Int)} (a : cAt h' 46 47 48 P) (f : z_fr (fun x => x = 47 ∨ x = 48) (k_W S) h') : h' = k_W (k_u (k_u S 47 P.1) 48 P.2) := by
  have hf : ∀ q, q ≠ 47 → q ≠ 48 → h'[q]? = (k_W S)[q]? := fun q h1 h2 => f q (by rintro (w | w); exact h1 w; exact h2 w)
  refine k_ext ?_ (fun x hx => ?_)
  · have l1 := hf 104 (by omega) (by omega)
    have l2 := hf 103 (by omega) (by omega)
    rw [k_get (by omega)] at l2
    rw [(List.getElem?_eq_none (Nat.le_of_eq (k_len S)) : (k_W S)[104]? = none)] at l1
    have l3 := List.getElem?_eq_none_iff.mp l1
    have l4 : 103 < h'.length := by
      by_cases c : 103 < h'.length
      · exact c
      · rw [List.getElem?_eq_none (by omega)] at l2
        cases l2
    omega
  · by_cases c : x = 48
    · subst c
      rw [a.2.2.1, k_u_s]
      rfl
    · by_cases d : x = 47
      · subst d
        rw [a.2.1, k_u_n (by decide), k_u_s]
        rfl
      · rw [hf x d c, k_get hx, k_u_n c, k_u_n d]
theorem op_determinant (I : kInv S) {p : Int} (hp : kR p) : kOp m_X5_determinant m_X6_determinant kIO "" [vI p] S := by
  have b6 : INF = 1000000 := rfl
  by_cases q0 : 0 ≤ p ∧ p ≤ 3
  rotate_left
  · have c0 := s_nH0 hp q0
    have r0 := rf_one0 hp q0
    refine kOp.x1 (r := vI 0) (S1 := S) (S2 := fun g => k_t (k_u S 103 g) 1) ?_ (fun g => ?_) (fun g => I.t g 1) (fun g => k_t_103) (fun g => k_t_1)
    · unfold m_X5_determinant
      rw [k_v0]
      apply q_body
      have b6 : INF = 1000000 := rfl
      simp only [b_X5_determinant, c0, qS_nop, qS_seq, qS_set, qS_setJ, qS_if, qS_brk, qS_ret, qS_retV, qS_throw, qS_inc, qS_cl, qS_ast, qS_aop, qS_fst, qS_fop, qS_sw, qT_eC, qT_eCB, qT_eL, qT_eLJ, qT_eLR, qT_eLB, qT_e1, qT_e2, qT_bCmp, qT_bCmpJ, qT_bAnd, qT_bOr, qT_bNot, qT_eBI, qT_eIf, qT_eLd, qT_eLdR, qT_eLen, qT_eF, qT_eFR, qT_aN, qT_aS, qT_eCl, qT_eClR, qT_eClB, qT_some, qT_x, z_nx_N, z_nx_B, z_nx_R, z_nx_X, z_bk_N, z_bk_B, z_bk_R, z_bk_X, oAdd, oSub, oMul, oNeg, cLt, cLe, cGt, cGe, cEq, cNe, Option.some.injEq, Sum.inl.injEq, Sum.inr.injEq, Prod.mk.injEq, exists_eq_left, exists_eq_left', exists_eq_right, exists_and_left, reduceCtorEq, and_true, true_and, and_false, false_and, List.getElem?_cons_zero, List.getElem?_cons_succ, List.set_cons_zero, List.set_cons_succ, List.replicate, List.length_cons, List.length_nil, List.cons_append, List.nil_append, Nat.reduceAdd, Nat.reduceSub, decide_eq_true_eq, decide_eq_false_iff_not, Bool.true_eq_false, Bool.false_eq_true, true_implies, false_implies, implies_true, Nat.reduceLT, exists_const, z_vB_inj, and_assoc, z_in_iff, oI2L, oL2I, Int.toNat_natCast, z_toNat0, Bool.not_eq_true', Bool.not_eq_false', ne_eq, Bool.not_true, Bool.not_false, Nat.add_zero, Int.add_zero, z_sl_s]
    · unfold m_X6_determinant
      rw [k_v85]
      apply q_body
      have b6 : INF = 1000000 := rfl
      simp only [b_X6_determinant, r0, rf_can1, z_vB1, z_vB0, if_true, if_false, not_true_eq_false, not_false_eq_true, k_t_n, k_t_1, exists_eq, k_v85, k_o85, k_r0, k_r1, k_r2, k_r3, k_r4, k_r5, k_r6, k_r7, k_r8, k_r9, k_r10, k_r11, k_r12, k_r13, k_r14, k_r15, k_r16, k_r17, k_r18, k_rl, k_sc, k_st, k_a86, k_s86, k_a87, k_s87, k_a88, k_s88, k_a89, k_s89, k_a90, k_s90, k_a91, k_s91, k_a92, k_s92, k_a93, k_s93, k_a94, k_s94, k_a95, k_s95, k_a96, k_s96, k_a97, k_s97, k_a98, k_s98, k_a99, k_s99, k_a100, k_s100, k_a101, k_s101, k_a102, k_s102, k_u_s, k_u_n, k_u_u, Nat.reduceEqDiff, not_false_eq_true, qS_nop, qS_seq, qS_set, qS_setJ, qS_if, qS_brk, qS_ret, qS_retV, qS_throw, qS_inc, qS_cl, qS_ast, qS_aop, qS_fst, qS_fop, qS_sw, qT_eC, qT_eCB, qT_eL, qT_eLJ, qT_eLR, qT_eLB, qT_e1, qT_e2, qT_bCmp, qT_bCmpJ, qT_bAnd, qT_bOr, qT_bNot, qT_eBI, qT_eIf, qT_eLd, qT_eLdR, qT_eLen, qT_eF, qT_eFR, qT_aN, qT_aS, qT_eCl, qT_eClR, qT_eClB, qT_some, qT_x, z_nx_N, z_nx_B, z_nx_R, z_nx_X, z_bk_N, z_bk_B, z_bk_R, z_bk_X, oAdd, oSub, oMul, oNeg, cLt, cLe, cGt, cGe, cEq, cNe, Option.some.injEq, Sum.inl.injEq, Sum.inr.injEq, Prod.mk.injEq, exists_eq_left, exists_eq_left', exists_eq_right, exists_and_left, reduceCtorEq, and_true, true_and, and_false, false_and, List.getElem?_cons_zero, List.getElem?_cons_succ, List.set_cons_zero, List.set_cons_succ, List.replicate, List.length_cons, List.length_nil, List.cons_append, List.nil_append, Nat.reduceAdd, Nat.reduceSub, decide_eq_true_eq, decide_eq_false_iff_not, Bool.true_eq_false, Bool.false_eq_true, true_implies, false_implies, implies_true, Nat.reduceLT, exists_const, z_vB_inj, and_assoc, z_in_iff, oI2L, oL2I, Int.toNat_natCast, z_toNat0, Bool.not_eq_true', Bool.not_eq_false', ne_eq, Bool.not_true, Bool.not_false, Nat.add_zero, Int.add_zero, z_sl_s]
  have c0 := s_nH1 (i := p) q0
  have r0 := rf_one1 (i := p) q0
  obtain ⟨i, rfl⟩ : ∃ i : Nat, p = i := ⟨p.toNat, by omega⟩
  have h_i : i < 4 := by omega
  obtain ⟨n, hnb, n51, n89, nB, nE, nW, nN⟩ := I.mm h_i
  have r2 := k_2r h_i
  have hs := o_shl ⟨n, by omega⟩
  simp only at hs
  have p5 : 1 ≤ 2 ^ n ∧ 2 ^ n ≤ 32 := ⟨Nat.pow_pos (by decide), by have := Nat.pow_le_pow_right (show 2 > 0 by decide) hnb.2; omega⟩
  have ek : (((2 ^ n : Nat) : Int) - 1).toNat = 2 ^ n - 1 := by omega
  obtain ⟨h', x1, x2, x3⟩ := s_leastSum2 (k_cA S) (k_mat (S := S) h_i n51) hnb nE (I.mb h_i)
  have x4 := k_backC x2 x3
  rw [x4] at x1
  have bb := cSets_in (P := (S 47, S 48)) (I.mb h_i) hnb.2 (2 ^ n - 1) (by omega) (2 ^ n - 1) (by omega)
  have n5 := nb_le ⟨2 ^ n - 1, by omega⟩
  simp only at n5
  obtain ⟨X, hX⟩ : ∃ X, X = k_u (k_u S 47 (cSets (rM S i) n (S 47, S 48) (2 ^ n - 1)).1) 48 (cSets (rM S i) n (S 47, S 48) (2 ^ n - 1)).2 := ⟨_, rfl⟩
  rw [← hX] at x1
  have Xo : ∀ a, a ≠ 47 → a ≠ 48 → X a = S a := fun a h1 h2 => by rw [hX, k_u_n h2, k_u_n h1]
  obtain ⟨G, hG⟩ : ∃ G : (Nat → Int) → (Nat → Int) × (Nat → Int), G = fun g => cSets (rM S i) n (S 96, S 97) (2 ^ n - 1) := ⟨_, rfl⟩
  have Ge : ∀ g, G g = cSets (rM S i) n (S 96, S 97) (2 ^ n - 1) := fun g => by rw [hG]
  have rc : ∀ g, m_X6_chooses [vR 85, vI (i : Int)] (k_W (k_t (k_u X 103 g) 0)) = some (.inl none, k_W (k_u (k_u (k_t (k_u X 103 g) 0) 96 (G g).1) 97 (G g).2)) := fun g => by
    have e90 : (k_t (k_u X 103 g) 0) 90 = S 90 := by rw [k_t_n (by decide), k_u_n (by decide), Xo _ (by decide) (by decide)]
    have e89 : (k_t (k_u X 103 g) 0) 89 = S 89 := by rw [k_t_n (by decide), k_u_n (by decide), Xo _ (by decide) (by decide)]
    have e96 : (k_t (k_u X 103 g) 0) 96 = S 96 := by rw [k_t_n (by decide), k_u_n (by decide), Xo _ (by decide) (by decide)]
    have e97 : (k_t (k_u X 103 g) 0) 97 = S 97 := by rw [k_t_n (by decide), k_u_n (by decide), Xo _ (by decide) (by decide)]
    have w := rf_chooses (S := k_t (k_u X 103 g) 0) h_i hnb (by rw [e89]; exact n89) (by rw [rM_u e90]; exact I.mb h_i)
    rw [rM_u e90, e96, e97] at w
    rw [Ge]
    exact w
  have same := (cSets_e (M := rM S i) (n := n) hnb.2 (P := (S 47, S 48)) (P' := (S 96, S 97)) (2 ^ n - 1) (by omega) (2 ^ n - 1) (by omega)).1
  have p25 : (5 : Int) ^ nb (2 ^ n - 1) ≤ 3125 := by
    have : 5 ^ nb (2 ^ n - 1) ≤ 5 ^ 5 := Nat.pow_le_pow_right (by decide) n5
    have := Int.ofNat_le.mpr this
    simpa using this
  have mm : ∀ g, m_X6_determinantOf [vR 85, vI (i : Int)] (k_W (k_t (k_u X 103 g) 0)) = some (.inl (some (vI ((cSets (rM S i) n (S 47, S 48) (2 ^ n - 1)).1 (2 ^ n - 1)))), k_W (k_u (k_u (k_t (k_u X 103 g) 0) 96 (G g).1) 97 (G g).2)) := fun g => by
    have e89 : (k_u (k_u (k_t (k_u X 103 g) 0) 96 (G g).1) 97 (G g).2) 89 = S 89 := by rw [k_u_n (by decide), k_u_n (by decide), k_t_n (by decide), k_u_n (by decide), Xo _ (by decide) (by decide)]
    have rcg := rc g
    have ev : (k_u (k_u (k_t (k_u X 103 g) 0) 96 (G g).1) 97 (G g).2) 96 (2 ^ n - 1) = (cSets (rM S i) n (S 47, S 48) (2 ^ n - 1)).1 (2 ^ n - 1) := by
      rw [k_u_n (by decide), k_u_s, Ge, same]
    obtain ⟨Z, hZ⟩ : ∃ Z, Z = k_u (k_u (k_t (k_u X 103 g) 0) 96 (G g).1) 97 (G g).2 := ⟨_, rfl⟩
    rw [← hZ] at rcg ev e89 ⊢
    unfold m_X6_determinantOf
    rw [k_v85]
    apply q_body
    have b6 : INF = 1000000 := rfl
    simp only [b_X6_determinantOf, rcg, e89, n89, hs, ek, ev, k_v85, k_o85, k_r0, k_r1, k_r2, k_r3, k_r4, k_r5, k_r6, k_r7, k_r8, k_r9, k_r10, k_r11, k_r12, k_r13, k_r14, k_r15, k_r16, k_r17, k_r18, k_rl, k_sc, k_st, k_a86, k_s86, k_a87, k_s87, k_a88, k_s88, k_a89, k_s89, k_a90, k_s90, k_a91, k_s91, k_a92, k_s92, k_a93, k_s93, k_a94, k_s94, k_a95, k_s95, k_a96, k_s96, k_a97, k_s97, k_a98, k_s98, k_a99, k_s99, k_a100, k_s100, k_a101, k_s101, k_a102, k_s102, k_u_s, k_u_n, k_u_u, Nat.reduceEqDiff, not_false_eq_true, qS_nop, qS_seq, qS_set, qS_setJ, qS_if, qS_brk, qS_ret, qS_retV, qS_throw, qS_inc, qS_cl, qS_ast, qS_aop, qS_fst, qS_fop, qS_sw, qT_eC, qT_eCB, qT_eL, qT_eLJ, qT_eLR, qT_eLB, qT_e1, qT_e2, qT_bCmp, qT_bCmpJ, qT_bAnd, qT_bOr, qT_bNot, qT_eBI, qT_eIf, qT_eLd, qT_eLdR, qT_eLen, qT_eF, qT_eFR, qT_aN, qT_aS, qT_eCl, qT_eClR, qT_eClB, qT_some, qT_x, z_nx_N, z_nx_B, z_nx_R, z_nx_X, z_bk_N, z_bk_B, z_bk_R, z_bk_X, oAdd, oSub, oMul, oNeg, cLt, cLe, cGt, cGe, cEq, cNe, Option.some.injEq, Sum.inl.injEq, Sum.inr.injEq, Prod.mk.injEq, exists_eq_left, exists_eq_left', exists_eq_right, exists_and_left, reduceCtorEq, and_true, true_and, and_false, false_and, List.getElem?_cons_zero, List.getElem?_cons_succ, List.set_cons_zero, List.set_cons_succ, List.replicate, List.length_cons, List.length_nil, List.cons_append, List.nil_append, Nat.reduceAdd, Nat.reduceSub, decide_eq_true_eq, decide_eq_false_iff_not, Bool.true_eq_false, Bool.false_eq_true, true_implies, false_implies, implies_true, Nat.reduceLT, exists_const, z_vB_inj, and_assoc, z_in_iff, oI2L, oL2I, Int.toNat_natCast, z_toNat0, Bool.not_eq_true', Bool.not_eq_false', ne_eq, Bool.not_true, Bool.not_false, Nat.add_zero, Int.add_zero, z_sl_s]
    omega
  refine kOp.ok (r := vI ((cSets (rM S i) n (S 47, S 48) (2 ^ n - 1)).1 (2 ^ n - 1))) (S1 := X) (S2 := fun g => k_u (k_u (k_t (k_u X 103 g) 0) 96 (G g).1) 97 (G g).2) ?_ (fun g => ?_) (fun g => I.eq (fun a ha => ?_)) (fun g => ?_) (fun g => ?_)
  · unfold m_X5_determinant
    rw [k_v0]
    apply q_body
    have b6 : INF = 1000000 := rfl
    simp only [b_X5_determinant, c0, k_o0, k_a2, r2, x1, qS_nop, qS_seq, qS_set, qS_setJ, qS_if, qS_brk, qS_ret, qS_retV, qS_throw, qS_inc, qS_cl, qS_ast, qS_aop, qS_fst, qS_fop, qS_sw, qT_eC, qT_eCB, qT_eL, qT_eLJ, qT_eLR, qT_eLB, qT_e1, qT_e2, qT_bCmp, qT_bCmpJ, qT_bAnd, qT_bOr, qT_bNot, qT_eBI, qT_eIf, qT_eLd, qT_eLdR, qT_eLen, qT_eF, qT_eFR, qT_aN, qT_aS, qT_eCl, qT_eClR, qT_eClB, qT_some, qT_x, z_nx_N, z_nx_B, z_nx_R, z_nx_X, z_bk_N, z_bk_B, z_bk_R, z_bk_X, oAdd, oSub, oMul, oNeg, cLt, cLe, cGt, cGe, cEq, cNe, Option.some.injEq, Sum.inl.injEq, Sum.inr.injEq, Prod.mk.injEq, exists_eq_left, exists_eq_left', exists_eq_right, exists_and_left, reduceCtorEq, and_true, true_and, and_false, false_and, List.getElem?_cons_zero, List.getElem?_cons_succ, List.set_cons_zero, List.set_cons_succ, List.replicate, List.length_cons, List.length_nil, List.cons_append, List.nil_append, Nat.reduceAdd, Nat.reduceSub, decide_eq_true_eq, decide_eq_false_iff_not, Bool.true_eq_false, Bool.false_eq_true, true_implies, false_implies, implies_true, Nat.reduceLT, exists_const, z_vB_inj, and_assoc, z_in_iff, oI2L, oL2I, Int.toNat_natCast, z_toNat0, Bool.not_eq_true', Bool.not_eq_false', ne_eq, Bool.not_true, Bool.not_false, Nat.add_zero, Int.add_zero, z_sl_s]
    omega
  · have mg := mm g
    unfold m_X6_determinant
    rw [k_v85]
    apply q_body
    have b6 : INF = 1000000 := rfl
    simp only [b_X6_determinant, r0, rf_can0, mg, z_vB1, z_vB0, if_true, if_false, not_true_eq_false, not_false_eq_true, k_t_n, k_t_1, exists_eq, qS_nop, qS_seq, qS_set, qS_setJ, qS_if, qS_brk, qS_ret, qS_retV, qS_throw, qS_inc, qS_cl, qS_ast, qS_aop, qS_fst, qS_fop, qS_sw, qT_eC, qT_eCB, qT_eL, qT_eLJ, qT_eLR, qT_eLB, qT_e1, qT_e2, qT_bCmp, qT_bCmpJ, qT_bAnd, qT_bOr, qT_bNot, qT_eBI, qT_eIf, qT_eLd, qT_eLdR, qT_eLen, qT_eF, qT_eFR, qT_aN, qT_aS, qT_eCl, qT_eClR, qT_eClB, qT_some, qT_x, z_nx_N, z_nx_B, z_nx_R, z_nx_X, z_bk_N, z_bk_B, z_bk_R, z_bk_X, oAdd, oSub, oMul, oNeg, cLt, cLe, cGt, cGe, cEq, cNe, Option.some.injEq, Sum.inl.injEq, Sum.inr.injEq, Prod.mk.injEq, exists_eq_left, exists_eq_left', exists_eq_right, exists_and_left, reduceCtorEq, and_true, true_and, and_false, false_and, List.getElem?_cons_zero, List.getElem?_cons_succ, List.set_cons_zero, List.set_cons_succ, List.replicate, List.length_cons, List.length_nil, List.cons_append, List.nil_append, Nat.reduceAdd, Nat.reduceSub, decide_eq_true_eq, decide_eq_false_iff_not, Bool.true_eq_false, Bool.false_eq_true, true_implies, false_implies, implies_true, Nat.reduceLT, exists_const, z_vB_inj, and_assoc, z_in_iff, oI2L, oL2I, Int.toNat_natCast, z_toNat0, Bool.not_eq_true', Bool.not_eq_false', ne_eq, Bool.not_true, Bool.not_false, Nat.add_zero, Int.add_zero, z_sl_s]
  · rw [k_u_n (fun e => ha (by subst e; unfold kFree; omega)), k_u_n (fun e => ha (by subst e; unfold kFree; omega)), k_t_n (fun e => ha (by subst e; unfold kFree; omega)), k_u_n (fun e => ha (by subst e; unfold kFree; omega)), Xo a (fun e => ha (by subst e; unfold kFree; omega)) (fun e => ha (by subst e; unfold kFree; omega))]
  · rw [k_u_n (by decide), k_u_n (by decide), k_t_103]
  · rw [k_u_n (by decide), k_u_n (by decide), k_t_1]
theorem op_ways (I : kInv S) {p : Int} (hp : kR p) : kOp m_X5_ways m_X6_ways kIO "" [vI p] S := by
  have b6 : INF = 1000000 := rfl
  by_cases q0 : 0 ≤ p ∧ p ≤ 3
  rotate_left
  · have c0 := s_nH0 hp q0
    have r0 := rf_one0 hp q0
    refine kOp.x1 (r := vI 0) (S1 := S) (S2 := fun g => k_t (k_u S 103 g) 1) ?_ (fun g => ?_) (fun g => I.t g 1) (fun g => k_t_103) (fun g => k_t_1)
    · unfold m_X5_ways
      rw [k_v0]
      apply q_body
      have b6 : INF = 1000000 := rfl
      simp only [b_X5_ways, c0, qS_nop, qS_seq, qS_set, qS_setJ, qS_if, qS_brk, qS_ret, qS_retV, qS_throw, qS_inc, qS_cl, qS_ast, qS_aop, qS_fst, qS_fop, qS_sw, qT_eC, qT_eCB, qT_eL, qT_eLJ, qT_eLR, qT_eLB, qT_e1, qT_e2, qT_bCmp, qT_bCmpJ, qT_bAnd, qT_bOr, qT_bNot, qT_eBI, qT_eIf, qT_eLd, qT_eLdR, qT_eLen, qT_eF, qT_eFR, qT_aN, qT_aS, qT_eCl, qT_eClR, qT_eClB, qT_some, qT_x, z_nx_N, z_nx_B, z_nx_R, z_nx_X, z_bk_N, z_bk_B, z_bk_R, z_bk_X, oAdd, oSub, oMul, oNeg, cLt, cLe, cGt, cGe, cEq, cNe, Option.some.injEq, Sum.inl.injEq, Sum.inr.injEq, Prod.mk.injEq, exists_eq_left, exists_eq_left', exists_eq_right, exists_and_left, reduceCtorEq, and_true, true_and, and_false, false_and, List.getElem?_cons_zero, List.getElem?_cons_succ, List.set_cons_zero, List.set_cons_succ, List.replicate, List.length_cons, List.length_nil, List.cons_append, List.nil_append, Nat.reduceAdd, Nat.reduceSub, decide_eq_true_eq, decide_eq_false_iff_not, Bool.true_eq_false, Bool.false_eq_true, true_implies, false_implies, implies_true, Nat.reduceLT, exists_const, z_vB_inj, and_assoc, z_in_iff, oI2L, oL2I, Int.toNat_natCast, z_toNat0, Bool.not_eq_true', Bool.not_eq_false', ne_eq, Bool.not_true, Bool.not_false, Nat.add_zero, Int.add_zero, z_sl_s]
    · unfold m_X6_ways
      rw [k_v85]
      apply q_body
      have b6 : INF = 1000000 := rfl
      simp only [b_X6_ways, r0, rf_can1, z_vB1, z_vB0, if_true, if_false, not_true_eq_false, not_false_eq_true, k_t_n, k_t_1, exists_eq, k_v85, k_o85, k_r0, k_r1, k_r2, k_r3, k_r4, k_r5, k_r6, k_r7, k_r8, k_r9, k_r10, k_r11, k_r12, k_r13, k_r14, k_r15, k_r16, k_r17, k_r18, k_rl, k_sc, k_st, k_a86, k_s86, k_a87, k_s87, k_a88, k_s88, k_a89, k_s89, k_a90, k_s90, k_a91, k_s91, k_a92, k_s92, k_a93, k_s93, k_a94, k_s94, k_a95, k_s95, k_a96, k_s96, k_a97, k_s97, k_a98, k_s98, k_a99, k_s99, k_a100, k_s100, k_a101, k_s101, k_a102, k_s102, k_u_s, k_u_n, k_u_u, Nat.reduceEqDiff, not_false_eq_true, qS_nop, qS_seq, qS_set, qS_setJ, qS_if, qS_brk, qS_ret, qS_retV, qS_throw, qS_inc, qS_cl, qS_ast, qS_aop, qS_fst, qS_fop, qS_sw, qT_eC, qT_eCB, qT_eL, qT_eLJ, qT_eLR, qT_eLB, qT_e1, qT_e2, qT_bCmp, qT_bCmpJ, qT_bAnd, qT_bOr, qT_bNot, qT_eBI, qT_eIf, qT_eLd, qT_eLdR, qT_eLen, qT_eF, qT_eFR, qT_aN, qT_aS, qT_eCl, qT_eClR, qT_eClB, qT_some, qT_x, z_nx_N, z_nx_B, z_nx_R, z_nx_X, z_bk_N, z_bk_B, z_bk_R, z_bk_X, oAdd, oSub, oMul, oNeg, cLt, cLe, cGt, cGe, cEq, cNe, Option.some.injEq, Sum.inl.injEq, Sum.inr.injEq, Prod.mk.injEq, exists_eq_left, exists_eq_left', exists_eq_right, exists_and_left, reduceCtorEq, and_true, true_and, and_false, false_and, List.getElem?_cons_zero, List.getElem?_cons_succ, List.set_cons_zero, List.set_cons_succ, List.replicate, List.length_cons, List.length_nil, List.cons_append, List.nil_append, Nat.reduceAdd, Nat.reduceSub, decide_eq_true_eq, decide_eq_false_iff_not, Bool.true_eq_false, Bool.false_eq_true, true_implies, false_implies, implies_true, Nat.reduceLT, exists_const, z_vB_inj, and_assoc, z_in_iff, oI2L, oL2I, Int.toNat_natCast, z_toNat0, Bool.not_eq_true', Bool.not_eq_false', ne_eq, Bool.not_true, Bool.not_false, Nat.add_zero, Int.add_zero, z_sl_s]
  have c0 := s_nH1 (i := p) q0
  have r0 := rf_one1 (i := p) q0
  obtain ⟨i, rfl⟩ : ∃ i : Nat, p = i := ⟨p.toNat, by omega⟩
  have h_i : i < 4 := by omega
  obtain ⟨n, hnb, n51, n89, nB, nE, nW, nN⟩ := I.mm h_i
  have r2 := k_2r h_i
  have hs := o_shl ⟨n, by omega⟩
  simp only at hs
  have p5 : 1 ≤ 2 ^ n ∧ 2 ^ n ≤ 32 := ⟨Nat.pow_pos (by decide), by have := Nat.pow_le_pow_right (show 2 > 0 by decide) hnb.2; omega⟩
  have ek : (((2 ^ n : Nat) : Int) - 1).toNat = 2 ^ n - 1 := by omega
  obtain ⟨h', x1, x2, x3⟩ := s_countLeast2 (k_cA S) (k_mat (S := S) h_i n51) hnb nE (I.mb h_i)
  have x4 := k_backC x2 x3
  rw [x4] at x1
  have bb := cSets_in (P := (S 47, S 48)) (I.mb h_i) hnb.2 (2 ^ n - 1) (by omega) (2 ^ n - 1) (by omega)
  have n5 := nb_le ⟨2 ^ n - 1, by omega⟩
  simp only at n5
  obtain ⟨X, hX⟩ : ∃ X, X = k_u (k_u S 47 (cSets (rM S i) n (S 47, S 48) (2 ^ n - 1)).1) 48 (cSets (rM S i) n (S 47, S 48) (2 ^ n - 1)).2 := ⟨_, rfl⟩
  rw [← hX] at x1
  have Xo : ∀ a, a ≠ 47 → a ≠ 48 → X a = S a := fun a h1 h2 => by rw [hX, k_u_n h2, k_u_n h1]
  obtain ⟨G, hG⟩ : ∃ G : (Nat → Int) → (Nat → Int) × (Nat → Int), G = fun g => cSets (rM S i) n (S 96, S 97) (2 ^ n - 1) := ⟨_, rfl⟩
  have Ge : ∀ g, G g = cSets (rM S i) n (S 96, S 97) (2 ^ n - 1) := fun g => by rw [hG]
  have rc : ∀ g, m_X6_chooses [vR 85, vI (i : Int)] (k_W (k_t (k_u X 103 g) 0)) = some (.inl none, k_W (k_u (k_u (k_t (k_u X 103 g) 0) 96 (G g).1) 97 (G g).2)) := fun g => by
    have e90 : (k_t (k_u X 103 g) 0) 90 = S 90 := by rw [k_t_n (by decide), k_u_n (by decide), Xo _ (by decide) (by decide)]
    have e89 : (k_t (k_u X 103 g) 0) 89 = S 89 := by rw [k_t_n (by decide), k_u_n (by decide), Xo _ (by decide) (by decide)]
    have e96 : (k_t (k_u X 103 g) 0) 96 = S 96 := by rw [k_t_n (by decide), k_u_n (by decide), Xo _ (by decide) (by decide)]
    have e97 : (k_t (k_u X 103 g) 0) 97 = S 97 := by rw [k_t_n (by decide), k_u_n (by decide), Xo _ (by decide) (by decide)]
    have w := rf_chooses (S := k_t (k_u X 103 g) 0) h_i hnb (by rw [e89]; exact n89) (by rw [rM_u e90]; exact I.mb h_i)
    rw [rM_u e90, e96, e97] at w
    rw [Ge]
    exact w
  have same := (cSets_e (M := rM S i) (n := n) hnb.2 (P := (S 47, S 48)) (P' := (S 96, S 97)) (2 ^ n - 1) (by omega) (2 ^ n - 1) (by omega)).2
  have p25 : (5 : Int) ^ nb (2 ^ n - 1) ≤ 3125 := by
    have : 5 ^ nb (2 ^ n - 1) ≤ 5 ^ 5 := Nat.pow_le_pow_right (by decide) n5
    have := Int.ofNat_le.mpr this
    simpa using this
  have mm : ∀ g, m_X6_waysOf [vR 85, vI (i : Int)] (k_W (k_t (k_u X 103 g) 0)) = some (.inl (some (vI ((cSets (rM S i) n (S 47, S 48) (2 ^ n - 1)).2 (2 ^ n - 1)))), k_W (k_u (k_u (k_t (k_u X 103 g) 0) 96 (G g).1) 97 (G g).2)) := fun g => by
    have e89 : (k_u (k_u (k_t (k_u X 103 g) 0) 96 (G g).1) 97 (G g).2) 89 = S 89 := by rw [k_u_n (by decide), k_u_n (by decide), k_t_n (by decide), k_u_n (by decide), Xo _ (by decide) (by decide)]
    have rcg := rc g
    have ev : (k_u (k_u (k_t (k_u X 103 g) 0) 96 (G g).1) 97 (G g).2) 97 (2 ^ n - 1) = (cSets (rM S i) n (S 47, S 48) (2 ^ n - 1)).2 (2 ^ n - 1) := by
      rw [k_u_s, Ge, same]
    obtain ⟨Z, hZ⟩ : ∃ Z, Z = k_u (k_u (k_t (k_u X 103 g) 0) 96 (G g).1) 97 (G g).2 := ⟨_, rfl⟩
    rw [← hZ] at rcg ev e89 ⊢
    unfold m_X6_waysOf
    rw [k_v85]
    apply q_body
    have b6 : INF = 1000000 := rfl
    simp only [b_X6_waysOf, rcg, e89, n89, hs, ek, ev, k_v85, k_o85, k_r0, k_r1, k_r2, k_r3, k_r4, k_r5, k_r6, k_r7, k_r8, k_r9, k_r10, k_r11, k_r12, k_r13, k_r14, k_r15, k_r16, k_r17, k_r18, k_rl, k_sc, k_st, k_a86, k_s86, k_a87, k_s87, k_a88, k_s88, k_a89, k_s89, k_a90, k_s90, k_a91, k_s91, k_a92, k_s92, k_a93, k_s93, k_a94, k_s94, k_a95, k_s95, k_a96, k_s96, k_a97, k_s97, k_a98, k_s98, k_a99, k_s99, k_a100, k_s100, k_a101, k_s101, k_a102, k_s102, k_u_s, k_u_n, k_u_u, Nat.reduceEqDiff, not_false_eq_true, qS_nop, qS_seq, qS_set, qS_setJ, qS_if, qS_brk, qS_ret, qS_retV, qS_throw, qS_inc, qS_cl, qS_ast, qS_aop, qS_fst, qS_fop, qS_sw, qT_eC, qT_eCB, qT_eL, qT_eLJ, qT_eLR, qT_eLB, qT_e1, qT_e2, qT_bCmp, qT_bCmpJ, qT_bAnd, qT_bOr, qT_bNot, qT_eBI, qT_eIf, qT_eLd, qT_eLdR, qT_eLen, qT_eF, qT_eFR, qT_aN, qT_aS, qT_eCl, qT_eClR, qT_eClB, qT_some, qT_x, z_nx_N, z_nx_B, z_nx_R, z_nx_X, z_bk_N, z_bk_B, z_bk_R, z_bk_X, oAdd, oSub, oMul, oNeg, cLt, cLe, cGt, cGe, cEq, cNe, Option.some.injEq, Sum.inl.injEq, Sum.inr.injEq, Prod.mk.injEq, exists_eq_left, exists_eq_left', exists_eq_right, exists_and_left, reduceCtorEq, and_true, true_and, and_false, false_and, List.getElem?_cons_zero, List.getElem?_cons_succ, List.set_cons_zero, List.set_cons_succ, List.replicate, List.length_cons, List.length_nil, List.cons_append, List.nil_append, Nat.reduceAdd, Nat.reduceSub, decide_eq_true_eq, decide_eq_false_iff_not, Bool.true_eq_false, Bool.false_eq_true, true_implies, false_implies, implies_true, Nat.reduceLT, exists_const, z_vB_inj, and_assoc, z_in_iff, oI2L, oL2I, Int.toNat_natCast, z_toNat0, Bool.not_eq_true', Bool.not_eq_false', ne_eq, Bool.not_true, Bool.not_false, Nat.add_zero, Int.add_zero, z_sl_s]
    omega
  refine kOp.ok (r := vI ((cSets (rM S i) n (S 47, S 48) (2 ^ n - 1)).2 (2 ^ n - 1))) (S1 := X) (S2 := fun g => k_u (k_u (k_t (k_u X 103 g) 0) 96 (G g).1) 97 (G g).2) ?_ (fun g => ?_) (fun g => I.eq (fun a ha => ?_)) (fun g => ?_) (fun g => ?_)
  · unfold m_X5_ways
    rw [k_v0]
    apply q_body
    have b6 : INF = 1000000 := rfl
    simp only [b_X5_ways, c0, k_o0, k_a2, r2, x1, qS_nop, qS_seq, qS_set, qS_setJ, qS_if, qS_brk, qS_ret, qS_retV, qS_throw, qS_inc, qS_cl, qS_ast, qS_aop, qS_fst, qS_fop, qS_sw, qT_eC, qT_eCB, qT_eL, qT_eLJ, qT_eLR, qT_eLB, qT_e1, qT_e2, qT_bCmp, qT_bCmpJ, qT_bAnd, qT_bOr, qT_bNot, qT_eBI, qT_eIf, qT_eLd, qT_eLdR, qT_eLen, qT_eF, qT_eFR, qT_aN, qT_aS, qT_eCl, qT_eClR, qT_eClB, qT_some, qT_x, z_nx_N, z_nx_B, z_nx_R, z_nx_X, z_bk_N, z_bk_B, z_bk_R, z_bk_X, oAdd, oSub, oMul, oNeg, cLt, cLe, cGt, cGe, cEq, cNe, Option.some.injEq, Sum.inl.injEq, Sum.inr.injEq, Prod.mk.injEq, exists_eq_left, exists_eq_left', exists_eq_right, exists_and_left, reduceCtorEq, and_true, true_and, and_false, false_and, List.getElem?_cons_zero, List.getElem?_cons_succ, List.set_cons_zero, List.set_cons_succ, List.replicate, List.length_cons, List.length_nil, List.cons_append, List.nil_append, Nat.reduceAdd, Nat.reduceSub, decide_eq_true_eq, decide_eq_false_iff_not, Bool.true_eq_false, Bool.false_eq_true, true_implies, false_implies, implies_true, Nat.reduceLT, exists_const, z_vB_inj, and_assoc, z_in_iff, oI2L, oL2I, Int.toNat_natCast, z_toNat0, Bool.not_eq_true', Bool.not_eq_false', ne_eq, Bool.not_true, Bool.not_false, Nat.add_zero, Int.add_zero, z_sl_s]
    omega
  · have mg := mm g
    unfold m_X6_ways
    rw [k_v85]
    apply q_body
    have b6 : INF = 1000000 := rfl
    simp only [b_X6_ways, r0, rf_can0, mg, z_vB1, z_vB0, if_true, if_false, not_true_eq_false, not_false_eq_true, k_t_n, k_t_1, exists_eq, qS_nop, qS_seq, qS_set, qS_setJ, qS_if, qS_brk, qS_ret, qS_retV, qS_throw, qS_inc, qS_cl, qS_ast, qS_aop, qS_fst, qS_fop, qS_sw, qT_eC, qT_eCB, qT_eL, qT_eLJ, qT_eLR, qT_eLB, qT_e1, qT_e2, qT_bCmp, qT_bCmpJ, qT_bAnd, qT_bOr, qT_bNot, qT_eBI, qT_eIf, qT_eLd, qT_eLdR, qT_eLen, qT_eF, qT_eFR, qT_aN, qT_aS, qT_eCl, qT_eClR, qT_eClB, qT_some, qT_x, z_nx_N, z_nx_B, z_nx_R, z_nx_X, z_bk_N, z_bk_B, z_bk_R, z_bk_X, oAdd, oSub, oMul, oNeg, cLt, cLe, cGt, cGe, cEq, cNe, Option.some.injEq, Sum.inl.injEq, Sum.inr.injEq, Prod.mk.injEq, exists_eq_left, exists_eq_left', exists_eq_right, exists_and_left, reduceCtorEq, and_true, true_and, and_false, false_and, List.getElem?_cons_zero, List.getElem?_cons_succ, List.set_cons_zero, List.set_cons_succ, List.replicate, List.length_cons, List.length_nil, List.cons_append, List.nil_append, Nat.reduceAdd, Nat.reduceSub, decide_eq_true_eq, decide_eq_false_iff_not, Bool.true_eq_false, Bool.false_eq_true, true_implies, false_implies, implies_true, Nat.reduceLT, exists_const, z_vB_inj, and_assoc, z_in_iff, oI2L, oL2I, Int.toNat_natCast, z_toNat0, Bool.not_eq_true', Bool.not_eq_false', ne_eq, Bool.not_true, Bool.not_false, Nat.add_zero, Int.add_zero, z_sl_s]
  · rw [k_u_n (fun e => ha (by subst e; unfold kFree; omega)), k_u_n (fun e => ha (by subst e; unfold kFree; omega)), k_t_n (fun e => ha (by subst e; unfold kFree; omega)), k_u_n (fun e => ha (by subst e; unfold kFree; omega)), Xo a (fun e => ha (by subst e; unfold kFree; omega)) (fun e => ha (by subst e; unfold kFree; omega))]
  · rw [k_u_n (by decide), k_u_n (by decide), k_t_103]
  · rw [k_u_n (by decide), k_u_n (by decide), k_t_1]
end FDt
