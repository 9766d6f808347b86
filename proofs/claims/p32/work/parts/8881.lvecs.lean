/-! THE LAW: vectors, all of it -/
section LVS
variable {X : z_Hp} {S : Nat → Nat → Int}
theorem qS_mo {s : z_St} {ρ : List z_V} {h : z_Hp} {Q Q' : z_Oc → z_Hp → Prop} (H : qS s ρ h Q ↔ True) (w : ∀ o h, Q o h → Q' o h) : (qS s ρ h Q' ↔ True) := by
  have H' : qS s ρ h Q := H.mpr trivial
  refine iff_true_intro ?_
  revert H'
  unfold qS
  rcases s ρ h with _ | ⟨o, h1⟩
  · exact id
  · exact fun q => w o h1 q
def viK (X : z_Hp) (T : Nat → Nat → Int) (n a k : Nat) (ρ : List z_V) (h' : z_Hp) : Prop := ∃ Sk, h' = k_W X Sk ∧ ρ = [vR 0, vS, vI (a : Int), vI (n : Int), vB true, vI (k : Int), vU, vU, vU, vU] ∧ Sk (51 + 9 * 1) 0 = (n : Int) ∧ cFr (cMx 1) T Sk ∧ cInv Sk ∧ ∀ j, j < k → -100 ≤ cM Sk 1 (j / n) (j % n) ∧ cM Sk 1 (j / n) (j % n) ≤ 100
def vpK (X : z_Hp) (T : Nat → Nat → Int) (n a k : Nat) (ρ : List z_V) (h' : z_Hp) : Prop := ∃ Sk, h' = k_W X Sk ∧ ρ = [vR 0, vS, vI (a : Int), vI (n : Int), vB true, vI (k : Int), vU, vU, vU, vU] ∧ cFr (fun x => x = 4 ∨ x = 5) T Sk ∧ cInv Sk ∧ ∀ j, j < k → (-999 ≤ Sk 4 j ∧ Sk 4 j ≤ 999) ∧ Sk 5 j = 7
theorem f_lvec (I : cInv S) (sc : List Int) (hl : sc.length < 2147483648) {a : Nat} (ha : a < 10000) : ∃ S', m_L_vectors sc [vR 0, vS, vI (a : Int)] (k_W X S) = some (.inl (some (vB true)), k_W X S') ∧ cInv S' := by
  have b6 : INF = 1000000 := rfl
  obtain ⟨d, d1, d2⟩ := dr_n sc hl (k := (a : Int)) (most := 5) ⟨by omega, by omega⟩ (by decide)
  obtain ⟨n, hn⟩ : ∃ n, n = d + 1 := ⟨_, rfl⟩
  have nb : 1 ≤ n ∧ n ≤ 5 := by omega
  have en : (1 : Int) + (d : Int) = (n : Int) := by omega
  have d3 : ∀ h, m_L_draw sc [wS (), vI (a : Int), vI 5] h = some (.inl (some (vI (d : Int))), h) := d2
  obtain ⟨T1, f1, s1, v1, r1, I1⟩ := f_fills (X := X) I sc hl (m := 0) (n := n) (at' := a + 1) (low := -30) (many := 70) (by decide) nb (by omega) (by decide) (by decide)
  have F1 : m_L_fills sc [vR 0, vI 0, vI (n : Int), wS (), vI ((a : Int) + 1), vI (-30), vI 70] (k_W X S) = some (.inl none, k_W X T1) := f1
  obtain ⟨T2, f2, s2, r2, I2⟩ := f_matrix (X := X) I1 (i := 1) (b := n) (by decide) nb
  have F2 : m_X5_matrix [vR 0, vI 1, vI (n : Int)] (k_W X T1) = some (.inl (some (vI (T1 60 0))), k_W X T2) := f2
  have n25 : n * n ≤ 25 := Nat.mul_le_mul nb.2 nb.2
  have nn := n_sqi n
  have q : ∃ h', m_L_vectors sc [vR 0, vS, vI (a : Int)] (k_W X S) = some (.inl (some (vB true)), h') ∧ ∃ W, h' = k_W X W ∧ cInv W := by
    unfold m_L_vectors
    apply q_bodyV
    have b6 : INF = 1000000 := rfl
    simp only [b_L_vectors, s_L_vectors_9, s_L_vectors_12, s_L_vectors_26, s_L_vectors_33, d3, en, F1, F2, qS_pop, z_vB1, z_vB0, if_true, if_false, not_true_eq_false, not_false_eq_true, exists_eq, qS_nop, qS_seq, qS_set, qS_setJ, qS_if, qS_brk, qS_ret, qS_retV, qS_throw, qS_inc, qS_cl, qS_ast, qS_aop, qS_fst, qS_fop, qS_sw, qT_eC, qT_eCB, qT_eL, qT_eLJ, qT_eLR, qT_eLS, qT_eSLen, qT_eSLd, qT_eLB, qT_e1, qT_e2, qT_bCmp, qT_bCmpJ, qT_bAnd, qT_bOr, qT_bNot, qT_eBI, qT_eIf, qT_eLd, qT_eLdR, qT_eLen, qT_eF, qT_eFR, qT_aN, qT_aS, qT_eCl, qT_eClR, qT_eClB, qT_some, qT_x, z_nx_N, z_nx_B, z_nx_R, z_nx_X, z_bk_N, z_bk_B, z_bk_R, z_bk_X, oAdd, oSub, oMul, oNeg, cLt, cLe, cGt, cGe, cEq, cNe, Option.some.injEq, Sum.inl.injEq, Sum.inr.injEq, Prod.mk.injEq, exists_eq_left, exists_eq_left', exists_eq_right, exists_and_left, reduceCtorEq, and_true, true_and, and_false, false_and, List.getElem?_cons_zero, List.getElem?_cons_succ, List.set_cons_zero, List.set_cons_succ, List.replicate, List.length_cons, List.length_nil, List.cons_append, List.nil_append, Nat.reduceAdd, Nat.reduceSub, decide_eq_true_eq, decide_eq_false_iff_not, Bool.true_eq_false, Bool.false_eq_true, true_implies, false_implies, implies_true, Nat.reduceLT, exists_const, z_vB_inj, and_assoc, z_in_iff, oI2L, oL2I, Int.toNat_natCast, z_toNat0, Bool.not_eq_true', Bool.not_eq_false', ne_eq, Bool.not_true, Bool.not_false, Nat.add_zero, Int.add_zero, z_sl_s]
    refine qS_loop (fun k ρ h' => viK X T2 n a k ρ h') (n * n) ?_ ?_ (n * n) 0 z_fuel _ _ (by omega) (z_fuel_lt (by omega)) ⟨T2, rfl, rfl, s2, cFr.refl _ _, I2, fun j hj => absurd hj (Nat.not_lt_zero j)⟩
    · rintro k ρ h' hk ⟨Sk, e1, e2, k1, k2, k3, k4⟩
      have kb := n_sq nb.2 hk
      have kn : (k : Int) < ((n * n : Nat) : Int) := by omega
      obtain ⟨x, x1, x2⟩ := dr_n sc hl (k := (a : Int) + 1 + (k : Int)) (most := 1048576) ⟨by omega, by omega⟩ (by decide)
      have x3 : ∀ h, m_L_draw sc [wS (), vI ((a : Int) + 1 + (k : Int)), vI 1048576] h = some (.inl (some (vI (x : Int))), h) := x2
      have g1 : oDiv (k : Int) (n : Int) = some ((k / n : Nat) : Int) := z_dv (by omega) (by omega) (by omega)
      have g2 : oRem (k : Int) (n : Int) = some ((k % n : Nat) : Int) := z_rm (by omega) (by omega) (by omega)
      have g4 : oDiv (x : Int) 4 = some ((x / 4 : Nat) : Int) := z_dv (m := 4) (by decide) (by omega) (by decide)
      have g5 : oRem ((x / 4 : Nat) : Int) 70 = some ((x / 4 % 70 : Nat) : Int) := z_rm (m := 70) (by decide) (by omega) (by decide)
      obtain ⟨v, hv⟩ : ∃ v : Int, v = ((x / 4 % 70 : Nat) : Int) - 30 := ⟨_, rfl⟩
      have vb : (-999 ≤ v ∧ v ≤ 999) ∨ v = INF := Or.inl ⟨by omega, by omega⟩
      have fe := f_entry (X := X) (m := 1) (by decide) nb.2 k1 kb.1 kb.2.1 vb
      obtain ⟨u1, u2, u3⟩ := k_ent (S := Sk) (m := 1) (x := k / n) (y := k % n) (v := v) (by decide) (by omega)
      have u4 := k3.ent (m := 1) (by decide) k1 kb.1 kb.2.1 vb
      obtain ⟨S1, hS1⟩ : ∃ S1, S1 = k_u Sk (53 + 9 * 1 + k / n) (z_up (Sk (53 + 9 * 1 + k / n)) (k % n) v) := ⟨_, rfl⟩
      rw [← hS1] at fe u1 u2 u3 u4
      have nxt : viK X T2 n a (k + 1) [vR 0, vS, vI (a : Int), vI (n : Int), vB true, vI ((k : Int) + 1), vU, vU, vU, vU] (k_W X S1) := by
        refine ⟨S1, rfl, rfl, by rw [u3]; exact k1, k2.trans u2, u4, fun j hj => ?_⟩
        have jb := n_sq nb.2 (show j < n * n by omega)
        rw [u1 _ _ (by omega)]
        by_cases c : j = k
        · subst c
          rw [if_pos ⟨rfl, rfl⟩]
          omega
        · rw [if_neg (fun w => c (by
            have a1 := Nat.div_add_mod j n
            have a2 := Nat.div_add_mod k n
            rw [w.1, w.2] at a1
            omega))]
          exact k4 j (by omega)
      have FE : m_X5_entry [vR 0, vI 1, vI ((k / n : Nat) : Int), vI ((k % n : Nat) : Int), vI v] (k_W X Sk) = some (.inl (some (vI (cM Sk 1 (k / n) (k % n)))), k_W X S1) := fe
      subst e1
      subst e2
      rw [hv] at FE
      simp only [l_L_vectors_44, x3, g1, g2, g4, g5, FE, nn, kn, qS_pop, z_vB1, z_vB0, if_true, if_false, not_true_eq_false, not_false_eq_true, exists_eq, qS_nop, qS_seq, qS_set, qS_setJ, qS_if, qS_brk, qS_ret, qS_retV, qS_throw, qS_inc, qS_cl, qS_ast, qS_aop, qS_fst, qS_fop, qS_sw, qT_eC, qT_eCB, qT_eL, qT_eLJ, qT_eLR, qT_eLS, qT_eSLen, qT_eSLd, qT_eLB, qT_e1, qT_e2, qT_bCmp, qT_bCmpJ, qT_bAnd, qT_bOr, qT_bNot, qT_eBI, qT_eIf, qT_eLd, qT_eLdR, qT_eLen, qT_eF, qT_eFR, qT_aN, qT_aS, qT_eCl, qT_eClR, qT_eClB, qT_some, qT_x, z_nx_N, z_nx_B, z_nx_R, z_nx_X, z_bk_N, z_bk_B, z_bk_R, z_bk_X, oAdd, oSub, oMul, oNeg, cLt, cLe, cGt, cGe, cEq, cNe, Option.some.injEq, Sum.inl.injEq, Sum.inr.injEq, Prod.mk.injEq, exists_eq_left, exists_eq_left', exists_eq_right, exists_and_left, reduceCtorEq, and_true, true_and, and_false, false_and, List.getElem?_cons_zero, List.getElem?_cons_succ, List.set_cons_zero, List.set_cons_succ, List.replicate, List.length_cons, List.length_nil, List.cons_append, List.nil_append, Nat.reduceAdd, Nat.reduceSub, decide_eq_true_eq, decide_eq_false_iff_not, Bool.true_eq_false, Bool.false_eq_true, true_implies, false_implies, implies_true, Nat.reduceLT, exists_const, z_vB_inj, and_assoc, z_in_iff, oI2L, oL2I, Int.toNat_natCast, z_toNat0, Bool.not_eq_true', Bool.not_eq_false', ne_eq, Bool.not_true, Bool.not_false, Nat.add_zero, Int.add_zero, z_sl_s]
      repeat (refine And.intro (by omega) ?_)
      exact nxt
    · rintro ρ h' ⟨T3, e1, e2, k1, k2, k3, k4⟩
      have nk : ¬ (((n * n : Nat) : Int) < ((n * n : Nat) : Int)) := by omega
      have k51 : T3 51 0 = (n : Int) := by
        rw [k2 51 (by unfold cFree; omega) (by unfold cMx; omega), r2 51 (by unfold cFree; omega) (by unfold cMx; omega)]
        exact s1
      have kM0 : cM T3 0 = cM T1 0 := (k2.m (i := 0) (by decide) (fun a _ _ => by unfold cMx; omega)).1.trans (r2.m (i := 0) (by decide) (fun a _ _ => by unfold cMx; omega)).1
      subst e1
      subst e2
      simp only [s_L_vectors_84, nn, nk, z_vB1, z_vB0, if_true, if_false, not_true_eq_false, not_false_eq_true, exists_eq, qS_nop, qS_seq, qS_set, qS_setJ, qS_if, qS_brk, qS_ret, qS_retV, qS_throw, qS_inc, qS_cl, qS_ast, qS_aop, qS_fst, qS_fop, qS_sw, qT_eC, qT_eCB, qT_eL, qT_eLJ, qT_eLR, qT_eLS, qT_eSLen, qT_eSLd, qT_eLB, qT_e1, qT_e2, qT_bCmp, qT_bCmpJ, qT_bAnd, qT_bOr, qT_bNot, qT_eBI, qT_eIf, qT_eLd, qT_eLdR, qT_eLen, qT_eF, qT_eFR, qT_aN, qT_aS, qT_eCl, qT_eClR, qT_eClB, qT_some, qT_x, z_nx_N, z_nx_B, z_nx_R, z_nx_X, z_bk_N, z_bk_B, z_bk_R, z_bk_X, oAdd, oSub, oMul, oNeg, cLt, cLe, cGt, cGe, cEq, cNe, Option.some.injEq, Sum.inl.injEq, Sum.inr.injEq, Prod.mk.injEq, exists_eq_left, exists_eq_left', exists_eq_right, exists_and_left, reduceCtorEq, and_true, true_and, and_false, false_and, List.getElem?_cons_zero, List.getElem?_cons_succ, List.set_cons_zero, List.set_cons_succ, List.replicate, List.length_cons, List.length_nil, List.cons_append, List.nil_append, Nat.reduceAdd, Nat.reduceSub, decide_eq_true_eq, decide_eq_false_iff_not, Bool.true_eq_false, Bool.false_eq_true, true_implies, false_implies, implies_true, Nat.reduceLT, exists_const, z_vB_inj, and_assoc, z_in_iff, oI2L, oL2I, Int.toNat_natCast, z_toNat0, Bool.not_eq_true', Bool.not_eq_false', ne_eq, Bool.not_true, Bool.not_false, Nat.add_zero, Int.add_zero, z_sl_s]
      repeat (refine And.intro (by omega) ?_)
      refine qS_loop (fun k ρ h' => vpK X T3 n a k ρ h') 5 ?_ ?_ 5 0 z_fuel _ _ (by omega) (z_fuel_lt (by omega)) ⟨T3, rfl, rfl, cFr.refl _ _, k3, fun j hj => absurd hj (Nat.not_lt_zero j)⟩
      · rintro k ρ h' hk ⟨Sk, e1, e2, p2, p3, p4⟩
        obtain ⟨x, x1, x2⟩ := dr_n sc hl (k := (a : Int) + 26 + (k : Int)) (most := 1999) ⟨by omega, by omega⟩ (by decide)
        have x3 : ∀ h, m_L_draw sc [wS (), vI ((a : Int) + 26 + (k : Int)), vI 1999] h = some (.inl (some (vI (x : Int))), h) := x2
        obtain ⟨v, hv⟩ : ∃ v : Int, v = (x : Int) - 999 := ⟨_, rfl⟩
        have vb : (-999 ≤ v ∧ v ≤ 999) ∨ v = INF := Or.inl ⟨by omega, by omega⟩
        have vb7 : (-999 ≤ (7 : Int) ∧ (7 : Int) ≤ 999) ∨ (7 : Int) = INF := Or.inl (by decide)
        have f1 := f_part (X := X) (S := Sk) (i := 0) (j := k) (by decide) hk vb
        have i1 := p3.part (i := 0) (j := k) (by decide) vb
        obtain ⟨S1, hS1⟩ : ∃ S1, S1 = k_u Sk (4 + 0) (z_up (Sk (4 + 0)) k v) := ⟨_, rfl⟩
        rw [← hS1] at f1 i1
        have f2 := f_part (X := X) (S := S1) (i := 1) (j := k) (by decide) hk vb7
        have i2 := i1.part (i := 1) (j := k) (by decide) vb7
        obtain ⟨S2, hS2⟩ : ∃ S2, S2 = k_u S1 (4 + 1) (z_up (S1 (4 + 1)) k 7) := ⟨_, rfl⟩
        rw [← hS2] at f2 i2
        have z4 : ∀ j, S2 4 j = if j = k then v else Sk 4 j := fun j => by
          rw [hS2, k_u_n (by decide), hS1]
          show k_u Sk 4 (z_up (Sk 4) k v) 4 j = _
          rw [k_u_s]
          rfl
        have z5 : ∀ j, S2 5 j = if j = k then 7 else Sk 5 j := fun j => by
          rw [hS2]
          show k_u S1 5 (z_up (S1 5) k 7) 5 j = _
          rw [k_u_s, hS1, k_u_n (by decide)]
          rfl
        have nxt : vpK X T3 n a (k + 1) [vR 0, vS, vI (a : Int), vI (n : Int), vB true, vI ((k : Int) + 1), vU, vU, vU, vU] (k_W X S2) := by
          refine ⟨S2, rfl, rfl, fun b hb hn => ?_, i2, fun j hj => ?_⟩
          · rw [hS2, k_u_n (by omega), hS1, k_u_n (by omega)]
            exact p2 b hb hn
          · rw [z4 j, z5 j]
            by_cases c : j = k
            · rw [if_pos c, if_pos c]
              omega
            · rw [if_neg c, if_neg c]
              exact p4 j (by omega)
        have G1 : m_X5_part [vR 0, vI 0, vI (k : Int), vI v] (k_W X Sk) = some (.inl (some (vI (Sk 4 k))), k_W X S1) := f1
        have G2 : m_X5_part [vR 0, vI 1, vI (k : Int), vI 7] (k_W X S1) = some (.inl (some (vI (S1 5 k))), k_W X S2) := f2
        subst e1
        subst e2
        rw [hv] at G1
        simp only [l_L_vectors_93, s_L_vectors_119, x3, G1, G2, qS_pop, z_vB1, z_vB0, if_true, if_false, not_true_eq_false, not_false_eq_true, exists_eq, qS_nop, qS_seq, qS_set, qS_setJ, qS_if, qS_brk, qS_ret, qS_retV, qS_throw, qS_inc, qS_cl, qS_ast, qS_aop, qS_fst, qS_fop, qS_sw, qT_eC, qT_eCB, qT_eL, qT_eLJ, qT_eLR, qT_eLS, qT_eSLen, qT_eSLd, qT_eLB, qT_e1, qT_e2, qT_bCmp, qT_bCmpJ, qT_bAnd, qT_bOr, qT_bNot, qT_eBI, qT_eIf, qT_eLd, qT_eLdR, qT_eLen, qT_eF, qT_eFR, qT_aN, qT_aS, qT_eCl, qT_eClR, qT_eClB, qT_some, qT_x, z_nx_N, z_nx_B, z_nx_R, z_nx_X, z_bk_N, z_bk_B, z_bk_R, z_bk_X, oAdd, oSub, oMul, oNeg, cLt, cLe, cGt, cGe, cEq, cNe, Option.some.injEq, Sum.inl.injEq, Sum.inr.injEq, Prod.mk.injEq, exists_eq_left, exists_eq_left', exists_eq_right, exists_and_left, reduceCtorEq, and_true, true_and, and_false, false_and, List.getElem?_cons_zero, List.getElem?_cons_succ, List.set_cons_zero, List.set_cons_succ, List.replicate, List.length_cons, List.length_nil, List.cons_append, List.nil_append, Nat.reduceAdd, Nat.reduceSub, decide_eq_true_eq, decide_eq_false_iff_not, Bool.true_eq_false, Bool.false_eq_true, true_implies, false_implies, implies_true, Nat.reduceLT, exists_const, z_vB_inj, and_assoc, z_in_iff, oI2L, oL2I, Int.toNat_natCast, z_toNat0, Bool.not_eq_true', Bool.not_eq_false', ne_eq, Bool.not_true, Bool.not_false, Nat.add_zero, Int.add_zero, z_sl_s]
        repeat (refine And.intro (by omega) ?_)
        exact nxt
      · rintro ρ h' ⟨U, e1, e2, p2, p3, p4⟩
        have HU : lvU U n := by
          have m0 := p2.m (i := 0) (by decide) (fun a _ _ => by omega)
          have m1 := p2.m (i := 1) (by decide) (fun a _ _ => by omega)
          refine ⟨p3, ?_, ?_, fun x y hx hy => ?_, fun x y hx hy => ?_, fun k hk => (p4 k hk).1, fun k hk => (p4 k hk).2⟩
          · have := m0.2
            show U 51 0 = _
            rw [show U 51 = T3 51 from this]
            exact k51
          · have := m1.2
            show U 60 0 = _
            rw [show U 60 = T3 60 from this]
            exact k1
          · rw [m0.1, kM0]
            have := v1 x y hx hy
            omega
          · rw [m1.1]
            obtain ⟨w1, w2, w3⟩ := n_sq2 hx hy
            have := k4 _ w1
            rwa [w2, w3] at this
        obtain ⟨W, w1, w2⟩ := f_lvB (X := X) sc (a := a) nb HU
        have K : ∃ W', k_W X W = k_W X W' ∧ cInv W' := ⟨W, rfl, w1⟩
        have w3 := qS_mo w2 (Q' := fun oc h1 => oc = oR (some (vB true)) ∧ ∃ W, h1 = k_W X W ∧ cInv W) (fun o h1 e => ⟨e.1, W, e.2, w1⟩)
        have e5 : ((5 : Nat) : Int) = 5 := rfl
        have n55 : ¬ ((5 : Int) < 5) := by decide
        subst e1
        subst e2
        simp only [e5, n55, w3, z_vB1, z_vB0, if_true, if_false, not_true_eq_false, not_false_eq_true, exists_eq, qS_nop, qS_seq, qS_set, qS_setJ, qS_if, qS_brk, qS_ret, qS_retV, qS_throw, qS_inc, qS_cl, qS_ast, qS_aop, qS_fst, qS_fop, qS_sw, qT_eC, qT_eCB, qT_eL, qT_eLJ, qT_eLR, qT_eLS, qT_eSLen, qT_eSLd, qT_eLB, qT_e1, qT_e2, qT_bCmp, qT_bCmpJ, qT_bAnd, qT_bOr, qT_bNot, qT_eBI, qT_eIf, qT_eLd, qT_eLdR, qT_eLen, qT_eF, qT_eFR, qT_aN, qT_aS, qT_eCl, qT_eClR, qT_eClB, qT_some, qT_x, z_nx_N, z_nx_B, z_nx_R, z_nx_X, z_bk_N, z_bk_B, z_bk_R, z_bk_X, oAdd, oSub, oMul, oNeg, cLt, cLe, cGt, cGe, cEq, cNe, Option.some.injEq, Sum.inl.injEq, Sum.inr.injEq, Prod.mk.injEq, exists_eq_left, exists_eq_left', exists_eq_right, exists_and_left, reduceCtorEq, and_true, true_and, and_false, false_and, List.getElem?_cons_zero, List.getElem?_cons_succ, List.set_cons_zero, List.set_cons_succ, List.replicate, List.length_cons, List.length_nil, List.cons_append, List.nil_append, Nat.reduceAdd, Nat.reduceSub, decide_eq_true_eq, decide_eq_false_iff_not, Bool.true_eq_false, Bool.false_eq_true, true_implies, false_implies, implies_true, Nat.reduceLT, exists_const, z_vB_inj, and_assoc, z_in_iff, oI2L, oL2I, Int.toNat_natCast, z_toNat0, Bool.not_eq_true', Bool.not_eq_false', ne_eq, Bool.not_true, Bool.not_false, Nat.add_zero, Int.add_zero, z_sl_s]
        omega
  obtain ⟨h', q1, W, rfl, q2⟩ := q
  exact ⟨W, q1, q2⟩
end LVS
