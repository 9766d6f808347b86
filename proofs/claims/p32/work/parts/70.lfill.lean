/-! THE LAW: matrices filled, compared -/
section LF
variable {X : z_Hp} {S : Nat → Nat → Int}
theorem dr_n (sc : List Int) (hl : sc.length < 2147483648) {k : Int} {most : Nat} (hk : 0 ≤ k ∧ k < 2147483648) (hm : 1 ≤ most ∧ most < 2147483648) : ∃ d : Nat, d < most ∧ ∀ h, m_L_draw sc [vS, vI k, vI (most : Int)] h = some (.inl (some (vI (d : Int))), h) := by
  obtain ⟨d, d1, d2, d3⟩ := f_draw sc hl hk (most := (most : Int)) (by omega)
  obtain ⟨e, rfl⟩ : ∃ e : Nat, d = e := ⟨d.toNat, by omega⟩
  exact ⟨e, by omega, d3⟩
theorem n_sq {n k : Nat} (hn : n ≤ 5) (hk : k < n * n) : k / n < n ∧ k % n < n ∧ k < 25 := by
  rcases (by omega : n = 0 ∨ n = 1 ∨ n = 2 ∨ n = 3 ∨ n = 4 ∨ n = 5) with rfl | rfl | rfl | rfl | rfl | rfl <;> omega
theorem n_sq2 {n x y : Nat} (hx : x < n) (hy : y < n) : n * x + y < n * n ∧ (n * x + y) / n = x ∧ (n * x + y) % n = y := by
  have h : n * x + y < n * n := by
    have : n * (x + 1) ≤ n * n := Nat.mul_le_mul_left n hx
    rw [Nat.mul_add, Nat.mul_one] at this
    omega
  refine ⟨h, ?_, ?_⟩
  · rw [Nat.mul_add_div (by omega), Nat.div_eq_of_lt hy, Nat.add_zero]
  · rw [Nat.mul_add_mod, Nat.mod_eq_of_lt hy]
theorem n_sqi (n : Nat) : (n : Int) * (n : Int) = ((n * n : Nat) : Int) := by rw [Int.natCast_mul]
theorem cM_R (I : cInv S) {m n x y : Nat} (hm : m < 4) (e : S (51 + 9 * m) 0 = (n : Int)) (hx : x < 5) (hy : y < 5) : kR (cM S m x y) := by
  obtain ⟨n', a, b, cc, -⟩ := I.2.1 m hm
  have := cc x y hx hy
  exact ⟨by omega, by omega⟩
/-- between two entries -/
def fiK (X : z_Hp) (S : Nat → Nat → Int) (m n at' : Nat) (low : Int) (many : Nat) (k : Nat) (ρ : List z_V) (h' : z_Hp) : Prop := ∃ Sk z, h' = k_W X Sk ∧ ρ = [vR 0, vI (m : Int), vI (n : Int), vS, vI (at' : Int), vI low, vI (many : Int), vI (k : Int), z] ∧ Sk (51 + 9 * m) 0 = (n : Int) ∧ cFr (cMx m) S Sk ∧ cInv Sk ∧ ∀ j, j < k → cM Sk m (j / n) (j % n) = INF ∨ (low ≤ cM Sk m (j / n) (j % n) ∧ cM Sk m (j / n) (j % n) < low + many)
theorem f_fills (I : cInv S) (sc : List Int) (hl : sc.length < 2147483648) {m n at' : Nat} (hm : m < 4) (hn : 1 ≤ n ∧ n ≤ 5) (ha : at' < 100000) {low : Int} {many : Nat} (hlo : -100 ≤ low ∧ low ≤ 0) (hma : 1 ≤ many ∧ many ≤ 100) :
    ∃ S', m_L_fills sc [vR 0, vI (m : Int), vI (n : Int), vS, vI (at' : Int), vI low, vI (many : Int)] (k_W X S) = some (.inl none, k_W X S') ∧ S' (51 + 9 * m) 0 = (n : Int) ∧ (∀ x y, x < n → y < n → cM S' m x y = INF ∨ (low ≤ cM S' m x y ∧ cM S' m x y < low + many)) ∧ cFr (cMx m) S S' ∧ cInv S' := by
  have b6 : INF = 1000000 := rfl
  obtain ⟨S0, s1, s2, s3, s4⟩ := f_matrix (X := X) I hm hn
  have I51 : kR (S (51 + 9 * m) 0) := by
    obtain ⟨n', a, b, -⟩ := I.2.1 m hm
    rw [b]
    exact ⟨by omega, by omega⟩
  have q : ∃ h', m_L_fills sc [vR 0, vI (m : Int), vI (n : Int), vS, vI (at' : Int), vI low, vI (many : Int)] (k_W X S) = some (.inl none, h') ∧ ∃ ρ, fiK X S m n at' low many (n * n) ρ h' := by
    unfold m_L_fills
    apply q_bodyV
    have b6 : INF = 1000000 := rfl
    simp only [b_L_fills, s_L_fills_7, s1, qS_pop, qS_nop, qS_seq, qS_set, qS_setJ, qS_if, qS_brk, qS_ret, qS_retV, qS_throw, qS_inc, qS_cl, qS_ast, qS_aop, qS_fst, qS_fop, qS_sw, qT_eC, qT_eCB, qT_eL, qT_eLJ, qT_eLR, qT_eLS, qT_eSLen, qT_eSLd, qT_eLB, qT_e1, qT_e2, qT_bCmp, qT_bCmpJ, qT_bAnd, qT_bOr, qT_bNot, qT_eBI, qT_eIf, qT_eLd, qT_eLdR, qT_eLen, qT_eF, qT_eFR, qT_aN, qT_aS, qT_eCl, qT_eClR, qT_eClB, qT_some, qT_x, z_nx_N, z_nx_B, z_nx_R, z_nx_X, z_bk_N, z_bk_B, z_bk_R, z_bk_X, oAdd, oSub, oMul, oNeg, cLt, cLe, cGt, cGe, cEq, cNe, Option.some.injEq, Sum.inl.injEq, Sum.inr.injEq, Prod.mk.injEq, exists_eq_left, exists_eq_left', exists_eq_right, exists_and_left, reduceCtorEq, and_true, true_and, and_false, false_and, List.getElem?_cons_zero, List.getElem?_cons_succ, List.set_cons_zero, List.set_cons_succ, List.replicate, List.length_cons, List.length_nil, List.cons_append, List.nil_append, Nat.reduceAdd, Nat.reduceSub, decide_eq_true_eq, decide_eq_false_iff_not, Bool.true_eq_false, Bool.false_eq_true, true_implies, false_implies, implies_true, Nat.reduceLT, exists_const, z_vB_inj, and_assoc, z_in_iff, oI2L, oL2I, Int.toNat_natCast, z_toNat0, Bool.not_eq_true', Bool.not_eq_false', ne_eq, Bool.not_true, Bool.not_false, Nat.add_zero, Int.add_zero, z_sl_s]
    repeat (refine And.intro (by omega) ?_)
    refine qS_loop (fun k ρ h' => fiK X S m n at' low many k ρ h') (n * n) ?_ ?_ (n * n) 0 z_fuel _ _ (by omega) (z_fuel_lt (by have := Nat.mul_le_mul hn.2 hn.2; omega)) ⟨S0, _, rfl, rfl, s2, s3, s4, fun j hj => absurd hj (Nat.not_lt_zero j)⟩
    · rintro k ρ h' hk ⟨Sk, z, e1, e2, k1, k2, k3, k4⟩
      have kb := n_sq hn.2 hk
      have nn := n_sqi n
      have kn : (k : Int) < ((n * n : Nat) : Int) := by omega
      have n25 : n * n ≤ 25 := Nat.mul_le_mul hn.2 hn.2
      obtain ⟨d, d1, d2⟩ := dr_n sc hl (k := (at' : Int) + (k : Int)) (most := 1048576) ⟨by omega, by omega⟩ (by decide)
      have d3 : ∀ h, m_L_draw sc [wS (), vI ((at' : Int) + (k : Int)), vI 1048576] h = some (.inl (some (vI (d : Int))), h) := d2
      have g1 : oDiv (k : Int) (n : Int) = some ((k / n : Nat) : Int) := z_dv (by omega) (by omega) (by omega)
      have g2 : oRem (k : Int) (n : Int) = some ((k % n : Nat) : Int) := z_rm (by omega) (by omega) (by omega)
      have g3 : oRem (d : Int) 4 = some ((d % 4 : Nat) : Int) := z_rm (m := 4) (by decide) (by omega) (by decide)
      have g4 : oDiv (d : Int) 4 = some ((d / 4 : Nat) : Int) := z_dv (m := 4) (by decide) (by omega) (by decide)
      have g5 : oRem ((d / 4 : Nat) : Int) (many : Int) = some ((d / 4 % many : Nat) : Int) := z_rm (by omega) (by omega) (by omega)
      have gb : d / 4 % many < many := Nat.mod_lt _ (by omega)
      obtain ⟨v, hv, hvb, hve⟩ : ∃ v : Int, ((-999 ≤ v ∧ v ≤ 999) ∨ v = INF) ∧ (v = INF ∨ (low ≤ v ∧ v < low + many)) ∧ ((((d % 4 : Nat) : Int) = 0 ∧ v = 1000000) ∨ (¬ ((d % 4 : Nat) : Int) = 0 ∧ v = low + ((d / 4 % many : Nat) : Int))) := by
        by_cases c : ((d % 4 : Nat) : Int) = 0
        · exact ⟨1000000, Or.inr rfl, Or.inl rfl, Or.inl ⟨c, rfl⟩⟩
        · exact ⟨low + ((d / 4 % many : Nat) : Int), Or.inl ⟨by omega, by omega⟩, Or.inr ⟨by omega, by omega⟩, Or.inr ⟨c, rfl⟩⟩
      have fe := f_entry (X := X) hm hn.2 k1 kb.1 kb.2.1 hv
      obtain ⟨u1, u2, u3⟩ := k_ent (S := Sk) (m := m) (x := k / n) (y := k % n) (v := v) hm (by omega)
      have u4 := k3.ent hm k1 kb.1 kb.2.1 hv
      obtain ⟨S1, hS1⟩ : ∃ S1, S1 = k_u Sk (53 + 9 * m + k / n) (z_up (Sk (53 + 9 * m + k / n)) (k % n) v) := ⟨_, rfl⟩
      rw [← hS1] at fe u1 u2 u3 u4
      have nxt : ∀ z, fiK X S m n at' low many (k + 1) [vR 0, vI (m : Int), vI (n : Int), vS, vI (at' : Int), vI low, vI (many : Int), vI ((k : Int) + 1), z] (k_W X S1) := fun z => by
        refine ⟨S1, z, rfl, rfl, by rw [u3]; exact k1, k2.trans u2, u4, fun j hj => ?_⟩
        have jb := n_sq hn.2 (show j < n * n by omega)
        rw [u1 _ _ (by omega)]
        by_cases c : j = k
        · subst c
          rw [if_pos ⟨rfl, rfl⟩]
          exact hvb
        · rw [if_neg (fun w => c (by
            have a1 := Nat.div_add_mod j n
            have a2 := Nat.div_add_mod k n
            rw [w.1, w.2] at a1
            omega))]
          exact k4 j (by omega)
      have cb : kR (cM Sk m (k / n) (k % n)) := by
        obtain ⟨n', a, b, cc, -⟩ := k3.2.1 m hm
        have := cc (k / n) (k % n) (by omega) (by omega)
        exact ⟨by omega, by omega⟩
      rcases hve with ⟨c, hv⟩ | ⟨c, hv⟩
      · rw [hv] at fe
        have nx := nxt (vI (d : Int))
        subst e1
        subst e2
        simp only [l_L_fills_18, s_L_fills_31, d3, g1, g2, g3, c, fe, nn, kn, qS_pop, z_vB1, z_vB0, if_true, if_false, not_true_eq_false, not_false_eq_true, exists_eq, qS_nop, qS_seq, qS_set, qS_setJ, qS_if, qS_brk, qS_ret, qS_retV, qS_throw, qS_inc, qS_cl, qS_ast, qS_aop, qS_fst, qS_fop, qS_sw, qT_eC, qT_eCB, qT_eL, qT_eLJ, qT_eLR, qT_eLS, qT_eSLen, qT_eSLd, qT_eLB, qT_e1, qT_e2, qT_bCmp, qT_bCmpJ, qT_bAnd, qT_bOr, qT_bNot, qT_eBI, qT_eIf, qT_eLd, qT_eLdR, qT_eLen, qT_eF, qT_eFR, qT_aN, qT_aS, qT_eCl, qT_eClR, qT_eClB, qT_some, qT_x, z_nx_N, z_nx_B, z_nx_R, z_nx_X, z_bk_N, z_bk_B, z_bk_R, z_bk_X, oAdd, oSub, oMul, oNeg, cLt, cLe, cGt, cGe, cEq, cNe, Option.some.injEq, Sum.inl.injEq, Sum.inr.injEq, Prod.mk.injEq, exists_eq_left, exists_eq_left', exists_eq_right, exists_and_left, reduceCtorEq, and_true, true_and, and_false, false_and, List.getElem?_cons_zero, List.getElem?_cons_succ, List.set_cons_zero, List.set_cons_succ, List.replicate, List.length_cons, List.length_nil, List.cons_append, List.nil_append, Nat.reduceAdd, Nat.reduceSub, decide_eq_true_eq, decide_eq_false_iff_not, Bool.true_eq_false, Bool.false_eq_true, true_implies, false_implies, implies_true, Nat.reduceLT, exists_const, z_vB_inj, and_assoc, z_in_iff, oI2L, oL2I, Int.toNat_natCast, z_toNat0, Bool.not_eq_true', Bool.not_eq_false', ne_eq, Bool.not_true, Bool.not_false, Nat.add_zero, Int.add_zero, z_sl_s]
        repeat (refine And.intro (by omega) ?_)
        exact nx
      · rw [hv] at fe
        have nx := nxt (vI (d : Int))
        subst e1
        subst e2
        simp only [l_L_fills_18, s_L_fills_31, d3, g1, g2, g3, g4, g5, c, fe, nn, kn, qS_pop, z_vB1, z_vB0, if_true, if_false, not_true_eq_false, not_false_eq_true, exists_eq, qS_nop, qS_seq, qS_set, qS_setJ, qS_if, qS_brk, qS_ret, qS_retV, qS_throw, qS_inc, qS_cl, qS_ast, qS_aop, qS_fst, qS_fop, qS_sw, qT_eC, qT_eCB, qT_eL, qT_eLJ, qT_eLR, qT_eLS, qT_eSLen, qT_eSLd, qT_eLB, qT_e1, qT_e2, qT_bCmp, qT_bCmpJ, qT_bAnd, qT_bOr, qT_bNot, qT_eBI, qT_eIf, qT_eLd, qT_eLdR, qT_eLen, qT_eF, qT_eFR, qT_aN, qT_aS, qT_eCl, qT_eClR, qT_eClB, qT_some, qT_x, z_nx_N, z_nx_B, z_nx_R, z_nx_X, z_bk_N, z_bk_B, z_bk_R, z_bk_X, oAdd, oSub, oMul, oNeg, cLt, cLe, cGt, cGe, cEq, cNe, Option.some.injEq, Sum.inl.injEq, Sum.inr.injEq, Prod.mk.injEq, exists_eq_left, exists_eq_left', exists_eq_right, exists_and_left, reduceCtorEq, and_true, true_and, and_false, false_and, List.getElem?_cons_zero, List.getElem?_cons_succ, List.set_cons_zero, List.set_cons_succ, List.replicate, List.length_cons, List.length_nil, List.cons_append, List.nil_append, Nat.reduceAdd, Nat.reduceSub, decide_eq_true_eq, decide_eq_false_iff_not, Bool.true_eq_false, Bool.false_eq_true, true_implies, false_implies, implies_true, Nat.reduceLT, exists_const, z_vB_inj, and_assoc, z_in_iff, oI2L, oL2I, Int.toNat_natCast, z_toNat0, Bool.not_eq_true', Bool.not_eq_false', ne_eq, Bool.not_true, Bool.not_false, Nat.add_zero, Int.add_zero, z_sl_s]
        repeat (refine And.intro (by omega) ?_)
        exact nx
    · rintro ρ h' ⟨Sk, z, e1, e2, k1, k2, k3, k4⟩
      have nn := n_sqi n
      have nk : ¬ (((n * n : Nat) : Int) < ((n * n : Nat) : Int)) := by omega
      have n25 : n * n ≤ 25 := Nat.mul_le_mul hn.2 hn.2
      have K : ∃ ρ, fiK X S m n at' low many (n * n) ρ (k_W X Sk) := ⟨_, Sk, z, rfl, rfl, k1, k2, k3, k4⟩
      subst e1
      subst e2
      simp only [nn, nk, z_vB1, z_vB0, if_true, if_false, not_true_eq_false, not_false_eq_true, exists_eq, qS_nop, qS_seq, qS_set, qS_setJ, qS_if, qS_brk, qS_ret, qS_retV, qS_throw, qS_inc, qS_cl, qS_ast, qS_aop, qS_fst, qS_fop, qS_sw, qT_eC, qT_eCB, qT_eL, qT_eLJ, qT_eLR, qT_eLS, qT_eSLen, qT_eSLd, qT_eLB, qT_e1, qT_e2, qT_bCmp, qT_bCmpJ, qT_bAnd, qT_bOr, qT_bNot, qT_eBI, qT_eIf, qT_eLd, qT_eLdR, qT_eLen, qT_eF, qT_eFR, qT_aN, qT_aS, qT_eCl, qT_eClR, qT_eClB, qT_some, qT_x, z_nx_N, z_nx_B, z_nx_R, z_nx_X, z_bk_N, z_bk_B, z_bk_R, z_bk_X, oAdd, oSub, oMul, oNeg, cLt, cLe, cGt, cGe, cEq, cNe, Option.some.injEq, Sum.inl.injEq, Sum.inr.injEq, Prod.mk.injEq, exists_eq_left, exists_eq_left', exists_eq_right, exists_and_left, reduceCtorEq, and_true, true_and, and_false, false_and, List.getElem?_cons_zero, List.getElem?_cons_succ, List.set_cons_zero, List.set_cons_succ, List.replicate, List.length_cons, List.length_nil, List.cons_append, List.nil_append, Nat.reduceAdd, Nat.reduceSub, decide_eq_true_eq, decide_eq_false_iff_not, Bool.true_eq_false, Bool.false_eq_true, true_implies, false_implies, implies_true, Nat.reduceLT, exists_const, z_vB_inj, and_assoc, z_in_iff, oI2L, oL2I, Int.toNat_natCast, z_toNat0, Bool.not_eq_true', Bool.not_eq_false', ne_eq, Bool.not_true, Bool.not_false, Nat.add_zero, Int.add_zero, z_sl_s]
      repeat (refine And.intro (by omega) ?_)
      exact K
  obtain ⟨h', q1, ρ, Sk, z, rfl, -, k1, k2, k3, k4⟩ := q
  refine ⟨Sk, q1, k1, fun x y hx hy => ?_, k2, k3⟩
  obtain ⟨w1, w2, w3⟩ := n_sq2 hx hy
  have := k4 _ w1
  rwa [w2, w3] at this
theorem f_isLike (I : cInv S) {a b n : Nat} (ha : a < 4) (hb : b < 4) (hn : 1 ≤ n ∧ n ≤ 5) (ea : S (51 + 9 * a) 0 = (n : Int)) (eb : S (51 + 9 * b) 0 = (n : Int)) (h : ∀ x y, x < n → y < n → cM S a x y = cM S b x y) : m_L_isLike [vR 0, vI (a : Int), vI (b : Int), vI (n : Int)] (k_W X S) = some (.inl (some (vB true)), k_W X S) := by
  have b6 : INF = 1000000 := rfl
  have nn := n_sqi n
  have n25 : n * n ≤ 25 := Nat.mul_le_mul hn.2 hn.2
  unfold m_L_isLike
  apply q_body
  have b6 : INF = 1000000 := rfl
  simp only [b_L_isLike, s_L_isLike_3, z_vB1, z_vB0, if_true, if_false, not_true_eq_false, not_false_eq_true, exists_eq, qS_nop, qS_seq, qS_set, qS_setJ, qS_if, qS_brk, qS_ret, qS_retV, qS_throw, qS_inc, qS_cl, qS_ast, qS_aop, qS_fst, qS_fop, qS_sw, qT_eC, qT_eCB, qT_eL, qT_eLJ, qT_eLR, qT_eLS, qT_eSLen, qT_eSLd, qT_eLB, qT_e1, qT_e2, qT_bCmp, qT_bCmpJ, qT_bAnd, qT_bOr, qT_bNot, qT_eBI, qT_eIf, qT_eLd, qT_eLdR, qT_eLen, qT_eF, qT_eFR, qT_aN, qT_aS, qT_eCl, qT_eClR, qT_eClB, qT_some, qT_x, z_nx_N, z_nx_B, z_nx_R, z_nx_X, z_bk_N, z_bk_B, z_bk_R, z_bk_X, oAdd, oSub, oMul, oNeg, cLt, cLe, cGt, cGe, cEq, cNe, Option.some.injEq, Sum.inl.injEq, Sum.inr.injEq, Prod.mk.injEq, exists_eq_left, exists_eq_left', exists_eq_right, exists_and_left, reduceCtorEq, and_true, true_and, and_false, false_and, List.getElem?_cons_zero, List.getElem?_cons_succ, List.set_cons_zero, List.set_cons_succ, List.replicate, List.length_cons, List.length_nil, List.cons_append, List.nil_append, Nat.reduceAdd, Nat.reduceSub, decide_eq_true_eq, decide_eq_false_iff_not, Bool.true_eq_false, Bool.false_eq_true, true_implies, false_implies, implies_true, Nat.reduceLT, exists_const, z_vB_inj, and_assoc, z_in_iff, oI2L, oL2I, Int.toNat_natCast, z_toNat0, Bool.not_eq_true', Bool.not_eq_false', ne_eq, Bool.not_true, Bool.not_false, Nat.add_zero, Int.add_zero, z_sl_s]
  refine qS_for (fun k => [vR 0, vI (a : Int), vI (b : Int), vI (n : Int), vB true, vI (k : Int)]) (fun _ => k_W X S) (fun _ => True) (n * n) rfl rfl trivial (by omega) ?_ ?_
  · intro k hk _
    have kb := n_sq hn.2 hk
    have kn : (k : Int) < ((n * n : Nat) : Int) := by omega
    have g1 : oDiv (k : Int) (n : Int) = some ((k / n : Nat) : Int) := z_dv (by omega) (by omega) (by omega)
    have g2 : oRem (k : Int) (n : Int) = some ((k % n : Nat) : Int) := z_rm (by omega) (by omega) (by omega)
    have f1 := f_at (X := X) ha hn.2 ea kb.1 kb.2.1
    have f2 := f_at (X := X) hb hn.2 eb kb.1 kb.2.1
    have e := h _ _ kb.1 kb.2.1
    have cb : kR (cM S b (k / n) (k % n)) := cM_R I hb eb (by omega) (by omega)
    rw [e] at f1
    simp only [l_L_isLike_14, g1, g2, f1, f2, nn, kn, z_vB1, z_vB0, if_true, if_false, not_true_eq_false, not_false_eq_true, exists_eq, qS_nop, qS_seq, qS_set, qS_setJ, qS_if, qS_brk, qS_ret, qS_retV, qS_throw, qS_inc, qS_cl, qS_ast, qS_aop, qS_fst, qS_fop, qS_sw, qT_eC, qT_eCB, qT_eL, qT_eLJ, qT_eLR, qT_eLS, qT_eSLen, qT_eSLd, qT_eLB, qT_e1, qT_e2, qT_bCmp, qT_bCmpJ, qT_bAnd, qT_bOr, qT_bNot, qT_eBI, qT_eIf, qT_eLd, qT_eLdR, qT_eLen, qT_eF, qT_eFR, qT_aN, qT_aS, qT_eCl, qT_eClR, qT_eClB, qT_some, qT_x, z_nx_N, z_nx_B, z_nx_R, z_nx_X, z_bk_N, z_bk_B, z_bk_R, z_bk_X, oAdd, oSub, oMul, oNeg, cLt, cLe, cGt, cGe, cEq, cNe, Option.some.injEq, Sum.inl.injEq, Sum.inr.injEq, Prod.mk.injEq, exists_eq_left, exists_eq_left', exists_eq_right, exists_and_left, reduceCtorEq, and_true, true_and, and_false, false_and, List.getElem?_cons_zero, List.getElem?_cons_succ, List.set_cons_zero, List.set_cons_succ, List.replicate, List.length_cons, List.length_nil, List.cons_append, List.nil_append, Nat.reduceAdd, Nat.reduceSub, decide_eq_true_eq, decide_eq_false_iff_not, Bool.true_eq_false, Bool.false_eq_true, true_implies, false_implies, implies_true, Nat.reduceLT, exists_const, z_vB_inj, and_assoc, z_in_iff, oI2L, oL2I, Int.toNat_natCast, z_toNat0, Bool.not_eq_true', Bool.not_eq_false', ne_eq, Bool.not_true, Bool.not_false, Nat.add_zero, Int.add_zero, z_sl_s]
    (repeat' (first | apply And.intro | intro _)) <;> first | omega | rfl | grind
  · intro _
    have nk : ¬ (((n * n : Nat) : Int) < ((n * n : Nat) : Int)) := by omega
    simp only [s_L_isLike_61, nn, nk, z_vB1, z_vB0, if_true, if_false, not_true_eq_false, not_false_eq_true, exists_eq, qS_nop, qS_seq, qS_set, qS_setJ, qS_if, qS_brk, qS_ret, qS_retV, qS_throw, qS_inc, qS_cl, qS_ast, qS_aop, qS_fst, qS_fop, qS_sw, qT_eC, qT_eCB, qT_eL, qT_eLJ, qT_eLR, qT_eLS, qT_eSLen, qT_eSLd, qT_eLB, qT_e1, qT_e2, qT_bCmp, qT_bCmpJ, qT_bAnd, qT_bOr, qT_bNot, qT_eBI, qT_eIf, qT_eLd, qT_eLdR, qT_eLen, qT_eF, qT_eFR, qT_aN, qT_aS, qT_eCl, qT_eClR, qT_eClB, qT_some, qT_x, z_nx_N, z_nx_B, z_nx_R, z_nx_X, z_bk_N, z_bk_B, z_bk_R, z_bk_X, oAdd, oSub, oMul, oNeg, cLt, cLe, cGt, cGe, cEq, cNe, Option.some.injEq, Sum.inl.injEq, Sum.inr.injEq, Prod.mk.injEq, exists_eq_left, exists_eq_left', exists_eq_right, exists_and_left, reduceCtorEq, and_true, true_and, and_false, false_and, List.getElem?_cons_zero, List.getElem?_cons_succ, List.set_cons_zero, List.set_cons_succ, List.replicate, List.length_cons, List.length_nil, List.cons_append, List.nil_append, Nat.reduceAdd, Nat.reduceSub, decide_eq_true_eq, decide_eq_false_iff_not, Bool.true_eq_false, Bool.false_eq_true, true_implies, false_implies, implies_true, Nat.reduceLT, exists_const, z_vB_inj, and_assoc, z_in_iff, oI2L, oL2I, Int.toNat_natCast, z_toNat0, Bool.not_eq_true', Bool.not_eq_false', ne_eq, Bool.not_true, Bool.not_false, Nat.add_zero, Int.add_zero, z_sl_s]
    omega
end LF
