/-! THE LAW: polynomials -/
/-- the law's own row, behind the class's cells -/
def kP (P : Nat → Int) : z_Hp := [.inr (0, 64, P)]
/-- it holds what the polynomials hold -/
def pMr (P : Nat → Int) (S : Nat → Nat → Int) : Prop := ∀ i k, i < 4 → k < 9 → P (9 * i + k) = S (50 + 9 * i) k
section LP
variable {P : Nat → Int} {S : Nat → Nat → Int}
theorem kP_a : z_arr (k_W (kP P) S) 85 0 = some (64, P) := q_arr (k_hi (Nat.le_refl 85)) (by decide)
theorem kP_s (g : Nat → Int) : (k_W (kP P) S).set 85 (.inr (0, 64, g)) = k_W (kP g) S := k_setX (i := 0)
theorem f_valueOf {i : Nat} (hi : i < 4) (M : pMr P S) (pf : pOk (S (50 + 9 * i))) {x : Int} (h1 : -999 ≤ x) (h2 : x ≤ 999) : m_L_valueOf [vR 85, vI (i : Int), vI x] (k_W (kP P) S) = some (.inl (some (vI (z_val (S (50 + 9 * i)) x 9))), k_W (kP P) S) := by
  unfold m_L_valueOf
  apply q_body
  have b6 : INF = 1000000 := rfl
  simp only [b_L_valueOf, s_L_valueOf_3, qS_nop, qS_seq, qS_set, qS_setJ, qS_if, qS_brk, qS_ret, qS_retV, qS_throw, qS_inc, qS_cl, qS_ast, qS_aop, qS_fst, qS_fop, qS_sw, qT_eC, qT_eCB, qT_eL, qT_eLJ, qT_eLR, qT_eLS, qT_eSLen, qT_eSLd, qT_eLB, qT_e1, qT_e2, qT_bCmp, qT_bCmpJ, qT_bAnd, qT_bOr, qT_bNot, qT_eBI, qT_eIf, qT_eLd, qT_eLdR, qT_eLen, qT_eF, qT_eFR, qT_aN, qT_aS, qT_eCl, qT_eClR, qT_eClB, qT_some, qT_x, z_nx_N, z_nx_B, z_nx_R, z_nx_X, z_bk_N, z_bk_B, z_bk_R, z_bk_X, oAdd, oSub, oMul, oNeg, cLt, cLe, cGt, cGe, cEq, cNe, Option.some.injEq, Sum.inl.injEq, Sum.inr.injEq, Prod.mk.injEq, exists_eq_left, exists_eq_left', exists_eq_right, exists_and_left, reduceCtorEq, and_true, true_and, and_false, false_and, List.getElem?_cons_zero, List.getElem?_cons_succ, List.set_cons_zero, List.set_cons_succ, List.replicate, List.length_cons, List.length_nil, List.cons_append, List.nil_append, Nat.reduceAdd, Nat.reduceSub, decide_eq_true_eq, decide_eq_false_iff_not, Bool.true_eq_false, Bool.false_eq_true, true_implies, false_implies, implies_true, Nat.reduceLT, exists_const, z_vB_inj, and_assoc, z_in_iff, oI2L, oL2I, Int.toNat_natCast, z_toNat0, Bool.not_eq_true', Bool.not_eq_false', ne_eq, Bool.not_true, Bool.not_false, Nat.add_zero, Int.add_zero, z_sl_s]
  refine qS_for (fun k => [vR 85, vI (i : Int), vI x, vI (z_val (S (50 + 9 * i)) x k), vI (k : Int)]) (fun _ => k_W (kP P) S) (fun _ => True) 9 rfl rfl trivial (by decide) ?_ ?_
  · intro k hk _
    have e2 := z_val_b pf h1 h2 k (by omega)
    have e3 := e2.2.2 k hk
    have e4 := pf.z hk
    have m := M i k hi hk
    have t : (9 * (i : Int) + (k : Int)).toNat = 9 * i + k := by omega
    have e5 := f_lesser (a := z_val (S (50 + 9 * i)) x k) (b := S (50 + 9 * i) k + (k : Int) * x) ⟨by omega, by omega⟩ ⟨by omega, by omega⟩
    simp only [l_L_valueOf_13, kP_a, t, m, e5, qS_nop, qS_seq, qS_set, qS_setJ, qS_if, qS_brk, qS_ret, qS_retV, qS_throw, qS_inc, qS_cl, qS_ast, qS_aop, qS_fst, qS_fop, qS_sw, qT_eC, qT_eCB, qT_eL, qT_eLJ, qT_eLR, qT_eLS, qT_eSLen, qT_eSLd, qT_eLB, qT_e1, qT_e2, qT_bCmp, qT_bCmpJ, qT_bAnd, qT_bOr, qT_bNot, qT_eBI, qT_eIf, qT_eLd, qT_eLdR, qT_eLen, qT_eF, qT_eFR, qT_aN, qT_aS, qT_eCl, qT_eClR, qT_eClB, qT_some, qT_x, z_nx_N, z_nx_B, z_nx_R, z_nx_X, z_bk_N, z_bk_B, z_bk_R, z_bk_X, oAdd, oSub, oMul, oNeg, cLt, cLe, cGt, cGe, cEq, cNe, Option.some.injEq, Sum.inl.injEq, Sum.inr.injEq, Prod.mk.injEq, exists_eq_left, exists_eq_left', exists_eq_right, exists_and_left, reduceCtorEq, and_true, true_and, and_false, false_and, List.getElem?_cons_zero, List.getElem?_cons_succ, List.set_cons_zero, List.set_cons_succ, List.replicate, List.length_cons, List.length_nil, List.cons_append, List.nil_append, Nat.reduceAdd, Nat.reduceSub, decide_eq_true_eq, decide_eq_false_iff_not, Bool.true_eq_false, Bool.false_eq_true, true_implies, false_implies, implies_true, Nat.reduceLT, exists_const, z_vB_inj, and_assoc, z_in_iff, oI2L, oL2I, Int.toNat_natCast, z_toNat0, Bool.not_eq_true', Bool.not_eq_false', ne_eq, Bool.not_true, Bool.not_false, Nat.add_zero, Int.add_zero, z_sl_s]
    repeat (refine And.intro (by omega) ?_)
    refine ⟨fun q => ?_, fun q => ?_⟩
    · simp [z_val, q]
    · have q' : ¬ (S (50 + 9 * i) k = INF) := q
      simp only [z_val, if_neg q']
      (repeat' (first | apply And.intro | intro _)) <;> first | omega | rfl | grind
  · intro _
    simp only [s_L_valueOf_56, qS_nop, qS_seq, qS_set, qS_setJ, qS_if, qS_brk, qS_ret, qS_retV, qS_throw, qS_inc, qS_cl, qS_ast, qS_aop, qS_fst, qS_fop, qS_sw, qT_eC, qT_eCB, qT_eL, qT_eLJ, qT_eLR, qT_eLS, qT_eSLen, qT_eSLd, qT_eLB, qT_e1, qT_e2, qT_bCmp, qT_bCmpJ, qT_bAnd, qT_bOr, qT_bNot, qT_eBI, qT_eIf, qT_eLd, qT_eLdR, qT_eLen, qT_eF, qT_eFR, qT_aN, qT_aS, qT_eCl, qT_eClR, qT_eClB, qT_some, qT_x, z_nx_N, z_nx_B, z_nx_R, z_nx_X, z_bk_N, z_bk_B, z_bk_R, z_bk_X, oAdd, oSub, oMul, oNeg, cLt, cLe, cGt, cGe, cEq, cNe, Option.some.injEq, Sum.inl.injEq, Sum.inr.injEq, Prod.mk.injEq, exists_eq_left, exists_eq_left', exists_eq_right, exists_and_left, reduceCtorEq, and_true, true_and, and_false, false_and, List.getElem?_cons_zero, List.getElem?_cons_succ, List.set_cons_zero, List.set_cons_succ, List.replicate, List.length_cons, List.length_nil, List.cons_append, List.nil_append, Nat.reduceAdd, Nat.reduceSub, decide_eq_true_eq, decide_eq_false_iff_not, Bool.true_eq_false, Bool.false_eq_true, true_implies, false_implies, implies_true, Nat.reduceLT, exists_const, z_vB_inj, and_assoc, z_in_iff, oI2L, oL2I, Int.toNat_natCast, z_toNat0, Bool.not_eq_true', Bool.not_eq_false', ne_eq, Bool.not_true, Bool.not_false, Nat.add_zero, Int.add_zero, z_sl_s]
    omega
theorem pMr.w (M : pMr P S) {S' : Nat → Nat → Int} (e : cFr (fun _ => False) S S') : pMr P S' := fun i k hi hk => by
  rw [e _ (by unfold cFree; omega) id]
  exact M i k hi hk
/-- a polynomial is set in both -/
theorem pMr.set (M : pMr P S) {S' : Nat → Nat → Int} {t : Nat} (ht : t < 4) {f P' : Nat → Int} (h : fLd S S' t f) (h1 : ∀ k, k < 9 → P' (9 * t + k) = f k) (h2 : ∀ x, x < 36 → ¬ (9 * t ≤ x ∧ x < 9 * t + 9) → P' x = P x) : pMr P' S' := fun i k hi hk => by
  by_cases c : i = t
  · subst c
    rw [h1 k hk, h.1 k hk]
  · rw [h2 _ (by omega) (by omega), h.2 _ (by unfold cFree; omega) (by omega)]
    exact M i k hi hk
theorem fLd.inv {S' : Nat → Nat → Int} (I : cInv S) {t : Nat} (ht : t < 4) {f : Nat → Int} (h : fLd S S' t f) (hf : pOk f) : cInv S' := I.p ht (fun k hk => by rw [h.1 k hk]; exact hf k hk) h.2
/-- what a round of the polynomials comes to -/
def lpR (m : z_Mt) (x y : Nat) (P : Nat → Int) (S : Nat → Nat → Int) : Prop := ∃ P' S', m [vR 0, vI (x : Int), vI (y : Int), vR 85] (k_W (kP P) S) = some (.inl (some (vB true)), k_W (kP P') S') ∧ cInv S' ∧ pMr P' S'
theorem f_polys0 (I : cInv S) (M : pMr P S) {x y : Nat} (hx : x < 1073741824) (hy : y < 1073741824) (hw : x % 5 < 2) : lpR m_L_polys x y P S := by
  have b6 : INF = 1000000 := rfl
  obtain ⟨i, hi⟩ : ∃ i, i = x / 5 % 4 := ⟨_, rfl⟩
  obtain ⟨j, hj⟩ : ∃ j, j = x / 20 % 4 := ⟨_, rfl⟩
  obtain ⟨l, hl⟩ : ∃ l, l = x / 80 % 4 := ⟨_, rfl⟩
  have h_i : i < 4 := by omega
  have d0 : oRem (x : Int) 5 = some ((x % 5 : Nat) : Int) := z_rm (m := 5) (by decide) (by omega) (by decide)
  have d1 : oDiv (x : Int) 5 = some ((x / 5 : Nat) : Int) := z_dv (m := 5) (by decide) (by omega) (by decide)
  have d2 : oRem ((x / 5 : Nat) : Int) 4 = some (i : Int) := by rw [hi]; exact z_rm (m := 4) (by decide) (by omega) (by decide)
  have d3 : oDiv (x : Int) 20 = some ((x / 20 : Nat) : Int) := z_dv (m := 20) (by decide) (by omega) (by decide)
  have d4 : oRem ((x / 20 : Nat) : Int) 4 = some (j : Int) := by rw [hj]; exact z_rm (m := 4) (by decide) (by omega) (by decide)
  have d5 : oDiv (x : Int) 80 = some ((x / 80 : Nat) : Int) := z_dv (m := 80) (by decide) (by omega) (by decide)
  have d6 : oRem ((x / 80 : Nat) : Int) 4 = some (l : Int) := by rw [hl]; exact z_rm (m := 4) (by decide) (by omega) (by decide)
  have d7 : oRem (y : Int) 1999 = some ((y % 1999 : Nat) : Int) := z_rm (m := 1999) (by decide) (by omega) (by decide)
  obtain ⟨q, hq⟩ : ∃ q, q = y % 9 := ⟨_, rfl⟩
  have h_q : q < 9 := by omega
  have e1 : oRem (y : Int) 9 = some (q : Int) := by rw [hq]; exact z_rm (m := 9) (by decide) (by omega) (by decide)
  have e2 : oDiv (y : Int) 9 = some ((y / 9 : Nat) : Int) := z_dv (m := 9) (by decide) (by omega) (by decide)
  have e3 : oRem ((y / 9 : Nat) : Int) 5 = some ((y / 9 % 5 : Nat) : Int) := z_rm (m := 5) (by decide) (by omega) (by decide)
  have e4 : oDiv (y : Int) 45 = some ((y / 45 : Nat) : Int) := z_dv (m := 45) (by decide) (by omega) (by decide)
  have e5 : oRem ((y / 45 : Nat) : Int) 41 = some ((y / 45 % 41 : Nat) : Int) := z_rm (m := 41) (by decide) (by omega) (by decide)
  have e6 : oDiv (y : Int) 2000 = some ((y / 2000 : Nat) : Int) := z_dv (m := 2000) (by decide) (by omega) (by decide)
  have e7 : oRem ((y / 2000 : Nat) : Int) 9 = some ((y / 2000 % 9 : Nat) : Int) := z_rm (m := 9) (by decide) (by omega) (by decide)
  have sq : 0 ≤ 7 * (q : Int) * q ∧ 7 * (q : Int) * q ≤ 448 := by
    rcases (show q = 0 ∨ q = 1 ∨ q = 2 ∨ q = 3 ∨ q = 4 ∨ q = 5 ∨ q = 6 ∨ q = 7 ∨ q = 8 by omega) with rfl | rfl | rfl | rfl | rfl | rfl | rfl | rfl | rfl <;> decide
  obtain ⟨n, hn⟩ : ∃ n : Int, n = if ((y / 9 % 5 : Nat) : Int) = 0 then 1000000 else ((y / 45 % 41 : Nat) : Int) - 20 + (if ((y / 2000 % 9 : Nat) : Int) = 0 then 7 * (q : Int) * q else 0) := ⟨_, rfl⟩
  have hn2 : (-999 ≤ n ∧ n ≤ 999) ∨ n = INF := by
    rw [hn]
    split
    · right; rfl
    · left; split <;> omega
  have t : (9 * (i : Int) + (q : Int)).toNat = 9 * i + q := by omega
  have m := M i q h_i h_q
  have pb := (I.1 i h_i).z h_q
  have cf := f_coefficient (X := kP (z_up P (9 * i + q) n)) (S := S) h_i h_q hn2
  have ww : ((x % 5 : Nat) : Int) < 2 := by omega
  refine ⟨z_up P (9 * i + q) n, k_u S (50 + 9 * i) (z_up (S (50 + 9 * i)) q n), ?_, I.p h_i (fun k hk => ?_) (cFr.u (D := fun a => a = 50 + 9 * i) (Or.inr rfl) _), fun i' k hi' hk => ?_⟩
  · have c : (((y / 9 % 5 : Nat) : Int) = 0 ∧ n = 1000000) ∨ (¬ ((y / 9 % 5 : Nat) : Int) = 0 ∧ ((y / 2000 % 9 : Nat) : Int) = 0 ∧ n = ((y / 45 % 41 : Nat) : Int) - 20 + 7 * (q : Int) * q) ∨ (¬ ((y / 9 % 5 : Nat) : Int) = 0 ∧ ¬ ((y / 2000 % 9 : Nat) : Int) = 0 ∧ n = ((y / 45 % 41 : Nat) : Int) - 20 + 0) := by
      rw [hn]
      by_cases c1 : ((y / 9 % 5 : Nat) : Int) = 0
      · rw [if_pos c1]; exact Or.inl ⟨c1, rfl⟩
      · rw [if_neg c1]
        by_cases c2 : ((y / 2000 % 9 : Nat) : Int) = 0
        · rw [if_pos c2]; exact Or.inr (Or.inl ⟨c1, c2, rfl⟩)
        · rw [if_neg c2]; exact Or.inr (Or.inr ⟨c1, c2, rfl⟩)
    rcases c with ⟨c1, c3⟩ | ⟨c1, c2, c3⟩ | ⟨c1, c2, c3⟩
    · unfold m_L_polys
      apply q_body
      have b6 : INF = 1000000 := rfl
      rw [c3] at cf ⊢
      simp only [b_L_polys, s_L_polys_5, s_L_polys_12, s_L_polys_20, s_L_polys_28, s_L_polys_39, s_L_polys_51, s_L_polys_101, s_L_polys_113, s_L_polys_125, d0, d1, d2, d3, d4, d5, d6, d7, e1, e2, e3, ww, c1, kP_a, kP_s, t, m, cf, z_vB1, z_vB0, if_true, if_false, not_true_eq_false, not_false_eq_true, exists_eq, qS_nop, qS_seq, qS_set, qS_setJ, qS_if, qS_brk, qS_ret, qS_retV, qS_throw, qS_inc, qS_cl, qS_ast, qS_aop, qS_fst, qS_fop, qS_sw, qT_eC, qT_eCB, qT_eL, qT_eLJ, qT_eLR, qT_eLS, qT_eSLen, qT_eSLd, qT_eLB, qT_e1, qT_e2, qT_bCmp, qT_bCmpJ, qT_bAnd, qT_bOr, qT_bNot, qT_eBI, qT_eIf, qT_eLd, qT_eLdR, qT_eLen, qT_eF, qT_eFR, qT_aN, qT_aS, qT_eCl, qT_eClR, qT_eClB, qT_some, qT_x, z_nx_N, z_nx_B, z_nx_R, z_nx_X, z_bk_N, z_bk_B, z_bk_R, z_bk_X, oAdd, oSub, oMul, oNeg, cLt, cLe, cGt, cGe, cEq, cNe, Option.some.injEq, Sum.inl.injEq, Sum.inr.injEq, Prod.mk.injEq, exists_eq_left, exists_eq_left', exists_eq_right, exists_and_left, reduceCtorEq, and_true, true_and, and_false, false_and, List.getElem?_cons_zero, List.getElem?_cons_succ, List.set_cons_zero, List.set_cons_succ, List.replicate, List.length_cons, List.length_nil, List.cons_append, List.nil_append, Nat.reduceAdd, Nat.reduceSub, decide_eq_true_eq, decide_eq_false_iff_not, Bool.true_eq_false, Bool.false_eq_true, true_implies, false_implies, implies_true, Nat.reduceLT, exists_const, z_vB_inj, and_assoc, z_in_iff, oI2L, oL2I, Int.toNat_natCast, z_toNat0, Bool.not_eq_true', Bool.not_eq_false', ne_eq, Bool.not_true, Bool.not_false, Nat.add_zero, Int.add_zero, z_sl_s]
      omega
    · unfold m_L_polys
      apply q_body
      have b6 : INF = 1000000 := rfl
      rw [c3] at cf ⊢
      simp only [b_L_polys, s_L_polys_5, s_L_polys_12, s_L_polys_20, s_L_polys_28, s_L_polys_39, s_L_polys_51, s_L_polys_101, s_L_polys_113, s_L_polys_125, d0, d1, d2, d3, d4, d5, d6, d7, e1, e2, e3, e4, e5, e6, e7, ww, c1, c2, kP_a, kP_s, t, m, cf, z_vB1, z_vB0, if_true, if_false, not_true_eq_false, not_false_eq_true, exists_eq, qS_nop, qS_seq, qS_set, qS_setJ, qS_if, qS_brk, qS_ret, qS_retV, qS_throw, qS_inc, qS_cl, qS_ast, qS_aop, qS_fst, qS_fop, qS_sw, qT_eC, qT_eCB, qT_eL, qT_eLJ, qT_eLR, qT_eLS, qT_eSLen, qT_eSLd, qT_eLB, qT_e1, qT_e2, qT_bCmp, qT_bCmpJ, qT_bAnd, qT_bOr, qT_bNot, qT_eBI, qT_eIf, qT_eLd, qT_eLdR, qT_eLen, qT_eF, qT_eFR, qT_aN, qT_aS, qT_eCl, qT_eClR, qT_eClB, qT_some, qT_x, z_nx_N, z_nx_B, z_nx_R, z_nx_X, z_bk_N, z_bk_B, z_bk_R, z_bk_X, oAdd, oSub, oMul, oNeg, cLt, cLe, cGt, cGe, cEq, cNe, Option.some.injEq, Sum.inl.injEq, Sum.inr.injEq, Prod.mk.injEq, exists_eq_left, exists_eq_left', exists_eq_right, exists_and_left, reduceCtorEq, and_true, true_and, and_false, false_and, List.getElem?_cons_zero, List.getElem?_cons_succ, List.set_cons_zero, List.set_cons_succ, List.replicate, List.length_cons, List.length_nil, List.cons_append, List.nil_append, Nat.reduceAdd, Nat.reduceSub, decide_eq_true_eq, decide_eq_false_iff_not, Bool.true_eq_false, Bool.false_eq_true, true_implies, false_implies, implies_true, Nat.reduceLT, exists_const, z_vB_inj, and_assoc, z_in_iff, oI2L, oL2I, Int.toNat_natCast, z_toNat0, Bool.not_eq_true', Bool.not_eq_false', ne_eq, Bool.not_true, Bool.not_false, Nat.add_zero, Int.add_zero, z_sl_s]
      omega
    · unfold m_L_polys
      apply q_body
      have b6 : INF = 1000000 := rfl
      rw [c3] at cf ⊢
      simp only [Int.add_zero] at cf ⊢
      simp only [b_L_polys, s_L_polys_5, s_L_polys_12, s_L_polys_20, s_L_polys_28, s_L_polys_39, s_L_polys_51, s_L_polys_101, s_L_polys_113, s_L_polys_125, d0, d1, d2, d3, d4, d5, d6, d7, e1, e2, e3, e4, e5, e6, e7, ww, c1, c2, kP_a, kP_s, t, m, cf, z_vB1, z_vB0, if_true, if_false, not_true_eq_false, not_false_eq_true, exists_eq, qS_nop, qS_seq, qS_set, qS_setJ, qS_if, qS_brk, qS_ret, qS_retV, qS_throw, qS_inc, qS_cl, qS_ast, qS_aop, qS_fst, qS_fop, qS_sw, qT_eC, qT_eCB, qT_eL, qT_eLJ, qT_eLR, qT_eLS, qT_eSLen, qT_eSLd, qT_eLB, qT_e1, qT_e2, qT_bCmp, qT_bCmpJ, qT_bAnd, qT_bOr, qT_bNot, qT_eBI, qT_eIf, qT_eLd, qT_eLdR, qT_eLen, qT_eF, qT_eFR, qT_aN, qT_aS, qT_eCl, qT_eClR, qT_eClB, qT_some, qT_x, z_nx_N, z_nx_B, z_nx_R, z_nx_X, z_bk_N, z_bk_B, z_bk_R, z_bk_X, oAdd, oSub, oMul, oNeg, cLt, cLe, cGt, cGe, cEq, cNe, Option.some.injEq, Sum.inl.injEq, Sum.inr.injEq, Prod.mk.injEq, exists_eq_left, exists_eq_left', exists_eq_right, exists_and_left, reduceCtorEq, and_true, true_and, and_false, false_and, List.getElem?_cons_zero, List.getElem?_cons_succ, List.set_cons_zero, List.set_cons_succ, List.replicate, List.length_cons, List.length_nil, List.cons_append, List.nil_append, Nat.reduceAdd, Nat.reduceSub, decide_eq_true_eq, decide_eq_false_iff_not, Bool.true_eq_false, Bool.false_eq_true, true_implies, false_implies, implies_true, Nat.reduceLT, exists_const, z_vB_inj, and_assoc, z_in_iff, oI2L, oL2I, Int.toNat_natCast, z_toNat0, Bool.not_eq_true', Bool.not_eq_false', ne_eq, Bool.not_true, Bool.not_false, Nat.add_zero, Int.add_zero, z_sl_s]
      omega
  · rw [k_u_s]
    unfold z_up
    split
    · omega
    · exact I.1 i h_i k hk
  · unfold k_u z_up
    by_cases c : i' = i
    · subst c
      rw [if_pos rfl]
      by_cases d : k = q
      · rw [if_pos d, if_pos (by omega)]
      · rw [if_neg d, if_neg (by omega)]
        exact M _ k hi' hk
    · rw [if_neg (by omega), if_neg (by omega)]
      exact M i' k hi' hk
end LP
