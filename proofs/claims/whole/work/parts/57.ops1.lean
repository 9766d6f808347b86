/-! THE FACE: polynomials that are asked -/
section FC
variable {S : Nat → Nat → Int}
theorem rP_e (I : kInv S) {i : Nat} (hi : i < 4) {k : Nat} (hk : k < 9) : rP S i k = S (50 + 9 * i) k := (I.1 i hi).2 k hk
theorem z_val_cg {f g : Nat → Int} {x : Int} : ∀ n, (∀ k, k < n → f k = g k) → z_val f x n = z_val g x n
  | 0, _ => rfl
  | n + 1, h => by rw [z_val, z_val, z_val_cg n (fun k hk => h k (by omega)), h n (by omega)]
theorem pSpare_cg {f g : Nat → Int} (h : ∀ k, k < 9 → f k = g k) {p : Nat} (hp : p < 9) : pSpare f p ↔ pSpare g p := by
  unfold pSpare
  rw [h p hp]
  refine and_congr_right (fun _ => exists_congr (fun a => exists_congr (fun b => ?_)))
  constructor
  · rintro ⟨h1, h2, h3, h4⟩
    rw [h a (by omega), h b h3] at h4
    exact ⟨h1, h2, h3, h4⟩
  · rintro ⟨h1, h2, h3, h4⟩
    rw [← h a (by omega), ← h b h3] at h4
    exact ⟨h1, h2, h3, h4⟩
theorem pCor_cg {f g : Nat → Int} (h : ∀ k, k < 9 → f k = g k) {p : Nat} (hp : p < 9) : pCor f p ↔ pCor g p := by
  unfold pCor
  rw [h p hp, pSpare_cg h hp]
theorem z_cnt_cg {p q : Nat → Bool} : ∀ n, (∀ k, k < n → p k = q k) → z_cnt p n = z_cnt q n
  | 0, _ => rfl
  | n + 1, h => by rw [z_cnt, z_cnt, z_cnt_cg n (fun k hk => h k (by omega)), h n (by omega)]
theorem pCors_cg {f g : Nat → Int} (h : ∀ k, k < 9 → f k = g k) {n : Nat} (hn : n ≤ 9) : pCors f n = pCors g n := z_cnt_cg n (fun k hk => z_dec_c _ _ (pCor_cg h (by omega)))
theorem rf_isCorner {p k : Nat} (hp : p < 4) (hk : k < 9) (hf : pOk (rP S p)) : m_X6_isCorner [vR 85, vI (p : Int), vI (k : Int)] (k_W S) = some (.inl (some (vB (z_dec (pCor (rP S p) k)))), k_W S) := by
  unfold m_X6_isCorner
  rw [k_v85]
  apply q_body
  have b6 : INF = 1000000 := rfl
  have e1 := rf_isTerm hp hk hf
  have e2 := rf_isOver hp hk hf
  have w : pCor (rP S p) k ↔ rP S p k ≠ INF ∧ ¬ pOv (rP S p) k k := by
    unfold pCor
    rw [pSpare_ov]
    grind
  rw [z_dec_c _ _ w]
  generalize (rP S p k ≠ INF) = A at *
  generalize pOv (rP S p) k k = C at *
  simp only [b_X6_isCorner, e1, e2, qS_nop, qS_seq, qS_set, qS_setJ, qS_if, qS_brk, qS_ret, qS_retV, qS_throw, qS_inc, qS_cl, qS_ast, qS_aop, qS_fst, qS_fop, qS_sw, qT_eC, qT_eCB, qT_eL, qT_eLJ, qT_eLR, qT_eLB, qT_e1, qT_e2, qT_bCmp, qT_bCmpJ, qT_bAnd, qT_bOr, qT_bNot, qT_eBI, qT_eIf, qT_eLd, qT_eLdR, qT_eLen, qT_eF, qT_eFR, qT_aN, qT_aS, qT_eCl, qT_eClR, qT_eClB, qT_some, qT_x, z_nx_N, z_nx_B, z_nx_R, z_nx_X, z_bk_N, z_bk_B, z_bk_R, z_bk_X, oAdd, oSub, oMul, oNeg, cLt, cLe, cGt, cGe, cEq, cNe, Option.some.injEq, Sum.inl.injEq, Sum.inr.injEq, Prod.mk.injEq, exists_eq_left, exists_eq_left', exists_eq_right, exists_and_left, reduceCtorEq, and_true, true_and, and_false, false_and, List.getElem?_cons_zero, List.getElem?_cons_succ, List.set_cons_zero, List.set_cons_succ, List.replicate, List.length_cons, List.length_nil, List.cons_append, List.nil_append, Nat.reduceAdd, Nat.reduceSub, decide_eq_true_eq, decide_eq_false_iff_not, Bool.true_eq_false, Bool.false_eq_true, true_implies, false_implies, implies_true, Nat.reduceLT, exists_const, z_vB_inj, and_assoc, z_in_iff, oI2L, oL2I, Int.toNat_natCast, z_toNat0, Bool.not_eq_true', Bool.not_eq_false', ne_eq, Bool.not_true, Bool.not_false, Nat.add_zero, Int.add_zero, z_sl_s]
  try simp only [List.cons.injEq, Sum.inl.injEq, Sum.inr.injEq, z_vB_inj, and_true, true_and, exists_eq', exists_eq_left, exists_eq_left', exists_eq_right, exists_eq_right', exists_and_left, exists_and_right, exists_const, if_true, if_false, z_vB1, z_vB0, z_vBP, z_bd, decide_eq_true_eq, decide_eq_false_iff_not, Bool.not_eq_true', Bool.false_eq_true, Bool.true_eq_false, z_dec_iff, z_dec_f, z_dec_inj, true_iff, iff_true, false_iff, iff_false, not_true_eq_false, not_false_eq_true, Classical.not_not]
  grind
theorem rf_isSame {p q : Nat} (hp : p < 4) (hq : q < 4) (hf : pOk (rP S p)) (hg : pOk (rP S q)) : m_X6_isSame [vR 85, vI (p : Int), vI (q : Int)] (k_W S) = some (.inl (some (vB (z_dec (pSame (rP S p) (rP S q) 9)))), k_W S) := by
  unfold m_X6_isSame
  rw [k_v85]
  apply q_body
  have b6 : INF = 1000000 := rfl
  simp only [b_X6_isSame, qS_nop, qS_seq, qS_set, qS_setJ, qS_if, qS_brk, qS_ret, qS_retV, qS_throw, qS_inc, qS_cl, qS_ast, qS_aop, qS_fst, qS_fop, qS_sw, qT_eC, qT_eCB, qT_eL, qT_eLJ, qT_eLR, qT_eLB, qT_e1, qT_e2, qT_bCmp, qT_bCmpJ, qT_bAnd, qT_bOr, qT_bNot, qT_eBI, qT_eIf, qT_eLd, qT_eLdR, qT_eLen, qT_eF, qT_eFR, qT_aN, qT_aS, qT_eCl, qT_eClR, qT_eClB, qT_some, qT_x, z_nx_N, z_nx_B, z_nx_R, z_nx_X, z_bk_N, z_bk_B, z_bk_R, z_bk_X, oAdd, oSub, oMul, oNeg, cLt, cLe, cGt, cGe, cEq, cNe, Option.some.injEq, Sum.inl.injEq, Sum.inr.injEq, Prod.mk.injEq, exists_eq_left, exists_eq_left', exists_eq_right, exists_and_left, reduceCtorEq, and_true, true_and, and_false, false_and, List.getElem?_cons_zero, List.getElem?_cons_succ, List.set_cons_zero, List.set_cons_succ, List.replicate, List.length_cons, List.length_nil, List.cons_append, List.nil_append, Nat.reduceAdd, Nat.reduceSub, decide_eq_true_eq, decide_eq_false_iff_not, Bool.true_eq_false, Bool.false_eq_true, true_implies, false_implies, implies_true, Nat.reduceLT, exists_const, z_vB_inj, and_assoc, z_in_iff, oI2L, oL2I, Int.toNat_natCast, z_toNat0, Bool.not_eq_true', Bool.not_eq_false', ne_eq, Bool.not_true, Bool.not_false, Nat.add_zero, Int.add_zero, z_sl_s]
  refine qS_loop (fun k ρ h' => h' = k_W S ∧ ∃ x, ρ = [vR 85, vI (p : Int), vI (q : Int), vB (z_dec (pSame (rP S p) (rP S q) k)), vI (k : Int), x]) 9 ?_ ?_ 9 0 z_fuel _ _ (by omega) (z_fuel_lt (by omega)) ⟨rfl, vU, ?_⟩
  · rintro k ρ h' hk ⟨rfl, x, rfl⟩
    have e1 := rf_isCorner hp hk hf
    have e2 := rf_isCorner hq hk hg
    have o1 := rf_of (S := S) hp hk
    have o2 := rf_of (S := S) hq hk
    have b1 := hf.z hk
    have b2 := hg.z hk
    have w : pSame (rP S p) (rP S q) (k + 1) ↔ pSame (rP S p) (rP S q) k ∧ (pCor (rP S p) k ↔ pCor (rP S q) k) ∧ (pCor (rP S p) k → rP S p k = rP S q k) := by
      unfold pSame
      rw [z_fa_s]
    rw [z_dec_c _ _ w]
    generalize pSame (rP S p) (rP S q) k = A at *
    generalize pCor (rP S p) k = C1 at *
    generalize pCor (rP S q) k = C2 at *
    generalize rP S p k = x1 at *
    generalize rP S q k = x2 at *
    have k1 : (C1 ∧ z_dec C1 = true) ∨ (¬ C1 ∧ z_dec C1 = false) := by
      by_cases h : C1
      · exact Or.inl ⟨h, (z_dec_iff _).mpr h⟩
      · exact Or.inr ⟨h, (z_dec_f _).mpr h⟩
    have k2 : (C2 ∧ z_dec C2 = true) ∨ (¬ C2 ∧ z_dec C2 = false) := by
      by_cases h : C2
      · exact Or.inl ⟨h, (z_dec_iff _).mpr h⟩
      · exact Or.inr ⟨h, (z_dec_f _).mpr h⟩
    generalize z_dec C1 = d1 at *
    generalize z_dec C2 = d2 at *
    simp only [e1, e2, o1, o2, qS_nop, qS_seq, qS_set, qS_setJ, qS_if, qS_brk, qS_ret, qS_retV, qS_throw, qS_inc, qS_cl, qS_ast, qS_aop, qS_fst, qS_fop, qS_sw, qT_eC, qT_eCB, qT_eL, qT_eLJ, qT_eLR, qT_eLB, qT_e1, qT_e2, qT_bCmp, qT_bCmpJ, qT_bAnd, qT_bOr, qT_bNot, qT_eBI, qT_eIf, qT_eLd, qT_eLdR, qT_eLen, qT_eF, qT_eFR, qT_aN, qT_aS, qT_eCl, qT_eClR, qT_eClB, qT_some, qT_x, z_nx_N, z_nx_B, z_nx_R, z_nx_X, z_bk_N, z_bk_B, z_bk_R, z_bk_X, oAdd, oSub, oMul, oNeg, cLt, cLe, cGt, cGe, cEq, cNe, Option.some.injEq, Sum.inl.injEq, Sum.inr.injEq, Prod.mk.injEq, exists_eq_left, exists_eq_left', exists_eq_right, exists_and_left, reduceCtorEq, and_true, true_and, and_false, false_and, List.getElem?_cons_zero, List.getElem?_cons_succ, List.set_cons_zero, List.set_cons_succ, List.replicate, List.length_cons, List.length_nil, List.cons_append, List.nil_append, Nat.reduceAdd, Nat.reduceSub, decide_eq_true_eq, decide_eq_false_iff_not, Bool.true_eq_false, Bool.false_eq_true, true_implies, false_implies, implies_true, Nat.reduceLT, exists_const, z_vB_inj, and_assoc, z_in_iff, oI2L, oL2I, Int.toNat_natCast, z_toNat0, Bool.not_eq_true', Bool.not_eq_false', ne_eq, Bool.not_true, Bool.not_false, Nat.add_zero, Int.add_zero, z_sl_s]
    try simp only [List.cons.injEq, Sum.inl.injEq, Sum.inr.injEq, z_vB_inj, and_true, true_and, exists_eq', exists_eq_left, exists_eq_left', exists_eq_right, exists_eq_right', exists_and_left, exists_and_right, exists_const, if_true, if_false, z_vB1, z_vB0, z_vBP, z_bd, decide_eq_true_eq, decide_eq_false_iff_not, Bool.not_eq_true', Bool.false_eq_true, Bool.true_eq_false, z_dec_iff, z_dec_f, z_dec_inj, true_iff, iff_true, false_iff, iff_false, not_true_eq_false, not_false_eq_true, Classical.not_not]
    clear e1 e2 o1 o2 w
    cases d1 <;> cases d2 <;> (try simp only [if_true, if_false, Bool.false_eq_true]) <;> (repeat' (first | apply And.intro | intro _)) <;> first | omega | rfl | grind
  · rintro ρ h' ⟨rfl, x, rfl⟩
    simp only [qS_nop, qS_seq, qS_set, qS_setJ, qS_if, qS_brk, qS_ret, qS_retV, qS_throw, qS_inc, qS_cl, qS_ast, qS_aop, qS_fst, qS_fop, qS_sw, qT_eC, qT_eCB, qT_eL, qT_eLJ, qT_eLR, qT_eLB, qT_e1, qT_e2, qT_bCmp, qT_bCmpJ, qT_bAnd, qT_bOr, qT_bNot, qT_eBI, qT_eIf, qT_eLd, qT_eLdR, qT_eLen, qT_eF, qT_eFR, qT_aN, qT_aS, qT_eCl, qT_eClR, qT_eClB, qT_some, qT_x, z_nx_N, z_nx_B, z_nx_R, z_nx_X, z_bk_N, z_bk_B, z_bk_R, z_bk_X, oAdd, oSub, oMul, oNeg, cLt, cLe, cGt, cGe, cEq, cNe, Option.some.injEq, Sum.inl.injEq, Sum.inr.injEq, Prod.mk.injEq, exists_eq_left, exists_eq_left', exists_eq_right, exists_and_left, reduceCtorEq, and_true, true_and, and_false, false_and, List.getElem?_cons_zero, List.getElem?_cons_succ, List.set_cons_zero, List.set_cons_succ, List.replicate, List.length_cons, List.length_nil, List.cons_append, List.nil_append, Nat.reduceAdd, Nat.reduceSub, decide_eq_true_eq, decide_eq_false_iff_not, Bool.true_eq_false, Bool.false_eq_true, true_implies, false_implies, implies_true, Nat.reduceLT, exists_const, z_vB_inj, and_assoc, z_in_iff, oI2L, oL2I, Int.toNat_natCast, z_toNat0, Bool.not_eq_true', Bool.not_eq_false', ne_eq, Bool.not_true, Bool.not_false, Nat.add_zero, Int.add_zero, z_sl_s]
    omega
  · rw [show z_dec (pSame (rP S p) (rP S q) 0) = true from (z_dec_iff _).mpr (fun k hk => absurd hk (Nat.not_lt_zero k))]
    rfl

end FC
