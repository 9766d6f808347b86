/-! THE FACE: polynomials -/
section FC
theorem z_dec_c (P Q : Prop) (h : P ↔ Q) : z_dec P = z_dec Q := congrArg z_dec (propext h)
theorem z_val_cg {f g : Nat → Int} {x : Int} : ∀ n, (∀ k, k < n → f k = g k) → z_val f x n = z_val g x n
  | 0, _ => rfl
  | n + 1, h => by rw [z_val, z_val, z_val_cg n (fun k hk => h k (by omega)), h n (by omega)]
theorem pSpare_cg {f g : Nat → Int} (h : ∀ k, k < 9 → f k = g k) {p : Nat} (hp : p < 9) : pSpare f p ↔ pSpare g p := by
  unfold pSpare
  rw [h p hp]
  refine and_congr_right (fun _ => exists_congr (fun a => exists_congr (fun b => ?_)))
  constructor
  · rintro ⟨h1, h2, h3, h4⟩
    rw [h a (by omega), h b h3] at h4
    exact ⟨h1, h2, h3, h4⟩
  · rintro ⟨h1, h2, h3, h4⟩
    rw [← h a (by omega), ← h b h3] at h4
    exact ⟨h1, h2, h3, h4⟩
theorem pCor_cg {f g : Nat → Int} (h : ∀ k, k < 9 → f k = g k) {p : Nat} (hp : p < 9) : pCor f p ↔ pCor g p := by
  unfold pCor
  rw [h p hp, pSpare_cg h hp]
theorem z_cnt_cg {p q : Nat → Bool} : ∀ n, (∀ k, k < n → p k = q k) → z_cnt p n = z_cnt q n
  | 0, _ => rfl
  | n + 1, h => by rw [z_cnt, z_cnt, z_cnt_cg n (fun k hk => h k (by omega)), h n (by omega)]
theorem pCors_cg {f g : Nat → Int} (h : ∀ k, k < 9 → f k = g k) {n : Nat} (hn : n ≤ 9) : pCors f n = pCors g n := z_cnt_cg n (fun k hk => z_dec_c _ _ (pCor_cg h (by omega)))
theorem pSame_cg {f g f' g' : Nat → Int} (h : ∀ k, k < 9 → f k = g k) (h' : ∀ k, k < 9 → f' k = g' k) : pSame f f' 9 ↔ pSame g g' 9 := by
  unfold pSame
  refine forall_congr' (fun k => forall_congr' (fun hk => ?_))
  rw [pCor_cg h hk, pCor_cg h' hk, h k hk, h' k hk]
theorem pCors_b (f : Nat → Int) (k : Nat) : 0 ≤ pCors f k ∧ pCors f k ≤ k := z_cnt_b _ _
def p9 (f d : Nat → Int) : Nat → Int := fun k => if k < 9 then f k else d k
def pMin (f g : Nat → Int) : Nat → Int := fun k => if g k < f k then g k else f k
theorem p9_l {f d : Nat → Int} {k : Nat} (h : k < 9) : p9 f d k = f k := if_pos h
theorem pMin_ok {f g : Nat → Int} (hf : pOk f) (hg : pOk g) : pOk (pMin f g) := fun k hk => by
  have a := hf k hk
  have b := hg k hk
  unfold pMin
  split
  · exact b
  · exact a
end FC
section FC2
variable {X : z_Hp} {S : Nat → Nat → Int} {i j l : Nat}
theorem f_coefficient (hi : i < 4) (hj : j < 9) {n : Int} (hn : (-999 ≤ n ∧ n ≤ 999) ∨ n = INF) : m_X5_coefficient [vR 0, vI (i : Int), vI (j : Int), vI n] (k_W X S) = some (.inl (some (vI (S (50 + 9 * i) j))), k_W X (k_u S (50 + 9 * i) (z_up (S (50 + 9 * i)) j n))) := by
  have e1 := s_nH1 (i := (i : Int)) (by omega)
  have e2 := s_nI1 (i := (j : Int)) (c := 9) (by decide) (by omega)
  have e3 := s_nG1 (n := n) hn
  have a1 := k_1r hi
  unfold m_X5_coefficient
  rw [k_v0]
  apply q_body
  have b6 : INF = 1000000 := rfl
  simp only [b_X5_coefficient, e1, e2, e3, k_o0, k_a1, a1, q_obj (k_po (X := X) (S := S) hi), q_arr (k_pc (X := X) (S := S) hi) (by decide : 9 < 2147483648), k_cs hi, qS_nop, qS_seq, qS_set, qS_setJ, qS_if, qS_brk, qS_ret, qS_retV, qS_throw, qS_inc, qS_cl, qS_ast, qS_aop, qS_fst, qS_fop, qS_sw, qT_eC, qT_eCB, qT_eL, qT_eLJ, qT_eLR, qT_eLS, qT_eSLen, qT_eSLd, qT_eLB, qT_e1, qT_e2, qT_bCmp, qT_bCmpJ, qT_bAnd, qT_bOr, qT_bNot, qT_eBI, qT_eIf, qT_eLd, qT_eLdR, qT_eLen, qT_eF, qT_eFR, qT_aN, qT_aS, qT_eCl, qT_eClR, qT_eClB, qT_some, qT_x, z_nx_N, z_nx_B, z_nx_R, z_nx_X, z_bk_N, z_bk_B, z_bk_R, z_bk_X, oAdd, oSub, oMul, oNeg, cLt, cLe, cGt, cGe, cEq, cNe, Option.some.injEq, Sum.inl.injEq, Sum.inr.injEq, Prod.mk.injEq, exists_eq_left, exists_eq_left', exists_eq_right, exists_and_left, reduceCtorEq, and_true, true_and, and_false, false_and, List.getElem?_cons_zero, List.getElem?_cons_succ, List.set_cons_zero, List.set_cons_succ, List.replicate, List.length_cons, List.length_nil, List.cons_append, List.nil_append, Nat.reduceAdd, Nat.reduceSub, decide_eq_true_eq, decide_eq_false_iff_not, Bool.true_eq_false, Bool.false_eq_true, true_implies, false_implies, implies_true, Nat.reduceLT, exists_const, z_vB_inj, and_assoc, z_in_iff, oI2L, oL2I, Int.toNat_natCast, z_toNat0, Bool.not_eq_true', Bool.not_eq_false', ne_eq, Bool.not_true, Bool.not_false, Nat.add_zero, Int.add_zero, z_sl_s]
  omega
theorem f_value (hi : i < 4) (pf : pOk (S (50 + 9 * i))) {x : Int} (h1 : -999 ≤ x) (h2 : x ≤ 999) : m_X5_value [vR 0, vI (i : Int), vI x] (k_W X S) = some (.inl (some (vI (z_val (S (50 + 9 * i)) x 9))), k_W X S) := by
  have c0 := s_nH1 (i := (i : Int)) (by omega)
  have c1 := s_nW1 (n := x) (a := -999) (b := 999) (by decide) (by decide) ⟨h1, h2⟩
  have a1 := k_1r hi
  have s1 := s_leastAt (h := k_W X S) (k_po hi) (k_pc hi) pf h1 h2
  unfold m_X5_value
  rw [k_v0]
  apply q_body
  have b6 : INF = 1000000 := rfl
  simp only [b_X5_value, c0, c1, k_o0, k_a1, a1, s1, qS_nop, qS_seq, qS_set, qS_setJ, qS_if, qS_brk, qS_ret, qS_retV, qS_throw, qS_inc, qS_cl, qS_ast, qS_aop, qS_fst, qS_fop, qS_sw, qT_eC, qT_eCB, qT_eL, qT_eLJ, qT_eLR, qT_eLS, qT_eSLen, qT_eSLd, qT_eLB, qT_e1, qT_e2, qT_bCmp, qT_bCmpJ, qT_bAnd, qT_bOr, qT_bNot, qT_eBI, qT_eIf, qT_eLd, qT_eLdR, qT_eLen, qT_eF, qT_eFR, qT_aN, qT_aS, qT_eCl, qT_eClR, qT_eClB, qT_some, qT_x, z_nx_N, z_nx_B, z_nx_R, z_nx_X, z_bk_N, z_bk_B, z_bk_R, z_bk_X, oAdd, oSub, oMul, oNeg, cLt, cLe, cGt, cGe, cEq, cNe, Option.some.injEq, Sum.inl.injEq, Sum.inr.injEq, Prod.mk.injEq, exists_eq_left, exists_eq_left', exists_eq_right, exists_and_left, reduceCtorEq, and_true, true_and, and_false, false_and, List.getElem?_cons_zero, List.getElem?_cons_succ, List.set_cons_zero, List.set_cons_succ, List.replicate, List.length_cons, List.length_nil, List.cons_append, List.nil_append, Nat.reduceAdd, Nat.reduceSub, decide_eq_true_eq, decide_eq_false_iff_not, Bool.true_eq_false, Bool.false_eq_true, true_implies, false_implies, implies_true, Nat.reduceLT, exists_const, z_vB_inj, and_assoc, z_in_iff, oI2L, oL2I, Int.toNat_natCast, z_toNat0, Bool.not_eq_true', Bool.not_eq_false', ne_eq, Bool.not_true, Bool.not_false, Nat.add_zero, Int.add_zero, z_sl_s]
  omega
theorem f_isSpare (hi : i < 4) (hj : j < 9) (pf : pOk (S (50 + 9 * i))) : m_X5_isSpare [vR 0, vI (i : Int), vI (j : Int)] (k_W X S) = some (.inl (some (vB (z_dec (pSpare (S (50 + 9 * i)) j)))), k_W X S) := by
  have c0 := s_nH1 (i := (i : Int)) (by omega)
  have c1 := s_nI1 (i := (j : Int)) (c := 9) (by decide) (by omega)
  have a1 := k_1r hi
  have s1 := s_hasSpare (h := k_W X S) (k_po hi) (k_pc hi) pf (i := (j : Int)) (by omega) (by omega)
  rw [Int.toNat_natCast] at s1
  unfold m_X5_isSpare
  rw [k_v0]
  apply q_body
  have b6 : INF = 1000000 := rfl
  simp only [b_X5_isSpare, c0, c1, k_o0, k_a1, a1, s1, qS_nop, qS_seq, qS_set, qS_setJ, qS_if, qS_brk, qS_ret, qS_retV, qS_throw, qS_inc, qS_cl, qS_ast, qS_aop, qS_fst, qS_fop, qS_sw, qT_eC, qT_eCB, qT_eL, qT_eLJ, qT_eLR, qT_eLS, qT_eSLen, qT_eSLd, qT_eLB, qT_e1, qT_e2, qT_bCmp, qT_bCmpJ, qT_bAnd, qT_bOr, qT_bNot, qT_eBI, qT_eIf, qT_eLd, qT_eLdR, qT_eLen, qT_eF, qT_eFR, qT_aN, qT_aS, qT_eCl, qT_eClR, qT_eClB, qT_some, qT_x, z_nx_N, z_nx_B, z_nx_R, z_nx_X, z_bk_N, z_bk_B, z_bk_R, z_bk_X, oAdd, oSub, oMul, oNeg, cLt, cLe, cGt, cGe, cEq, cNe, Option.some.injEq, Sum.inl.injEq, Sum.inr.injEq, Prod.mk.injEq, exists_eq_left, exists_eq_left', exists_eq_right, exists_and_left, reduceCtorEq, and_true, true_and, and_false, false_and, List.getElem?_cons_zero, List.getElem?_cons_succ, List.set_cons_zero, List.set_cons_succ, List.replicate, List.length_cons, List.length_nil, List.cons_append, List.nil_append, Nat.reduceAdd, Nat.reduceSub, decide_eq_true_eq, decide_eq_false_iff_not, Bool.true_eq_false, Bool.false_eq_true, true_implies, false_implies, implies_true, Nat.reduceLT, exists_const, z_vB_inj, and_assoc, z_in_iff, oI2L, oL2I, Int.toNat_natCast, z_toNat0, Bool.not_eq_true', Bool.not_eq_false', ne_eq, Bool.not_true, Bool.not_false, Nat.add_zero, Int.add_zero, z_sl_s]
  omega
theorem f_areSame (hi : i < 4) (hj : j < 4) (pf : pOk (S (50 + 9 * i))) (pg : pOk (S (50 + 9 * j))) : m_X5_areSame [vR 0, vI (i : Int), vI (j : Int)] (k_W X S) = some (.inl (some (vB (z_dec (pSame (S (50 + 9 * i)) (S (50 + 9 * j)) 9)))), k_W X S) := by
  have c0 := s_nH1 (i := (i : Int)) (by omega)
  have c1 := s_nH1 (i := (j : Int)) (by omega)
  have a1 := k_1r hi
  have b1 := k_1r hj
  have s1 := s_hasCornersOf (h := k_W X S) (k_po hi) (k_pc hi) pf (k_po hj) (k_pc hj) pg
  unfold m_X5_areSame
  rw [k_v0]
  apply q_body
  have b6 : INF = 1000000 := rfl
  simp only [b_X5_areSame, c0, c1, k_o0, k_a1, a1, b1, s1, qS_nop, qS_seq, qS_set, qS_setJ, qS_if, qS_brk, qS_ret, qS_retV, qS_throw, qS_inc, qS_cl, qS_ast, qS_aop, qS_fst, qS_fop, qS_sw, qT_eC, qT_eCB, qT_eL, qT_eLJ, qT_eLR, qT_eLS, qT_eSLen, qT_eSLd, qT_eLB, qT_e1, qT_e2, qT_bCmp, qT_bCmpJ, qT_bAnd, qT_bOr, qT_bNot, qT_eBI, qT_eIf, qT_eLd, qT_eLdR, qT_eLen, qT_eF, qT_eFR, qT_aN, qT_aS, qT_eCl, qT_eClR, qT_eClB, qT_some, qT_x, z_nx_N, z_nx_B, z_nx_R, z_nx_X, z_bk_N, z_bk_B, z_bk_R, z_bk_X, oAdd, oSub, oMul, oNeg, cLt, cLe, cGt, cGe, cEq, cNe, Option.some.injEq, Sum.inl.injEq, Sum.inr.injEq, Prod.mk.injEq, exists_eq_left, exists_eq_left', exists_eq_right, exists_and_left, reduceCtorEq, and_true, true_and, and_false, false_and, List.getElem?_cons_zero, List.getElem?_cons_succ, List.set_cons_zero, List.set_cons_succ, List.replicate, List.length_cons, List.length_nil, List.cons_append, List.nil_append, Nat.reduceAdd, Nat.reduceSub, decide_eq_true_eq, decide_eq_false_iff_not, Bool.true_eq_false, Bool.false_eq_true, true_implies, false_implies, implies_true, Nat.reduceLT, exists_const, z_vB_inj, and_assoc, z_in_iff, oI2L, oL2I, Int.toNat_natCast, z_toNat0, Bool.not_eq_true', Bool.not_eq_false', ne_eq, Bool.not_true, Bool.not_false, Nat.add_zero, Int.add_zero, z_sl_s]
  omega
/-- how many roots -/
noncomputable def pRts (f : Nat → Int) : Int := if 0 < pCors f 9 - 1 then pCors f 9 - 1 else 0
theorem f_roots (hi : i < 4) (pf : pOk (S (50 + 9 * i))) : m_X5_roots [vR 0, vI (i : Int)] (k_W X S) = some (.inl (some (vI (pRts (S (50 + 9 * i))))), k_W X S) := by
  have c0 := s_nH1 (i := (i : Int)) (by omega)
  have a1 := k_1r hi
  have s1 := s_countGaps (h := k_W X S) (k_po hi) (k_pc hi) pf
  unfold m_X5_roots
  rw [k_v0]
  apply q_body
  have b6 : INF = 1000000 := rfl
  simp only [b_X5_roots, c0, k_o0, k_a1, a1, s1, qS_nop, qS_seq, qS_set, qS_setJ, qS_if, qS_brk, qS_ret, qS_retV, qS_throw, qS_inc, qS_cl, qS_ast, qS_aop, qS_fst, qS_fop, qS_sw, qT_eC, qT_eCB, qT_eL, qT_eLJ, qT_eLR, qT_eLS, qT_eSLen, qT_eSLd, qT_eLB, qT_e1, qT_e2, qT_bCmp, qT_bCmpJ, qT_bAnd, qT_bOr, qT_bNot, qT_eBI, qT_eIf, qT_eLd, qT_eLdR, qT_eLen, qT_eF, qT_eFR, qT_aN, qT_aS, qT_eCl, qT_eClR, qT_eClB, qT_some, qT_x, z_nx_N, z_nx_B, z_nx_R, z_nx_X, z_bk_N, z_bk_B, z_bk_R, z_bk_X, oAdd, oSub, oMul, oNeg, cLt, cLe, cGt, cGe, cEq, cNe, Option.some.injEq, Sum.inl.injEq, Sum.inr.injEq, Prod.mk.injEq, exists_eq_left, exists_eq_left', exists_eq_right, exists_and_left, reduceCtorEq, and_true, true_and, and_false, false_and, List.getElem?_cons_zero, List.getElem?_cons_succ, List.set_cons_zero, List.set_cons_succ, List.replicate, List.length_cons, List.length_nil, List.cons_append, List.nil_append, Nat.reduceAdd, Nat.reduceSub, decide_eq_true_eq, decide_eq_false_iff_not, Bool.true_eq_false, Bool.false_eq_true, true_implies, false_implies, implies_true, Nat.reduceLT, exists_const, z_vB_inj, and_assoc, z_in_iff, oI2L, oL2I, Int.toNat_natCast, z_toNat0, Bool.not_eq_true', Bool.not_eq_false', ne_eq, Bool.not_true, Bool.not_false, Nat.add_zero, Int.add_zero, z_sl_s]
  unfold pRts
  omega
theorem f_root0 (hi : i < 4) (pf : pOk (S (50 + 9 * i))) {n w : Int} (hn : kR n) (h : ¬ (0 ≤ n ∧ n < pRts (S (50 + 9 * i)))) : m_X5_root [vR 0, vI (i : Int), vI n, vI w] (k_W X S) = some (.inr kIO, k_W X S) := by
  have c0 := s_nH1 (i := (i : Int)) (by omega)
  have a1 := k_1r hi
  have s1 := s_countGaps (h := k_W X S) (k_po hi) (k_pc hi) pf
  have cb := pCors_b (S (50 + 9 * i)) 9
  have pr : -5 < pRts (S (50 + 9 * i)) ∧ pRts (S (50 + 9 * i)) < 20 := by unfold pRts; split <;> omega
  rw [show (if 0 < pCors (S (50 + 9 * i)) 9 - 1 then pCors (S (50 + 9 * i)) 9 - 1 else 0) = pRts (S (50 + 9 * i)) from rfl] at s1
  have c1 := s_nI0 (i := n) (c := pRts (S (50 + 9 * i))) hn (by omega) h
  unfold m_X5_root
  rw [k_v0]
  apply q_body
  have b6 : INF = 1000000 := rfl
  simp only [b_X5_root, c0, k_o0, k_a1, a1, s1, c1, qS_nop, qS_seq, qS_set, qS_setJ, qS_if, qS_brk, qS_ret, qS_retV, qS_throw, qS_inc, qS_cl, qS_ast, qS_aop, qS_fst, qS_fop, qS_sw, qT_eC, qT_eCB, qT_eL, qT_eLJ, qT_eLR, qT_eLS, qT_eSLen, qT_eSLd, qT_eLB, qT_e1, qT_e2, qT_bCmp, qT_bCmpJ, qT_bAnd, qT_bOr, qT_bNot, qT_eBI, qT_eIf, qT_eLd, qT_eLdR, qT_eLen, qT_eF, qT_eFR, qT_aN, qT_aS, qT_eCl, qT_eClR, qT_eClB, qT_some, qT_x, z_nx_N, z_nx_B, z_nx_R, z_nx_X, z_bk_N, z_bk_B, z_bk_R, z_bk_X, oAdd, oSub, oMul, oNeg, cLt, cLe, cGt, cGe, cEq, cNe, Option.some.injEq, Sum.inl.injEq, Sum.inr.injEq, Prod.mk.injEq, exists_eq_left, exists_eq_left', exists_eq_right, exists_and_left, reduceCtorEq, and_true, true_and, and_false, false_and, List.getElem?_cons_zero, List.getElem?_cons_succ, List.set_cons_zero, List.set_cons_succ, List.replicate, List.length_cons, List.length_nil, List.cons_append, List.nil_append, Nat.reduceAdd, Nat.reduceSub, decide_eq_true_eq, decide_eq_false_iff_not, Bool.true_eq_false, Bool.false_eq_true, true_implies, false_implies, implies_true, Nat.reduceLT, exists_const, z_vB_inj, and_assoc, z_in_iff, oI2L, oL2I, Int.toNat_natCast, z_toNat0, Bool.not_eq_true', Bool.not_eq_false', ne_eq, Bool.not_true, Bool.not_false, Nat.add_zero, Int.add_zero, z_sl_s]
  try omega
/-- the fraction is set -/
def k45 (S : Nat → Nat → Int) (x y : Int) : Nat → Nat → Int := k_u S 45 (z_up (z_up (S 45) 0 x) 1 y)
theorem k45_n {x y : Int} {a : Nat} (h : a ≠ 45) : k45 S x y a = S a := k_u_n h
theorem k45_fr {x y : Int} : cFr (fun _ => False) S (k45 S x y) := cFr.u (Or.inl (by unfold cFree; omega)) _
theorem f_root (hi : i < 4) (pf : pOk (S (50 + 9 * i))) {r lo up : Nat} (hr : (r : Int) + 1 < pCors (S (50 + 9 * i)) 9) (hu : pU (S (50 + 9 * i)) r = (up : Int)) (hl : pU (S (50 + 9 * i)) (r + 1) = (lo : Int)) (hlu : lo < up) (hup : up < 9) (cl : pCor (S (50 + 9 * i)) lo) (cu : pCor (S (50 + 9 * i)) up) :
    m_X5_root [vR 0, vI (i : Int), vI (r : Int), vI 0] (k_W X S) = some (.inl (some (vI (rAb (S (50 + 9 * i)) lo up))), k_W X (k45 S (rAb (S (50 + 9 * i)) lo up) (rBl (S (50 + 9 * i)) lo up))) ∧
    m_X5_root [vR 0, vI (i : Int), vI (r : Int), vI 1] (k_W X S) = some (.inl (some (vI (rBl (S (50 + 9 * i)) lo up))), k_W X (k45 S (rAb (S (50 + 9 * i)) lo up) (rBl (S (50 + 9 * i)) lo up))) ∧
    m_X5_root [vR 0, vI (i : Int), vI (r : Int), vI 2] (k_W X S) = some (.inl (some (vI ((up : Int) - lo))), k_W X S) := by
  obtain ⟨f, hf⟩ : ∃ f, f = S (50 + 9 * i) := ⟨_, rfl⟩
  have po := k_po (X := X) (S := S) hi
  have pc := k_pc (X := X) (S := S) hi
  rw [← hf] at pc pf hr hu hl cl cu ⊢
  have c0 := s_nH1 (i := (i : Int)) (by omega)
  have a1 := k_1r hi
  have s1 := s_countGaps po pc pf
  have cb := pCors_b f 9
  obtain ⟨gp, hgp⟩ : ∃ gp, gp = (if 0 < pCors f 9 - 1 then pCors f 9 - 1 else 0) := ⟨_, rfl⟩
  rw [← hgp] at s1
  have hg8 : 0 ≤ gp ∧ gp ≤ 8 ∧ (r : Int) < gp := by rw [hgp]; split <;> omega
  have c1 := s_nI1 (i := (r : Int)) (c := gp) (by omega) (by omega)
  have c20 := s_nW1 (n := 0) (a := 0) (b := 2) (by decide) (by decide) (by decide)
  have c21 := s_nW1 (n := 1) (a := 0) (b := 2) (by decide) (by decide) (by decide)
  have c22 := s_nW1 (n := 2) (a := 0) (b := 2) (by decide) (by decide) (by decide)
  have cbl : ∀ k : Int, -2 < k → k < 10 → m_X4_cornerBelow [vR (49 + 9 * i), vI k] (k_W X S) = some (.inl (some (vI (pCb f k.toNat))), k_W X S) := fun k h1 h2 => s_cornerBelow po pc pf h1 h2
  have c9 : m_X4_cornerBelow [vR (49 + 9 * i), vI 9] (k_W X S) = some (.inl (some (vI (pU f 0))), k_W X S) := cbl 9 (by decide) (by decide)
  have body : ∀ k : Nat, k < r → m_X4_cornerBelow [vR (49 + 9 * i), vI (pU f k)] (k_W X S) = some (.inl (some (vI (pU f (k + 1)))), k_W X S) := fun k hk => by
    have w := pU_c (f := f) k (by omega)
    rw [cbl _ (by omega) (by omega)]
    rfl
  have cy : m_X4_cornerBelow [vR (49 + 9 * i), vI (up : Int)] (k_W X S) = some (.inl (some (vI (lo : Int))), k_W X S) := by
    rw [cbl _ (by omega) (by omega), ← hl, Int.toNat_natCast]
    have e : pU f (r + 1) = pCb f (pU f r).toNat := rfl
    rw [e, hu, Int.toNat_natCast]
  have fx := pf lo (by omega)
  have fy := pf up hup
  have tx := cl.1
  have ty := cu.1
  have h45 : (k_W X S)[45]? = some (.inl (1, [vI (S 45 0), vI (S 45 1)])) := k_get (by decide)
  have fb := s_frBecome (o := 45) (h := k_W X S) (A := f lo - f up) (B := (up : Int) - lo) h45 (by omega) (by omega)
  rw [k_sf] at fb
  change m_X1_become _ _ = some (.inl none, k_W X (k_u S 45 (z_up (z_up (S 45) 0 (rAb f lo up)) 1 (rBl f lo up)))) at fb
  have bl := rBl_b pf hlu hup tx ty
  have x0 : ¬ ((lo : Int) < 0) := by omega
  have n02 : ¬ ((0 : Int) = 2) := by decide
  have n12 : ¬ ((1 : Int) = 2) := by decide
  have n10 : ¬ ((1 : Int) = 0) := by decide
  have u1 : ∀ f : Nat → Int, ∀ p q : Int, z_up (z_up f 0 p) 1 q 0 = p := fun _ _ _ => rfl
  have u2 : ∀ f : Nat → Int, ∀ p q : Int, z_up (z_up f 0 p) 1 q 1 = q := fun _ _ _ => rfl
  have Po := q_obj po
  have Pc := q_arr pc (by decide : 9 < 2147483648)
  refine ⟨?_, ?_, ?_⟩
  · unfold m_X5_root k45
    rw [k_v0]
    apply q_body
    have b6 : INF = 1000000 := rfl
    simp only [b_X5_root, c0, k_o0, k_a1, a1, s1, c1, c20, c9, qS_nop, qS_seq, qS_set, qS_setJ, qS_if, qS_brk, qS_ret, qS_retV, qS_throw, qS_inc, qS_cl, qS_ast, qS_aop, qS_fst, qS_fop, qS_sw, qT_eC, qT_eCB, qT_eL, qT_eLJ, qT_eLR, qT_eLS, qT_eSLen, qT_eSLd, qT_eLB, qT_e1, qT_e2, qT_bCmp, qT_bCmpJ, qT_bAnd, qT_bOr, qT_bNot, qT_eBI, qT_eIf, qT_eLd, qT_eLdR, qT_eLen, qT_eF, qT_eFR, qT_aN, qT_aS, qT_eCl, qT_eClR, qT_eClB, qT_some, qT_x, z_nx_N, z_nx_B, z_nx_R, z_nx_X, z_bk_N, z_bk_B, z_bk_R, z_bk_X, oAdd, oSub, oMul, oNeg, cLt, cLe, cGt, cGe, cEq, cNe, Option.some.injEq, Sum.inl.injEq, Sum.inr.injEq, Prod.mk.injEq, exists_eq_left, exists_eq_left', exists_eq_right, exists_and_left, reduceCtorEq, and_true, true_and, and_false, false_and, List.getElem?_cons_zero, List.getElem?_cons_succ, List.set_cons_zero, List.set_cons_succ, List.replicate, List.length_cons, List.length_nil, List.cons_append, List.nil_append, Nat.reduceAdd, Nat.reduceSub, decide_eq_true_eq, decide_eq_false_iff_not, Bool.true_eq_false, Bool.false_eq_true, true_implies, false_implies, implies_true, Nat.reduceLT, exists_const, z_vB_inj, and_assoc, z_in_iff, oI2L, oL2I, Int.toNat_natCast, z_toNat0, Bool.not_eq_true', Bool.not_eq_false', ne_eq, Bool.not_true, Bool.not_false, Nat.add_zero, Int.add_zero, z_sl_s]
    repeat (refine And.intro (by omega) ?_)
    refine qS_for (fun k => [vR 0, vI (i : Int), vI (r : Int), vI 0, vR (49 + 9 * i), vI (pU f k), vI (k : Int)]) (fun _ => k_W X S) (fun _ => True) r rfl rfl trivial (by omega) ?_ ?_
    · intro k hk _
      have e := body k hk
      simp only [e, qS_nop, qS_seq, qS_set, qS_setJ, qS_if, qS_brk, qS_ret, qS_retV, qS_throw, qS_inc, qS_cl, qS_ast, qS_aop, qS_fst, qS_fop, qS_sw, qT_eC, qT_eCB, qT_eL, qT_eLJ, qT_eLR, qT_eLS, qT_eSLen, qT_eSLd, qT_eLB, qT_e1, qT_e2, qT_bCmp, qT_bCmpJ, qT_bAnd, qT_bOr, qT_bNot, qT_eBI, qT_eIf, qT_eLd, qT_eLdR, qT_eLen, qT_eF, qT_eFR, qT_aN, qT_aS, qT_eCl, qT_eClR, qT_eClB, qT_some, qT_x, z_nx_N, z_nx_B, z_nx_R, z_nx_X, z_bk_N, z_bk_B, z_bk_R, z_bk_X, oAdd, oSub, oMul, oNeg, cLt, cLe, cGt, cGe, cEq, cNe, Option.some.injEq, Sum.inl.injEq, Sum.inr.injEq, Prod.mk.injEq, exists_eq_left, exists_eq_left', exists_eq_right, exists_and_left, reduceCtorEq, and_true, true_and, and_false, false_and, List.getElem?_cons_zero, List.getElem?_cons_succ, List.set_cons_zero, List.set_cons_succ, List.replicate, List.length_cons, List.length_nil, List.cons_append, List.nil_append, Nat.reduceAdd, Nat.reduceSub, decide_eq_true_eq, decide_eq_false_iff_not, Bool.true_eq_false, Bool.false_eq_true, true_implies, false_implies, implies_true, Nat.reduceLT, exists_const, z_vB_inj, and_assoc, z_in_iff, oI2L, oL2I, Int.toNat_natCast, z_toNat0, Bool.not_eq_true', Bool.not_eq_false', ne_eq, Bool.not_true, Bool.not_false, Nat.add_zero, Int.add_zero, z_sl_s]
      (repeat' (first | apply And.intro | intro _)) <;> first | omega | rfl | grind
    · intro _
      rw [hu]
      simp only [cy, x0, k_o0, Po, Pc, fb, k_o45, k_u_s, u1, u2, n02, n12, n10, qS_nop, qS_seq, qS_set, qS_setJ, qS_if, qS_brk, qS_ret, qS_retV, qS_throw, qS_inc, qS_cl, qS_ast, qS_aop, qS_fst, qS_fop, qS_sw, qT_eC, qT_eCB, qT_eL, qT_eLJ, qT_eLR, qT_eLS, qT_eSLen, qT_eSLd, qT_eLB, qT_e1, qT_e2, qT_bCmp, qT_bCmpJ, qT_bAnd, qT_bOr, qT_bNot, qT_eBI, qT_eIf, qT_eLd, qT_eLdR, qT_eLen, qT_eF, qT_eFR, qT_aN, qT_aS, qT_eCl, qT_eClR, qT_eClB, qT_some, qT_x, z_nx_N, z_nx_B, z_nx_R, z_nx_X, z_bk_N, z_bk_B, z_bk_R, z_bk_X, oAdd, oSub, oMul, oNeg, cLt, cLe, cGt, cGe, cEq, cNe, Option.some.injEq, Sum.inl.injEq, Sum.inr.injEq, Prod.mk.injEq, exists_eq_left, exists_eq_left', exists_eq_right, exists_and_left, reduceCtorEq, and_true, true_and, and_false, false_and, List.getElem?_cons_zero, List.getElem?_cons_succ, List.set_cons_zero, List.set_cons_succ, List.replicate, List.length_cons, List.length_nil, List.cons_append, List.nil_append, Nat.reduceAdd, Nat.reduceSub, decide_eq_true_eq, decide_eq_false_iff_not, Bool.true_eq_false, Bool.false_eq_true, true_implies, false_implies, implies_true, Nat.reduceLT, exists_const, z_vB_inj, and_assoc, z_in_iff, oI2L, oL2I, Int.toNat_natCast, z_toNat0, Bool.not_eq_true', Bool.not_eq_false', ne_eq, Bool.not_true, Bool.not_false, Nat.add_zero, Int.add_zero, z_sl_s]
      (repeat' (first | apply And.intro | intro _)) <;> first | omega | rfl | grind
  · unfold m_X5_root k45
    rw [k_v0]
    apply q_body
    have b6 : INF = 1000000 := rfl
    simp only [b_X5_root, c0, k_o0, k_a1, a1, s1, c1, c21, c9, qS_nop, qS_seq, qS_set, qS_setJ, qS_if, qS_brk, qS_ret, qS_retV, qS_throw, qS_inc, qS_cl, qS_ast, qS_aop, qS_fst, qS_fop, qS_sw, qT_eC, qT_eCB, qT_eL, qT_eLJ, qT_eLR, qT_eLS, qT_eSLen, qT_eSLd, qT_eLB, qT_e1, qT_e2, qT_bCmp, qT_bCmpJ, qT_bAnd, qT_bOr, qT_bNot, qT_eBI, qT_eIf, qT_eLd, qT_eLdR, qT_eLen, qT_eF, qT_eFR, qT_aN, qT_aS, qT_eCl, qT_eClR, qT_eClB, qT_some, qT_x, z_nx_N, z_nx_B, z_nx_R, z_nx_X, z_bk_N, z_bk_B, z_bk_R, z_bk_X, oAdd, oSub, oMul, oNeg, cLt, cLe, cGt, cGe, cEq, cNe, Option.some.injEq, Sum.inl.injEq, Sum.inr.injEq, Prod.mk.injEq, exists_eq_left, exists_eq_left', exists_eq_right, exists_and_left, reduceCtorEq, and_true, true_and, and_false, false_and, List.getElem?_cons_zero, List.getElem?_cons_succ, List.set_cons_zero, List.set_cons_succ, List.replicate, List.length_cons, List.length_nil, List.cons_append, List.nil_append, Nat.reduceAdd, Nat.reduceSub, decide_eq_true_eq, decide_eq_false_iff_not, Bool.true_eq_false, Bool.false_eq_true, true_implies, false_implies, implies_true, Nat.reduceLT, exists_const, z_vB_inj, and_assoc, z_in_iff, oI2L, oL2I, Int.toNat_natCast, z_toNat0, Bool.not_eq_true', Bool.not_eq_false', ne_eq, Bool.not_true, Bool.not_false, Nat.add_zero, Int.add_zero, z_sl_s]
    repeat (refine And.intro (by omega) ?_)
    refine qS_for (fun k => [vR 0, vI (i : Int), vI (r : Int), vI 1, vR (49 + 9 * i), vI (pU f k), vI (k : Int)]) (fun _ => k_W X S) (fun _ => True) r rfl rfl trivial (by omega) ?_ ?_
    · intro k hk _
      have e := body k hk
      simp only [e, qS_nop, qS_seq, qS_set, qS_setJ, qS_if, qS_brk, qS_ret, qS_retV, qS_throw, qS_inc, qS_cl, qS_ast, qS_aop, qS_fst, qS_fop, qS_sw, qT_eC, qT_eCB, qT_eL, qT_eLJ, qT_eLR, qT_eLS, qT_eSLen, qT_eSLd, qT_eLB, qT_e1, qT_e2, qT_bCmp, qT_bCmpJ, qT_bAnd, qT_bOr, qT_bNot, qT_eBI, qT_eIf, qT_eLd, qT_eLdR, qT_eLen, qT_eF, qT_eFR, qT_aN, qT_aS, qT_eCl, qT_eClR, qT_eClB, qT_some, qT_x, z_nx_N, z_nx_B, z_nx_R, z_nx_X, z_bk_N, z_bk_B, z_bk_R, z_bk_X, oAdd, oSub, oMul, oNeg, cLt, cLe, cGt, cGe, cEq, cNe, Option.some.injEq, Sum.inl.injEq, Sum.inr.injEq, Prod.mk.injEq, exists_eq_left, exists_eq_left', exists_eq_right, exists_and_left, reduceCtorEq, and_true, true_and, and_false, false_and, List.getElem?_cons_zero, List.getElem?_cons_succ, List.set_cons_zero, List.set_cons_succ, List.replicate, List.length_cons, List.length_nil, List.cons_append, List.nil_append, Nat.reduceAdd, Nat.reduceSub, decide_eq_true_eq, decide_eq_false_iff_not, Bool.true_eq_false, Bool.false_eq_true, true_implies, false_implies, implies_true, Nat.reduceLT, exists_const, z_vB_inj, and_assoc, z_in_iff, oI2L, oL2I, Int.toNat_natCast, z_toNat0, Bool.not_eq_true', Bool.not_eq_false', ne_eq, Bool.not_true, Bool.not_false, Nat.add_zero, Int.add_zero, z_sl_s]
      (repeat' (first | apply And.intro | intro _)) <;> first | omega | rfl | grind
    · intro _
      rw [hu]
      simp only [cy, x0, k_o0, Po, Pc, fb, k_o45, k_u_s, u1, u2, n02, n12, n10, qS_nop, qS_seq, qS_set, qS_setJ, qS_if, qS_brk, qS_ret, qS_retV, qS_throw, qS_inc, qS_cl, qS_ast, qS_aop, qS_fst, qS_fop, qS_sw, qT_eC, qT_eCB, qT_eL, qT_eLJ, qT_eLR, qT_eLS, qT_eSLen, qT_eSLd, qT_eLB, qT_e1, qT_e2, qT_bCmp, qT_bCmpJ, qT_bAnd, qT_bOr, qT_bNot, qT_eBI, qT_eIf, qT_eLd, qT_eLdR, qT_eLen, qT_eF, qT_eFR, qT_aN, qT_aS, qT_eCl, qT_eClR, qT_eClB, qT_some, qT_x, z_nx_N, z_nx_B, z_nx_R, z_nx_X, z_bk_N, z_bk_B, z_bk_R, z_bk_X, oAdd, oSub, oMul, oNeg, cLt, cLe, cGt, cGe, cEq, cNe, Option.some.injEq, Sum.inl.injEq, Sum.inr.injEq, Prod.mk.injEq, exists_eq_left, exists_eq_left', exists_eq_right, exists_and_left, reduceCtorEq, and_true, true_and, and_false, false_and, List.getElem?_cons_zero, List.getElem?_cons_succ, List.set_cons_zero, List.set_cons_succ, List.replicate, List.length_cons, List.length_nil, List.cons_append, List.nil_append, Nat.reduceAdd, Nat.reduceSub, decide_eq_true_eq, decide_eq_false_iff_not, Bool.true_eq_false, Bool.false_eq_true, true_implies, false_implies, implies_true, Nat.reduceLT, exists_const, z_vB_inj, and_assoc, z_in_iff, oI2L, oL2I, Int.toNat_natCast, z_toNat0, Bool.not_eq_true', Bool.not_eq_false', ne_eq, Bool.not_true, Bool.not_false, Nat.add_zero, Int.add_zero, z_sl_s]
      (repeat' (first | apply And.intro | intro _)) <;> first | omega | rfl | grind
  · unfold m_X5_root
    rw [k_v0]
    apply q_body
    have b6 : INF = 1000000 := rfl
    simp only [b_X5_root, c0, k_o0, k_a1, a1, s1, c1, c22, c9, qS_nop, qS_seq, qS_set, qS_setJ, qS_if, qS_brk, qS_ret, qS_retV, qS_throw, qS_inc, qS_cl, qS_ast, qS_aop, qS_fst, qS_fop, qS_sw, qT_eC, qT_eCB, qT_eL, qT_eLJ, qT_eLR, qT_eLS, qT_eSLen, qT_eSLd, qT_eLB, qT_e1, qT_e2, qT_bCmp, qT_bCmpJ, qT_bAnd, qT_bOr, qT_bNot, qT_eBI, qT_eIf, qT_eLd, qT_eLdR, qT_eLen, qT_eF, qT_eFR, qT_aN, qT_aS, qT_eCl, qT_eClR, qT_eClB, qT_some, qT_x, z_nx_N, z_nx_B, z_nx_R, z_nx_X, z_bk_N, z_bk_B, z_bk_R, z_bk_X, oAdd, oSub, oMul, oNeg, cLt, cLe, cGt, cGe, cEq, cNe, Option.some.injEq, Sum.inl.injEq, Sum.inr.injEq, Prod.mk.injEq, exists_eq_left, exists_eq_left', exists_eq_right, exists_and_left, reduceCtorEq, and_true, true_and, and_false, false_and, List.getElem?_cons_zero, List.getElem?_cons_succ, List.set_cons_zero, List.set_cons_succ, List.replicate, List.length_cons, List.length_nil, List.cons_append, List.nil_append, Nat.reduceAdd, Nat.reduceSub, decide_eq_true_eq, decide_eq_false_iff_not, Bool.true_eq_false, Bool.false_eq_true, true_implies, false_implies, implies_true, Nat.reduceLT, exists_const, z_vB_inj, and_assoc, z_in_iff, oI2L, oL2I, Int.toNat_natCast, z_toNat0, Bool.not_eq_true', Bool.not_eq_false', ne_eq, Bool.not_true, Bool.not_false, Nat.add_zero, Int.add_zero, z_sl_s]
    repeat (refine And.intro (by omega) ?_)
    refine qS_for (fun k => [vR 0, vI (i : Int), vI (r : Int), vI 2, vR (49 + 9 * i), vI (pU f k), vI (k : Int)]) (fun _ => k_W X S) (fun _ => True) r rfl rfl trivial (by omega) ?_ ?_
    · intro k hk _
      have e := body k hk
      simp only [e, qS_nop, qS_seq, qS_set, qS_setJ, qS_if, qS_brk, qS_ret, qS_retV, qS_throw, qS_inc, qS_cl, qS_ast, qS_aop, qS_fst, qS_fop, qS_sw, qT_eC, qT_eCB, qT_eL, qT_eLJ, qT_eLR, qT_eLS, qT_eSLen, qT_eSLd, qT_eLB, qT_e1, qT_e2, qT_bCmp, qT_bCmpJ, qT_bAnd, qT_bOr, qT_bNot, qT_eBI, qT_eIf, qT_eLd, qT_eLdR, qT_eLen, qT_eF, qT_eFR, qT_aN, qT_aS, qT_eCl, qT_eClR, qT_eClB, qT_some, qT_x, z_nx_N, z_nx_B, z_nx_R, z_nx_X, z_bk_N, z_bk_B, z_bk_R, z_bk_X, oAdd, oSub, oMul, oNeg, cLt, cLe, cGt, cGe, cEq, cNe, Option.some.injEq, Sum.inl.injEq, Sum.inr.injEq, Prod.mk.injEq, exists_eq_left, exists_eq_left', exists_eq_right, exists_and_left, reduceCtorEq, and_true, true_and, and_false, false_and, List.getElem?_cons_zero, List.getElem?_cons_succ, List.set_cons_zero, List.set_cons_succ, List.replicate, List.length_cons, List.length_nil, List.cons_append, List.nil_append, Nat.reduceAdd, Nat.reduceSub, decide_eq_true_eq, decide_eq_false_iff_not, Bool.true_eq_false, Bool.false_eq_true, true_implies, false_implies, implies_true, Nat.reduceLT, exists_const, z_vB_inj, and_assoc, z_in_iff, oI2L, oL2I, Int.toNat_natCast, z_toNat0, Bool.not_eq_true', Bool.not_eq_false', ne_eq, Bool.not_true, Bool.not_false, Nat.add_zero, Int.add_zero, z_sl_s]
      (repeat' (first | apply And.intro | intro _)) <;> first | omega | rfl | grind
    · intro _
      rw [hu]
      simp only [cy, x0, k_o0, Po, Pc, fb, k_o45, k_u_s, u1, u2, n02, n12, n10, qS_nop, qS_seq, qS_set, qS_setJ, qS_if, qS_brk, qS_ret, qS_retV, qS_throw, qS_inc, qS_cl, qS_ast, qS_aop, qS_fst, qS_fop, qS_sw, qT_eC, qT_eCB, qT_eL, qT_eLJ, qT_eLR, qT_eLS, qT_eSLen, qT_eSLd, qT_eLB, qT_e1, qT_e2, qT_bCmp, qT_bCmpJ, qT_bAnd, qT_bOr, qT_bNot, qT_eBI, qT_eIf, qT_eLd, qT_eLdR, qT_eLen, qT_eF, qT_eFR, qT_aN, qT_aS, qT_eCl, qT_eClR, qT_eClB, qT_some, qT_x, z_nx_N, z_nx_B, z_nx_R, z_nx_X, z_bk_N, z_bk_B, z_bk_R, z_bk_X, oAdd, oSub, oMul, oNeg, cLt, cLe, cGt, cGe, cEq, cNe, Option.some.injEq, Sum.inl.injEq, Sum.inr.injEq, Prod.mk.injEq, exists_eq_left, exists_eq_left', exists_eq_right, exists_and_left, reduceCtorEq, and_true, true_and, and_false, false_and, List.getElem?_cons_zero, List.getElem?_cons_succ, List.set_cons_zero, List.set_cons_succ, List.replicate, List.length_cons, List.length_nil, List.cons_append, List.nil_append, Nat.reduceAdd, Nat.reduceSub, decide_eq_true_eq, decide_eq_false_iff_not, Bool.true_eq_false, Bool.false_eq_true, true_implies, false_implies, implies_true, Nat.reduceLT, exists_const, z_vB_inj, and_assoc, z_in_iff, oI2L, oL2I, Int.toNat_natCast, z_toNat0, Bool.not_eq_true', Bool.not_eq_false', ne_eq, Bool.not_true, Bool.not_false, Nat.add_zero, Int.add_zero, z_sl_s]
      (repeat' (first | apply And.intro | intro _)) <;> first | omega | rfl | grind
-- sum, product
def kLay (S : Nat → Nat → Int) (t : Nat) : Nat → Nat → Int := k_u S (50 + 9 * t) (p9 (S 29) (S (50 + 9 * t)))
theorem s_cp29 {t : Nat} (ht : t < 4) : m_X4_becomeCopy [vR (49 + 9 * t), vR 28] (k_W X S) = some (.inl none, k_W X (kLay S t)) := by
  rw [s_copyP (k_po (S := S) ht) (k_pc (S := S) ht) (o1 := 28) (c1 := 29) (k_get (by decide)) (k_get (by decide)), k_cs ht]
  rfl
theorem s_ct {t : Nat} (ht : t < 4) (h : pOk (S 29)) : m_X4_countTerms [vR (49 + 9 * t)] (k_W X (kLay S t)) = some (.inl (some (vI (z_cnt (fun k => z_dec (S 29 k ≠ INF)) 9))), k_W X (kLay S t)) := by
  have e : kLay S t (50 + 9 * t) = p9 (S 29) (S (50 + 9 * t)) := k_u_s _ _ _
  rw [s_countTerms (k_po (S := kLay S t) ht) (k_pc (S := kLay S t) ht) (by rw [e]; exact fun k hk => by rw [p9_l hk]; exact h k hk)]
  have c : z_cnt (fun k => z_dec (kLay S t (50 + 9 * t) k ≠ INF)) 9 = z_cnt (fun k => z_dec (S 29 k ≠ INF)) 9 := z_cnt_cg 9 (fun k hk => by rw [e, p9_l hk])
  rw [c]
/-- what is laid -/
def fLd (S S' : Nat → Nat → Int) (t : Nat) (f : Nat → Int) : Prop := (∀ k, k < 9 → S' (50 + 9 * t) k = f k) ∧ cFr (fun a => a = 50 + 9 * t) S S'
theorem kLay_fr {Y : Nat → Nat → Int} {t : Nat} {f : Nat → Int} (h1 : ∀ k, k < 9 → Y 29 k = f k) (h2 : ∀ a, a ≠ 29 → Y a = S a) : fLd S (kLay Y t) t f := by
  refine ⟨fun k hk => ?_, fun a ha hn => ?_⟩
  · unfold kLay
    rw [k_u_s, p9_l hk, h1 k hk]
  · unfold kLay
    rw [k_u_n hn, h2 a (fun e => ha (by subst e; unfold cFree; omega))]
theorem f_sum (hi : i < 4) (hj : j < 4) (hl : l < 4) (pi : pOk (S (50 + 9 * i))) (pj : pOk (S (50 + 9 * j))) : ∃ S', m_X5_sum [vR 0, vI (i : Int), vI (j : Int), vI (l : Int)] (k_W X S) = some (.inl (some (vI (z_cnt (fun k => z_dec (pMin (S (50 + 9 * i)) (S (50 + 9 * j)) k ≠ INF)) 9))), k_W X S') ∧ fLd S S' l (pMin (S (50 + 9 * i)) (S (50 + 9 * j))) := by
  have c0 := s_nH1 (i := (i : Int)) (by omega)
  have c1 := s_nH1 (i := (j : Int)) (by omega)
  have c2 := s_nH1 (i := (l : Int)) (by omega)
  have a1 := k_1r hi
  have a2 := k_1r hj
  have a3 := k_1r hl
  have x1 := s_becomeLesser (o := 28) (c := 29) (h := k_W X S) (k_get (by decide)) (k_get (by decide)) (k_po hi) (k_pc hi) pi (k_po hj) (k_pc hj) pj (by omega) (by omega)
  have x1' : m_X4_becomeLesser [vR 28, vR (49 + 9 * i), vR (49 + 9 * j)] (k_W X S) = some (.inl none, k_W X (k_u S 29 (p9 (pMin (S (50 + 9 * i)) (S (50 + 9 * j))) (S 29)))) := by
    rw [x1, k_s29]
    rfl
  obtain ⟨Y, hY⟩ : ∃ Y, Y = k_u S 29 (p9 (pMin (S (50 + 9 * i)) (S (50 + 9 * j))) (S 29)) := ⟨_, rfl⟩
  rw [← hY] at x1'
  have Y29 : ∀ k, k < 9 → Y 29 k = pMin (S (50 + 9 * i)) (S (50 + 9 * j)) k := fun k hk => by rw [hY, k_u_s, p9_l hk]
  have Yo : ∀ a, a ≠ 29 → Y a = S a := fun a ha => by rw [hY, k_u_n ha]
  have Yok : pOk (Y 29) := fun k hk => by
    rw [Y29 k hk]
    exact pMin_ok pi pj k hk
  have x2 := s_cp29 (X := X) (S := Y) hl
  have x3 := s_ct (X := X) (S := Y) hl Yok
  have cc : z_cnt (fun k => z_dec (Y 29 k ≠ INF)) 9 = z_cnt (fun k => z_dec (pMin (S (50 + 9 * i)) (S (50 + 9 * j)) k ≠ INF)) 9 := z_cnt_cg 9 (fun k hk => by rw [Y29 k hk])
  rw [cc] at x3
  refine ⟨kLay Y l, ?_, kLay_fr Y29 Yo⟩
  unfold m_X5_sum
  rw [k_v0]
  apply q_body
  have b6 : INF = 1000000 := rfl
  simp only [b_X5_sum, c0, c1, c2, k_o0, k_a1, a1, a2, a3, x1', x2, x3, qS_nop, qS_seq, qS_set, qS_setJ, qS_if, qS_brk, qS_ret, qS_retV, qS_throw, qS_inc, qS_cl, qS_ast, qS_aop, qS_fst, qS_fop, qS_sw, qT_eC, qT_eCB, qT_eL, qT_eLJ, qT_eLR, qT_eLS, qT_eSLen, qT_eSLd, qT_eLB, qT_e1, qT_e2, qT_bCmp, qT_bCmpJ, qT_bAnd, qT_bOr, qT_bNot, qT_eBI, qT_eIf, qT_eLd, qT_eLdR, qT_eLen, qT_eF, qT_eFR, qT_aN, qT_aS, qT_eCl, qT_eClR, qT_eClB, qT_some, qT_x, z_nx_N, z_nx_B, z_nx_R, z_nx_X, z_bk_N, z_bk_B, z_bk_R, z_bk_X, oAdd, oSub, oMul, oNeg, cLt, cLe, cGt, cGe, cEq, cNe, Option.some.injEq, Sum.inl.injEq, Sum.inr.injEq, Prod.mk.injEq, exists_eq_left, exists_eq_left', exists_eq_right, exists_and_left, reduceCtorEq, and_true, true_and, and_false, false_and, List.getElem?_cons_zero, List.getElem?_cons_succ, List.set_cons_zero, List.set_cons_succ, List.replicate, List.length_cons, List.length_nil, List.cons_append, List.nil_append, Nat.reduceAdd, Nat.reduceSub, decide_eq_true_eq, decide_eq_false_iff_not, Bool.true_eq_false, Bool.false_eq_true, true_implies, false_implies, implies_true, Nat.reduceLT, exists_const, z_vB_inj, and_assoc, z_in_iff, oI2L, oL2I, Int.toNat_natCast, z_toNat0, Bool.not_eq_true', Bool.not_eq_false', ne_eq, Bool.not_true, Bool.not_false, Nat.add_zero, Int.add_zero, z_sl_s]
  omega
theorem pMul_b {f g : Nat → Int} (hf : pOk f) (hg : pOk g) {m : Nat} (hm : m < 9) : -20000 ≤ pMul f g m ∧ pMul f g m ≤ 1000000 := by
  have b6 : INF = 1000000 := rfl
  have key : ∀ n, n ≤ m + 1 → -20000 ≤ z_mn (fun i => z_plus (f i) (g (m - i))) n ∧ z_mn (fun i => z_plus (f i) (g (m - i))) n ≤ 1000000 := by
    intro n
    induction n with
    | zero => exact fun _ => ⟨by show (-20000 : Int) ≤ INF; omega, by show INF ≤ (1000000 : Int); omega⟩
    | succ n ih =>
      intro hn
      have w := ih (by omega)
      have x := hf n (by omega)
      have y := hg (m - n) (by omega)
      have z : -20000 ≤ z_plus (f n) (g (m - n)) := by
        unfold z_plus
        split <;> omega
      unfold z_mn
      split <;> omega
  exact key (m + 1) (Nat.le_refl _)
/-- the product: it is laid, or it throws -/
theorem f_product (hi : i < 4) (hj : j < 4) (hl : l < 4) (pi : pOk (S (50 + 9 * i))) (pj : pOk (S (50 + 9 * j))) : ∃ S',
    (¬ (pFits (S (50 + 9 * i)) (S (50 + 9 * j)) 9 ∧ pOk (pMul (S (50 + 9 * i)) (S (50 + 9 * j)))) → m_X5_product [vR 0, vI (i : Int), vI (j : Int), vI (l : Int)] (k_W X S) = some (.inr kIS, k_W X S') ∧ cFr (fun _ => False) S S') ∧
    (pFits (S (50 + 9 * i)) (S (50 + 9 * j)) 9 ∧ pOk (pMul (S (50 + 9 * i)) (S (50 + 9 * j))) → m_X5_product [vR 0, vI (i : Int), vI (j : Int), vI (l : Int)] (k_W X S) = some (.inl (some (vI (z_cnt (fun k => z_dec (pMul (S (50 + 9 * i)) (S (50 + 9 * j)) k ≠ INF)) 9))), k_W X S') ∧ fLd S S' l (pMul (S (50 + 9 * i)) (S (50 + 9 * j)))) := by
  have c0 := s_nH1 (i := (i : Int)) (by omega)
  have c1 := s_nH1 (i := (j : Int)) (by omega)
  have c2 := s_nH1 (i := (l : Int)) (by omega)
  have a1 := k_1r hi
  have a2 := k_1r hj
  have a3 := k_1r hl
  have bF := s_fitsWith (h := k_W X S) (k_po hi) (k_pc hi) pi (k_po hj) (k_pc hj) pj
  by_cases P : pFits (S (50 + 9 * i)) (S (50 + 9 * j)) 9
  rotate_left
  · rw [(z_dec_f _).mpr P] at bF
    refine ⟨S, fun _ => ⟨?_, cFr.refl _ _⟩, fun w => absurd w.1 P⟩
    unfold m_X5_product
    rw [k_v0]
    apply q_body
    have b6 : INF = 1000000 := rfl
    simp only [b_X5_product, c0, c1, c2, k_o0, k_a1, a1, a2, bF, z_vB1, z_vB0, if_true, if_false, not_true_eq_false, not_false_eq_true, exists_eq, kIS, qS_nop, qS_seq, qS_set, qS_setJ, qS_if, qS_brk, qS_ret, qS_retV, qS_throw, qS_inc, qS_cl, qS_ast, qS_aop, qS_fst, qS_fop, qS_sw, qT_eC, qT_eCB, qT_eL, qT_eLJ, qT_eLR, qT_eLS, qT_eSLen, qT_eSLd, qT_eLB, qT_e1, qT_e2, qT_bCmp, qT_bCmpJ, qT_bAnd, qT_bOr, qT_bNot, qT_eBI, qT_eIf, qT_eLd, qT_eLdR, qT_eLen, qT_eF, qT_eFR, qT_aN, qT_aS, qT_eCl, qT_eClR, qT_eClB, qT_some, qT_x, z_nx_N, z_nx_B, z_nx_R, z_nx_X, z_bk_N, z_bk_B, z_bk_R, z_bk_X, oAdd, oSub, oMul, oNeg, cLt, cLe, cGt, cGe, cEq, cNe, Option.some.injEq, Sum.inl.injEq, Sum.inr.injEq, Prod.mk.injEq, exists_eq_left, exists_eq_left', exists_eq_right, exists_and_left, reduceCtorEq, and_true, true_and, and_false, false_and, List.getElem?_cons_zero, List.getElem?_cons_succ, List.set_cons_zero, List.set_cons_succ, List.replicate, List.length_cons, List.length_nil, List.cons_append, List.nil_append, Nat.reduceAdd, Nat.reduceSub, decide_eq_true_eq, decide_eq_false_iff_not, Bool.true_eq_false, Bool.false_eq_true, true_implies, false_implies, implies_true, Nat.reduceLT, exists_const, z_vB_inj, and_assoc, z_in_iff, oI2L, oL2I, Int.toNat_natCast, z_toNat0, Bool.not_eq_true', Bool.not_eq_false', ne_eq, Bool.not_true, Bool.not_false, Nat.add_zero, Int.add_zero, z_sl_s]
    omega
  rw [(z_dec_iff _).mpr P] at bF
  have x1 := s_becomeProduct (o := 28) (c := 29) (h := k_W X S) (k_get (by decide)) (k_get (by decide)) (k_po hi) (k_pc hi) pi (k_po hj) (k_pc hj) pj (by omega) (by omega)
  have x1' : m_X4_becomeProduct [vR 28, vR (49 + 9 * i), vR (49 + 9 * j)] (k_W X S) = some (.inl none, k_W X (k_u S 29 (p9 (pMul (S (50 + 9 * i)) (S (50 + 9 * j))) (S 29)))) := by
    rw [x1, k_s29]
    rfl
  obtain ⟨Y, hY⟩ : ∃ Y, Y = k_u S 29 (p9 (pMul (S (50 + 9 * i)) (S (50 + 9 * j))) (S 29)) := ⟨_, rfl⟩
  rw [← hY] at x1'
  have Y29 : ∀ k, k < 9 → Y 29 k = pMul (S (50 + 9 * i)) (S (50 + 9 * j)) k := fun k hk => by rw [hY, k_u_s, p9_l hk]
  have Yo : ∀ a, a ≠ 29 → Y a = S a := fun a ha => by rw [hY, k_u_n ha]
  have Yb : ∀ k, k < 9 → -100000 ≤ Y 29 k ∧ Y 29 k ≤ 1000000 := fun k hk => by
    rw [Y29 k hk]
    have := pMul_b pi pj hk
    omega
  have bW := s_isWithinP (h := k_W X Y) (o := 28) (c := 29) (k_get (by decide)) (k_get (by decide)) Yb
  have cw : pOk (Y 29) ↔ pOk (pMul (S (50 + 9 * i)) (S (50 + 9 * j))) := by
    constructor
    · intro q k hk
      rw [← Y29 k hk]
      exact q k hk
    · intro q k hk
      rw [Y29 k hk]
      exact q k hk
  by_cases Q : pOk (Y 29)
  rotate_left
  · rw [(z_dec_f _).mpr Q] at bW
    refine ⟨Y, fun _ => ⟨?_, fun a ha _ => Yo a (fun e => ha (by subst e; unfold cFree; omega))⟩, fun w => absurd (cw.mpr w.2) Q⟩
    unfold m_X5_product
    rw [k_v0]
    apply q_body
    have b6 : INF = 1000000 := rfl
    simp only [b_X5_product, c0, c1, c2, k_o0, k_a1, a1, a2, bF, x1', bW, z_vB1, z_vB0, if_true, if_false, not_true_eq_false, not_false_eq_true, exists_eq, kIS, qS_nop, qS_seq, qS_set, qS_setJ, qS_if, qS_brk, qS_ret, qS_retV, qS_throw, qS_inc, qS_cl, qS_ast, qS_aop, qS_fst, qS_fop, qS_sw, qT_eC, qT_eCB, qT_eL, qT_eLJ, qT_eLR, qT_eLS, qT_eSLen, qT_eSLd, qT_eLB, qT_e1, qT_e2, qT_bCmp, qT_bCmpJ, qT_bAnd, qT_bOr, qT_bNot, qT_eBI, qT_eIf, qT_eLd, qT_eLdR, qT_eLen, qT_eF, qT_eFR, qT_aN, qT_aS, qT_eCl, qT_eClR, qT_eClB, qT_some, qT_x, z_nx_N, z_nx_B, z_nx_R, z_nx_X, z_bk_N, z_bk_B, z_bk_R, z_bk_X, oAdd, oSub, oMul, oNeg, cLt, cLe, cGt, cGe, cEq, cNe, Option.some.injEq, Sum.inl.injEq, Sum.inr.injEq, Prod.mk.injEq, exists_eq_left, exists_eq_left', exists_eq_right, exists_and_left, reduceCtorEq, and_true, true_and, and_false, false_and, List.getElem?_cons_zero, List.getElem?_cons_succ, List.set_cons_zero, List.set_cons_succ, List.replicate, List.length_cons, List.length_nil, List.cons_append, List.nil_append, Nat.reduceAdd, Nat.reduceSub, decide_eq_true_eq, decide_eq_false_iff_not, Bool.true_eq_false, Bool.false_eq_true, true_implies, false_implies, implies_true, Nat.reduceLT, exists_const, z_vB_inj, and_assoc, z_in_iff, oI2L, oL2I, Int.toNat_natCast, z_toNat0, Bool.not_eq_true', Bool.not_eq_false', ne_eq, Bool.not_true, Bool.not_false, Nat.add_zero, Int.add_zero, z_sl_s]
    omega
  rw [(z_dec_iff _).mpr Q] at bW
  have x2 := s_cp29 (X := X) (S := Y) hl
  have x3 := s_ct (X := X) (S := Y) hl Q
  have cc : z_cnt (fun k => z_dec (Y 29 k ≠ INF)) 9 = z_cnt (fun k => z_dec (pMul (S (50 + 9 * i)) (S (50 + 9 * j)) k ≠ INF)) 9 := z_cnt_cg 9 (fun k hk => by rw [Y29 k hk])
  rw [cc] at x3
  refine ⟨kLay Y l, fun w => absurd ⟨P, cw.mp Q⟩ w, fun _ => ⟨?_, kLay_fr Y29 Yo⟩⟩
  unfold m_X5_product
  rw [k_v0]
  apply q_body
  have b6 : INF = 1000000 := rfl
  simp only [b_X5_product, c0, c1, c2, k_o0, k_a1, a1, a2, a3, bF, x1', bW, x2, x3, z_vB1, z_vB0, if_true, if_false, not_true_eq_false, not_false_eq_true, exists_eq, qS_nop, qS_seq, qS_set, qS_setJ, qS_if, qS_brk, qS_ret, qS_retV, qS_throw, qS_inc, qS_cl, qS_ast, qS_aop, qS_fst, qS_fop, qS_sw, qT_eC, qT_eCB, qT_eL, qT_eLJ, qT_eLR, qT_eLS, qT_eSLen, qT_eSLd, qT_eLB, qT_e1, qT_e2, qT_bCmp, qT_bCmpJ, qT_bAnd, qT_bOr, qT_bNot, qT_eBI, qT_eIf, qT_eLd, qT_eLdR, qT_eLen, qT_eF, qT_eFR, qT_aN, qT_aS, qT_eCl, qT_eClR, qT_eClB, qT_some, qT_x, z_nx_N, z_nx_B, z_nx_R, z_nx_X, z_bk_N, z_bk_B, z_bk_R, z_bk_X, oAdd, oSub, oMul, oNeg, cLt, cLe, cGt, cGe, cEq, cNe, Option.some.injEq, Sum.inl.injEq, Sum.inr.injEq, Prod.mk.injEq, exists_eq_left, exists_eq_left', exists_eq_right, exists_and_left, reduceCtorEq, and_true, true_and, and_false, false_and, List.getElem?_cons_zero, List.getElem?_cons_succ, List.set_cons_zero, List.set_cons_succ, List.replicate, List.length_cons, List.length_nil, List.cons_append, List.nil_append, Nat.reduceAdd, Nat.reduceSub, decide_eq_true_eq, decide_eq_false_iff_not, Bool.true_eq_false, Bool.false_eq_true, true_implies, false_implies, implies_true, Nat.reduceLT, exists_const, z_vB_inj, and_assoc, z_in_iff, oI2L, oL2I, Int.toNat_natCast, z_toNat0, Bool.not_eq_true', Bool.not_eq_false', ne_eq, Bool.not_true, Bool.not_false, Nat.add_zero, Int.add_zero, z_sl_s]
  omega
end FC2
