/-! THE FACE: edges, chips -/
section FCh
variable {X : z_Hp} {S : Nat → Nat → Int}
theorem f_chipsAt {v : Nat} (hv : v < 5) : m_X5_chipsAt [vR 0, vI (v : Int)] (k_W X S) = some (.inl (some (vI (S 15 v))), k_W X S) := by
  have c0 := s_nI1 (i := (v : Int)) (c := 5) (by decide) (by omega)
  unfold m_X5_chipsAt
  rw [k_v0]
  apply q_body
  have b6 : INF = 1000000 := rfl
  simp only [b_X5_chipsAt, c0, k_o0, k_o8, k_a15, qS_nop, qS_seq, qS_set, qS_setJ, qS_if, qS_brk, qS_ret, qS_retV, qS_throw, qS_inc, qS_cl, qS_ast, qS_aop, qS_fst, qS_fop, qS_sw, qT_eC, qT_eCB, qT_eL, qT_eLJ, qT_eLR, qT_eLS, qT_eSLen, qT_eSLd, qT_eLB, qT_e1, qT_e2, qT_bCmp, qT_bCmpJ, qT_bAnd, qT_bOr, qT_bNot, qT_eBI, qT_eIf, qT_eLd, qT_eLdR, qT_eLen, qT_eF, qT_eFR, qT_aN, qT_aS, qT_eCl, qT_eClR, qT_eClB, qT_some, qT_x, z_nx_N, z_nx_B, z_nx_R, z_nx_X, z_bk_N, z_bk_B, z_bk_R, z_bk_X, oAdd, oSub, oMul, oNeg, cLt, cLe, cGt, cGe, cEq, cNe, Option.some.injEq, Sum.inl.injEq, Sum.inr.injEq, Prod.mk.injEq, exists_eq_left, exists_eq_left', exists_eq_right, exists_and_left, reduceCtorEq, and_true, true_and, and_false, false_and, List.getElem?_cons_zero, List.getElem?_cons_succ, List.set_cons_zero, List.set_cons_succ, List.replicate, List.length_cons, List.length_nil, List.cons_append, List.nil_append, Nat.reduceAdd, Nat.reduceSub, decide_eq_true_eq, decide_eq_false_iff_not, Bool.true_eq_false, Bool.false_eq_true, true_implies, false_implies, implies_true, Nat.reduceLT, exists_const, z_vB_inj, and_assoc, z_in_iff, oI2L, oL2I, Int.toNat_natCast, z_toNat0, Bool.not_eq_true', Bool.not_eq_false', ne_eq, Bool.not_true, Bool.not_false, Nat.add_zero, Int.add_zero, z_sl_s]
  omega
theorem f_chips {v : Nat} (hv : v < 5) {n : Int} (hn : -99 ≤ n ∧ n ≤ 99) : m_X5_chips [vR 0, vI (v : Int), vI n] (k_W X S) = some (.inl (some (vI (S 15 v))), k_W X (k_u S 15 (z_up (S 15) v n))) := by
  have c0 := s_nI1 (i := (v : Int)) (c := 5) (by decide) (by omega)
  have c1 := s_nW1 (n := n) (a := -99) (b := 99) (by decide) (by decide) hn
  unfold m_X5_chips
  rw [k_v0]
  apply q_body
  have b6 : INF = 1000000 := rfl
  simp only [b_X5_chips, c0, c1, k_o0, k_o8, k_a15, k_s15, qS_nop, qS_seq, qS_set, qS_setJ, qS_if, qS_brk, qS_ret, qS_retV, qS_throw, qS_inc, qS_cl, qS_ast, qS_aop, qS_fst, qS_fop, qS_sw, qT_eC, qT_eCB, qT_eL, qT_eLJ, qT_eLR, qT_eLS, qT_eSLen, qT_eSLd, qT_eLB, qT_e1, qT_e2, qT_bCmp, qT_bCmpJ, qT_bAnd, qT_bOr, qT_bNot, qT_eBI, qT_eIf, qT_eLd, qT_eLdR, qT_eLen, qT_eF, qT_eFR, qT_aN, qT_aS, qT_eCl, qT_eClR, qT_eClB, qT_some, qT_x, z_nx_N, z_nx_B, z_nx_R, z_nx_X, z_bk_N, z_bk_B, z_bk_R, z_bk_X, oAdd, oSub, oMul, oNeg, cLt, cLe, cGt, cGe, cEq, cNe, Option.some.injEq, Sum.inl.injEq, Sum.inr.injEq, Prod.mk.injEq, exists_eq_left, exists_eq_left', exists_eq_right, exists_and_left, reduceCtorEq, and_true, true_and, and_false, false_and, List.getElem?_cons_zero, List.getElem?_cons_succ, List.set_cons_zero, List.set_cons_succ, List.replicate, List.length_cons, List.length_nil, List.cons_append, List.nil_append, Nat.reduceAdd, Nat.reduceSub, decide_eq_true_eq, decide_eq_false_iff_not, Bool.true_eq_false, Bool.false_eq_true, true_implies, false_implies, implies_true, Nat.reduceLT, exists_const, z_vB_inj, and_assoc, z_in_iff, oI2L, oL2I, Int.toNat_natCast, z_toNat0, Bool.not_eq_true', Bool.not_eq_false', ne_eq, Bool.not_true, Bool.not_false, Nat.add_zero, Int.add_zero, z_sl_s]
  omega
theorem cInv.chips (I : cInv S) {v : Nat} {n : Int} (hn : -99 ≤ n ∧ n ≤ 99) : cInv (k_u S 15 (z_up (S 15) v n)) := by
  refine I.gs ⟨?_, fun x hx => ?_⟩ (cFr.u (Or.inr (by omega)) _)
  · rw [kF_u (by omega)]
    exact I.2.2.2.1.1
  · rw [k_u_s]
    unfold z_up
    split
    · exact hn
    · exact I.2.2.2.1.2 x hx
/-- edges set -/
def kEd (S : Nat → Nat → Int) (i j : Nat) (n : Int) : Nat → Nat → Int := k_u (k_u S (10 + i) (z_up (S (10 + i)) j n)) (10 + j) (z_up (S (10 + j)) i n)
theorem kEd_at {i j : Nat} (hij : i ≠ j) {n : Int} : ∀ x y, kEd S i j n (10 + x) y = if (x = i ∧ y = j) ∨ (x = j ∧ y = i) then n else S (10 + x) y := by
  intro x y
  unfold kEd k_u z_up
  by_cases c1 : x = j
  · rw [if_pos (by omega)]
    by_cases d : y = i
    · rw [if_pos d, if_pos (Or.inr ⟨c1, d⟩)]
    · rw [if_neg d, if_neg (by omega), c1]
  · rw [if_neg (by omega)]
    by_cases c2 : x = i
    · rw [if_pos (by omega)]
      by_cases d : y = j
      · rw [if_pos d, if_pos (Or.inl ⟨c2, d⟩)]
      · rw [if_neg d, if_neg (by omega), c2]
    · rw [if_neg (by omega), if_neg (by omega)]
theorem f_edges (I : cInv S) {i j : Nat} (hi : i < 5) (hj : j < 5) (hij : i ≠ j) {n : Int} (hn : 0 ≤ n ∧ n ≤ 3) : m_X5_edges [vR 0, vI (i : Int), vI (j : Int), vI n] (k_W X S) = some (.inl (some (vI (S (10 + i) j))), k_W X (kEd S i j n)) ∧ cInv (kEd S i j n) ∧ cFr (fun a => 10 ≤ a ∧ a ≤ 14) S (kEd S i j n) := by
  have c0 := s_nI1 (i := (i : Int)) (c := 5) (by decide) (by omega)
  have c1 := s_nI1 (i := (j : Int)) (c := 5) (by decide) (by omega)
  have c2 := s_nW1 (n := n) (a := 0) (b := 3) (by decide) (by decide) hn
  have nij : ¬ (i : Int) = (j : Int) := by omega
  have ba := k_4r hi
  have bb := k_4r hj
  have a1 := k_ba (X := X) (S := S) hi
  have a2 := k_ba (X := X) (S := k_u S (10 + i) (z_up (S (10 + i)) j n)) hj
  rw [k_u_n (by omega)] at a2
  have s2 := fun g => k_bs (X := X) (S := k_u S (10 + i) (z_up (S (10 + i)) j n)) hj g
  have fr : cFr (fun a => 10 ≤ a ∧ a ≤ 14) S (kEd S i j n) := fun a _ h => by
    unfold kEd
    rw [k_u_n (by omega), k_u_n (by omega)]
  have g15 : kEd S i j n 15 = S 15 := fr 15 (by unfold cFree; omega) (by omega)
  refine ⟨?_, I.gs ⟨fun x y hx hy => ?_, fun x hx => by rw [g15]; exact I.2.2.2.1.2 x hx⟩ (fr.to (fun a h => by omega)), fr⟩
  · unfold kEd
    unfold m_X5_edges
    rw [k_v0]
    apply q_body
    have b6 : INF = 1000000 := rfl
    simp only [b_X5_edges, c0, c1, c2, nij, k_o0, k_o8, k_a9, ba, bb, a1, a2, k_bs hi, s2, z_vB1, z_vB0, if_true, if_false, not_true_eq_false, not_false_eq_true, exists_eq, qS_nop, qS_seq, qS_set, qS_setJ, qS_if, qS_brk, qS_ret, qS_retV, qS_throw, qS_inc, qS_cl, qS_ast, qS_aop, qS_fst, qS_fop, qS_sw, qT_eC, qT_eCB, qT_eL, qT_eLJ, qT_eLR, qT_eLS, qT_eSLen, qT_eSLd, qT_eLB, qT_e1, qT_e2, qT_bCmp, qT_bCmpJ, qT_bAnd, qT_bOr, qT_bNot, qT_eBI, qT_eIf, qT_eLd, qT_eLdR, qT_eLen, qT_eF, qT_eFR, qT_aN, qT_aS, qT_eCl, qT_eClR, qT_eClB, qT_some, qT_x, z_nx_N, z_nx_B, z_nx_R, z_nx_X, z_bk_N, z_bk_B, z_bk_R, z_bk_X, oAdd, oSub, oMul, oNeg, cLt, cLe, cGt, cGe, cEq, cNe, Option.some.injEq, Sum.inl.injEq, Sum.inr.injEq, Prod.mk.injEq, exists_eq_left, exists_eq_left', exists_eq_right, exists_and_left, reduceCtorEq, and_true, true_and, and_false, false_and, List.getElem?_cons_zero, List.getElem?_cons_succ, List.set_cons_zero, List.set_cons_succ, List.replicate, List.length_cons, List.length_nil, List.cons_append, List.nil_append, Nat.reduceAdd, Nat.reduceSub, decide_eq_true_eq, decide_eq_false_iff_not, Bool.true_eq_false, Bool.false_eq_true, true_implies, false_implies, implies_true, Nat.reduceLT, exists_const, z_vB_inj, and_assoc, z_in_iff, oI2L, oL2I, Int.toNat_natCast, z_toNat0, Bool.not_eq_true', Bool.not_eq_false', ne_eq, Bool.not_true, Bool.not_false, Nat.add_zero, Int.add_zero, z_sl_s]
    omega
  · rw [kF_l hx, kF_l hy, kEd_at hij, kEd_at hij]
    have g := I.2.2.2.1.1 x y hx hy
    rw [kF_l hx, kF_l hy] at g
    by_cases c : (x = i ∧ y = j) ∨ (x = j ∧ y = i)
    · rw [if_pos c, if_pos (by omega)]
      omega
    · rw [if_neg c, if_neg (by omega)]
      exact g
end FCh
