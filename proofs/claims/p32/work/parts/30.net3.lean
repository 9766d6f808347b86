/-! Net: fire, debts -/
theorem o_andn : ∀ (s c : Fin 32), oAnd (s.val : Int) (-(c.val : Int) - 1) = some ((s.val - (s.val &&& c.val) : Nat) : Int) := by decide
theorem i_le : ∀ (s : Fin 32) (c : Fin 5), iB (s.val : Int) c.val → 2 ^ c.val ≤ s.val := by decide
/-- fire over the vertices once; so many rounds -/
def nBn (B : Nat → Nat → Int) (V : Nat → Int) (X : Nat) : Nat → Nat
  | 0 => X
  | v + 1 => if iB (nBn B V X v : Int) v ∧ V v < nCe B v (-(nBn B V X v : Int) - 1) 5 then nBn B V X v - 2 ^ v else nBn B V X v
def nRd (B : Nat → Nat → Int) (V : Nat → Int) (X : Nat) : Nat → Nat
  | 0 => X
  | k + 1 => nBn B V (nRd B V X k) 5
theorem nBn_b {B : Nat → Nat → Int} {V : Nat → Int} {X : Nat} (hX : X < 32) : ∀ v, nBn B V X v < 32
  | 0 => hX
  | v + 1 => by
    have := nBn_b (B := B) (V := V) hX v
    unfold nBn
    split
    · exact Nat.lt_of_le_of_lt (Nat.sub_le _ _) this
    · exact this
theorem nRd_b {B : Nat → Nat → Int} {V : Nat → Int} {X : Nat} (hX : X < 32) : ∀ k, nRd B V X k < 32
  | 0 => hX
  | k + 1 => nBn_b (nRd_b hX k) 5
theorem nRd_fix {B : Nat → Nat → Int} {V : Nat → Int} {X k : Nat} (h : nRd B V X (k + 1) = nRd B V X k) : ∀ j, nRd B V X (k + j) = nRd B V X k
  | 0 => rfl
  | j + 1 => by
    have := nRd_fix h j
    show nBn B V (nRd B V X (k + j)) 5 = _
    rw [this]
    exact h
section NU
variable {h : z_Hp} {B P D : Nat → Nat → Int} {C N : Nat → Int}
theorem s_unburnt (a : nAt h B C N P D) (hB : nBd B) {i : Nat} (hi : i < 5) {x y : Nat} (hx : x < 32) (hy : y < 32) (h4 : N 4 = (x : Int)) (h0 : N 0 = (y : Int)) (hV : nVb (P i) 1000000000) : m_X3_findUnburnt [vR 8, vR (18 + i)] h = some (.inl (some (vI ((nRd B (P i) (x - (x &&& y)) 4 : Nat) : Int))), h) := by
  unfold m_X3_findUnburnt
  rw [q_vm a.1]
  apply q_body
  have o1 := o_not ⟨y, hy⟩
  have o2 := o_andn ⟨x, hx⟩ ⟨y, hy⟩
  simp only at o1 o2
  have e4 : (4 : Int).toNat = 4 := rfl
  simp only [b_X3_findUnburnt, q_obj a.1, q_arr a.2.2.2.1 (by decide), e4, h4, h0, o1, o2, qS_nop, qS_seq, qS_set, qS_setJ, qS_if, qS_brk, qS_ret, qS_retV, qS_throw, qS_inc, qS_cl, qS_ast, qS_aop, qS_fst, qS_fop, qS_sw, qT_eC, qT_eCB, qT_eL, qT_eLJ, qT_eLR, qT_eLB, qT_e1, qT_e2, qT_bCmp, qT_bCmpJ, qT_bAnd, qT_bOr, qT_bNot, qT_eBI, qT_eIf, qT_eLd, qT_eLdR, qT_eLen, qT_eF, qT_eFR, qT_aN, qT_aS, qT_eCl, qT_eClR, qT_eClB, qT_some, qT_x, z_nx_N, z_nx_B, z_nx_R, z_nx_X, z_bk_N, z_bk_B, z_bk_R, z_bk_X, oAdd, oSub, oMul, oNeg, cLt, cLe, cGt, cGe, cEq, cNe, Option.some.injEq, Sum.inl.injEq, Sum.inr.injEq, Prod.mk.injEq, exists_eq_left, exists_eq_left', exists_eq_right, exists_and_left, reduceCtorEq, and_true, true_and, and_false, false_and, List.getElem?_cons_zero, List.getElem?_cons_succ, List.set_cons_zero, List.set_cons_succ, List.replicate, List.length_cons, List.length_nil, List.cons_append, List.nil_append, Nat.reduceAdd, Nat.reduceSub, decide_eq_true_eq, decide_eq_false_iff_not, Bool.true_eq_false, Bool.false_eq_true, true_implies, false_implies, implies_true, Nat.reduceLT, exists_const, z_vB_inj, and_assoc, z_in_iff, oI2L, oL2I, Int.toNat_natCast, z_toNat0, Bool.not_eq_true', Bool.not_eq_false', ne_eq, Bool.not_true, Bool.not_false, Nat.add_zero, Int.add_zero, z_sl_s]
  refine ⟨by omega, by omega, by omega, by omega, ?_⟩
  have hX : x - (x &&& y) < 32 := by omega
  generalize x - (x &&& y) = X at hX ⊢
  refine qS_loop (fun k ρ h' => h' = h ∧ ∃ z u, ρ = [vR 8, vR (18 + i), vI ((nRd B (P i) X k : Nat) : Int), vI ((k : Int) + 1), z, u]) 4 ?_ ?_ 4 0 z_fuel _ _ (by omega) (z_fuel_lt (by omega)) ⟨rfl, _, _, rfl⟩
  · rintro k ρ h' hk ⟨rfl, z, u, rfl⟩
    have bX := nRd_b (B := B) (V := P i) hX k
    have wk : nRd B (P i) X (k + 1) = nBn B (P i) (nRd B (P i) X k) 5 := rfl
    have fx := nRd_fix (B := B) (V := P i) (X := X) (k := k)
    simp only [qS_nop, qS_seq, qS_set, qS_setJ, qS_if, qS_brk, qS_ret, qS_retV, qS_throw, qS_inc, qS_cl, qS_ast, qS_aop, qS_fst, qS_fop, qS_sw, qT_eC, qT_eCB, qT_eL, qT_eLJ, qT_eLR, qT_eLB, qT_e1, qT_e2, qT_bCmp, qT_bCmpJ, qT_bAnd, qT_bOr, qT_bNot, qT_eBI, qT_eIf, qT_eLd, qT_eLdR, qT_eLen, qT_eF, qT_eFR, qT_aN, qT_aS, qT_eCl, qT_eClR, qT_eClB, qT_some, qT_x, z_nx_N, z_nx_B, z_nx_R, z_nx_X, z_bk_N, z_bk_B, z_bk_R, z_bk_X, oAdd, oSub, oMul, oNeg, cLt, cLe, cGt, cGe, cEq, cNe, Option.some.injEq, Sum.inl.injEq, Sum.inr.injEq, Prod.mk.injEq, exists_eq_left, exists_eq_left', exists_eq_right, exists_and_left, reduceCtorEq, and_true, true_and, and_false, false_and, List.getElem?_cons_zero, List.getElem?_cons_succ, List.set_cons_zero, List.set_cons_succ, List.replicate, List.length_cons, List.length_nil, List.cons_append, List.nil_append, Nat.reduceAdd, Nat.reduceSub, decide_eq_true_eq, decide_eq_false_iff_not, Bool.true_eq_false, Bool.false_eq_true, true_implies, false_implies, implies_true, Nat.reduceLT, exists_const, z_vB_inj, and_assoc, z_in_iff, oI2L, oL2I, Int.toNat_natCast, z_toNat0, Bool.not_eq_true', Bool.not_eq_false', ne_eq, Bool.not_true, Bool.not_false, Nat.add_zero, Int.add_zero, z_sl_s]
    refine ⟨by omega, by omega, by omega, by omega, by omega, ?_⟩
    generalize hY : nRd B (P i) X k = Y at bX wk fx
    refine qS_for (fun v => [vR 8, vR (18 + i), vI ((nBn B (P i) Y v : Nat) : Int), vI ((k : Int) + 1), vI (Y : Int), vI (v : Int)]) (fun _ => h') (fun _ => True) 5 rfl rfl trivial (by omega) ?_ ?_
    · intro v hv _
      have b1 := nBn_b (B := B) (V := P i) bX v
      have w : nBn B (P i) Y (v + 1) = if iB (nBn B (P i) Y v : Int) v ∧ P i v < nCe B v (-(nBn B (P i) Y v : Int) - 1) 5 then nBn B (P i) Y v - 2 ^ v else nBn B (P i) Y v := rfl
      generalize nBn B (P i) Y v = U at b1 w ⊢
      have e1 := s_has a (s := (U : Int)) ⟨by omega, by omega⟩ hv
      have e2 := s_ce a hB (s := -(U : Int) - 1) ⟨by omega, by omega⟩ hv
      have o3 := o_not ⟨U, b1⟩
      have o4 := o_shl ⟨v, by omega⟩
      simp only at o3 o4
      have bv := hV v hv
      have b2 := nCe_b hB hv (s := -(U : Int) - 1) 5 (by omega)
      generalize nCe B v (-(U : Int) - 1) 5 = T at e2 b2 w
      have d := q_arr (a.pile hi) (by decide)
      have il := i_le ⟨U, b1⟩ ⟨v, hv⟩
      simp only at il
      simp only [e1, e2, o3, o4, d, qS_nop, qS_seq, qS_set, qS_setJ, qS_if, qS_brk, qS_ret, qS_retV, qS_throw, qS_inc, qS_cl, qS_ast, qS_aop, qS_fst, qS_fop, qS_sw, qT_eC, qT_eCB, qT_eL, qT_eLJ, qT_eLR, qT_eLB, qT_e1, qT_e2, qT_bCmp, qT_bCmpJ, qT_bAnd, qT_bOr, qT_bNot, qT_eBI, qT_eIf, qT_eLd, qT_eLdR, qT_eLen, qT_eF, qT_eFR, qT_aN, qT_aS, qT_eCl, qT_eClR, qT_eClB, qT_some, qT_x, z_nx_N, z_nx_B, z_nx_R, z_nx_X, z_bk_N, z_bk_B, z_bk_R, z_bk_X, oAdd, oSub, oMul, oNeg, cLt, cLe, cGt, cGe, cEq, cNe, Option.some.injEq, Sum.inl.injEq, Sum.inr.injEq, Prod.mk.injEq, exists_eq_left, exists_eq_left', exists_eq_right, exists_and_left, reduceCtorEq, and_true, true_and, and_false, false_and, List.getElem?_cons_zero, List.getElem?_cons_succ, List.set_cons_zero, List.set_cons_succ, List.replicate, List.length_cons, List.length_nil, List.cons_append, List.nil_append, Nat.reduceAdd, Nat.reduceSub, decide_eq_true_eq, decide_eq_false_iff_not, Bool.true_eq_false, Bool.false_eq_true, true_implies, false_implies, implies_true, Nat.reduceLT, exists_const, z_vB_inj, and_assoc, z_in_iff, oI2L, oL2I, Int.toNat_natCast, z_toNat0, Bool.not_eq_true', Bool.not_eq_false', ne_eq, Bool.not_true, Bool.not_false, Nat.add_zero, Int.add_zero, z_sl_s]
      refine ⟨by omega, by omega, by omega, by omega, by omega, fun q => ⟨by omega, by omega, by omega, by omega, by omega, by omega, fun q2 => ?_, fun q2 => ?_⟩, fun q => ?_⟩
      · have l := il ((z_dec_iff _).mp q)
        rw [w, if_pos (show iB (U : Int) v ∧ P i v < T from ⟨(z_dec_iff _).mp q, q2⟩), show ((U : Nat) : Int) - ((2 ^ v : Nat) : Int) = ((U - 2 ^ v : Nat) : Int) by omega]
        rfl
      · rw [w, if_neg (fun c => q2 c.2)]
        rfl
      · rw [w, if_neg (fun c => (z_dec_f _).mp q c.1)]
        rfl
    · intro _
      have b1 := nBn_b (B := B) (V := P i) bX 5
      generalize hW : nBn B (P i) Y 5 = W at b1 wk
      simp only [qS_nop, qS_seq, qS_set, qS_setJ, qS_if, qS_brk, qS_ret, qS_retV, qS_throw, qS_inc, qS_cl, qS_ast, qS_aop, qS_fst, qS_fop, qS_sw, qT_eC, qT_eCB, qT_eL, qT_eLJ, qT_eLR, qT_eLB, qT_e1, qT_e2, qT_bCmp, qT_bCmpJ, qT_bAnd, qT_bOr, qT_bNot, qT_eBI, qT_eIf, qT_eLd, qT_eLdR, qT_eLen, qT_eF, qT_eFR, qT_aN, qT_aS, qT_eCl, qT_eClR, qT_eClB, qT_some, qT_x, z_nx_N, z_nx_B, z_nx_R, z_nx_X, z_bk_N, z_bk_B, z_bk_R, z_bk_X, oAdd, oSub, oMul, oNeg, cLt, cLe, cGt, cGe, cEq, cNe, Option.some.injEq, Sum.inl.injEq, Sum.inr.injEq, Prod.mk.injEq, exists_eq_left, exists_eq_left', exists_eq_right, exists_and_left, reduceCtorEq, and_true, true_and, and_false, false_and, List.getElem?_cons_zero, List.getElem?_cons_succ, List.set_cons_zero, List.set_cons_succ, List.replicate, List.length_cons, List.length_nil, List.cons_append, List.nil_append, Nat.reduceAdd, Nat.reduceSub, decide_eq_true_eq, decide_eq_false_iff_not, Bool.true_eq_false, Bool.false_eq_true, true_implies, false_implies, implies_true, Nat.reduceLT, exists_const, z_vB_inj, and_assoc, z_in_iff, oI2L, oL2I, Int.toNat_natCast, z_toNat0, Bool.not_eq_true', Bool.not_eq_false', ne_eq, Bool.not_true, Bool.not_false, Nat.add_zero, Int.add_zero, z_sl_s]
      refine ⟨by omega, by omega, by omega, by omega, by omega, by omega, by omega, by omega, by omega, fun q => ?_, fun q => ⟨vI (Y : Int), vI 5, ?_⟩⟩
      · have r := fx (wk.trans (by omega)) (4 - k)
        rw [show k + (4 - k) = 4 by omega] at r
        rw [r]
        exact q
      · rw [wk]
        rfl
  · rintro ρ h' ⟨rfl, z, u, rfl⟩
    simp only [qS_nop, qS_seq, qS_set, qS_setJ, qS_if, qS_brk, qS_ret, qS_retV, qS_throw, qS_inc, qS_cl, qS_ast, qS_aop, qS_fst, qS_fop, qS_sw, qT_eC, qT_eCB, qT_eL, qT_eLJ, qT_eLR, qT_eLB, qT_e1, qT_e2, qT_bCmp, qT_bCmpJ, qT_bAnd, qT_bOr, qT_bNot, qT_eBI, qT_eIf, qT_eLd, qT_eLdR, qT_eLen, qT_eF, qT_eFR, qT_aN, qT_aS, qT_eCl, qT_eClR, qT_eClB, qT_some, qT_x, z_nx_N, z_nx_B, z_nx_R, z_nx_X, z_bk_N, z_bk_B, z_bk_R, z_bk_X, oAdd, oSub, oMul, oNeg, cLt, cLe, cGt, cGe, cEq, cNe, Option.some.injEq, Sum.inl.injEq, Sum.inr.injEq, Prod.mk.injEq, exists_eq_left, exists_eq_left', exists_eq_right, exists_and_left, reduceCtorEq, and_true, true_and, and_false, false_and, List.getElem?_cons_zero, List.getElem?_cons_succ, List.set_cons_zero, List.set_cons_succ, List.replicate, List.length_cons, List.length_nil, List.cons_append, List.nil_append, Nat.reduceAdd, Nat.reduceSub, decide_eq_true_eq, decide_eq_false_iff_not, Bool.true_eq_false, Bool.false_eq_true, true_implies, false_implies, implies_true, Nat.reduceLT, exists_const, z_vB_inj, and_assoc, z_in_iff, oI2L, oL2I, Int.toNat_natCast, z_toNat0, Bool.not_eq_true', Bool.not_eq_false', ne_eq, Bool.not_true, Bool.not_false, Nat.add_zero, Int.add_zero, z_sl_s]
    omega
end NU
