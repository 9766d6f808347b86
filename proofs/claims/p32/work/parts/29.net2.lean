/-! Net: spreading and firing -/
theorem o_or : ∀ (s : Fin 32) (c : Fin 5), oOr (s.val : Int) ((2 ^ c.val : Nat) : Int) = some ((s.val ||| 2 ^ c.val : Nat) : Int) ∧ s.val ||| 2 ^ c.val < 32 := by decide
/-- what is a step farther; what is so many steps away at most -/
def nNrV (B : Nat → Nat → Int) (X : Nat) : Nat → Nat
  | 0 => X
  | v + 1 => if 0 < nCe B v (X : Int) 5 then nNrV B X v ||| 2 ^ v else nNrV B X v
def nNr (B : Nat → Nat → Int) (x : Nat) : Nat → Nat
  | 0 => 2 ^ x
  | k + 1 => nNrV B (nNr B x k) 5
theorem nNrV_b {B : Nat → Nat → Int} {X : Nat} (hX : X < 32) : ∀ v, v ≤ 5 → nNrV B X v < 32
  | 0, _ => hX
  | v + 1, hv => by
    have := nNrV_b (B := B) hX v (by omega)
    unfold nNrV
    split
    · exact (o_or ⟨_, this⟩ ⟨v, hv⟩).2
    · exact this
theorem nNr_b {B : Nat → Nat → Int} {x : Nat} (hx : x < 5) : ∀ k, nNr B x k < 32
  | 0 => by
    have : ∀ x : Fin 5, 2 ^ x.val < 32 := by decide
    exact this ⟨x, hx⟩
  | k + 1 => nNrV_b (nNr_b hx k) 5 (by omega)
def nG (B : Nat → Nat → Int) (N : Nat → Int) (x k : Nat) : Nat → Int := fun i => if i < k + 1 then ((nNr B x i : Nat) : Int) else N i
section NS
variable {h : z_Hp} {B P D : Nat → Nat → Int} {C N : Nat → Int}
theorem nAt.setN (a : nAt h B C N P D) (g : Nat → Int) : nAt (h.set 16 (.inr (0, 5, g))) B C g P D := by
  obtain ⟨a1, a2, a3, a4, a5, a6⟩ := a
  exact ⟨(z_set_ne (by omega)).trans a1, a2.kept (z_set_ne (by omega)) (fun j hj => z_set_ne (by omega)), (z_set_ne (by omega)).trans a3, z_set_get a4, a5.kept (z_set_ne (by omega)) (fun j hj => z_set_ne (by omega)), a6.kept (z_set_ne (by omega)) (fun j hj => z_set_ne (by omega))⟩
theorem s_spread (a : nAt h B C N P D) (hB : nBd B) {x : Nat} (hx : x < 5) : m_X3_spreadFrom [vR 8, vI (x : Int)] h = some (.inl none, h.set 16 (.inr (0, 5, nG B N x 4))) := by
  unfold m_X3_spreadFrom
  rw [q_vm a.1]
  apply q_body
  have es : ∀ (g : Nat → Int) (x : z_Cl), (h.set 16 (.inr (0, 5, g))).set 16 x = h.set 16 x := fun g x => List.set_set _
  have b0 := o_shl ⟨x, by omega⟩
  simp only at b0
  have u0 : z_up N 0 ((2 ^ x : Nat) : Int) = nG B N x 0 := by
    funext i
    unfold z_up nG
    by_cases hi : i = 0
    · subst hi; simp [nNr]
    · simp [hi]
  simp only [b_X3_spreadFrom, q_obj a.1, q_arr a.2.2.2.1 (by decide), b0, u0, qS_nop, qS_seq, qS_set, qS_setJ, qS_if, qS_brk, qS_ret, qS_retV, qS_throw, qS_inc, qS_cl, qS_ast, qS_aop, qS_fst, qS_fop, qS_sw, qT_eC, qT_eCB, qT_eL, qT_eLJ, qT_eLR, qT_eLB, qT_e1, qT_e2, qT_bCmp, qT_bCmpJ, qT_bAnd, qT_bOr, qT_bNot, qT_eBI, qT_eIf, qT_eLd, qT_eLdR, qT_eLen, qT_eF, qT_eFR, qT_aN, qT_aS, qT_eCl, qT_eClR, qT_eClB, qT_some, qT_x, z_nx_N, z_nx_B, z_nx_R, z_nx_X, z_bk_N, z_bk_B, z_bk_R, z_bk_X, oAdd, oSub, oMul, oNeg, cLt, cLe, cGt, cGe, cEq, cNe, Option.some.injEq, Sum.inl.injEq, Sum.inr.injEq, Prod.mk.injEq, exists_eq_left, exists_eq_left', exists_eq_right, exists_and_left, reduceCtorEq, and_true, true_and, and_false, false_and, List.getElem?_cons_zero, List.getElem?_cons_succ, List.set_cons_zero, List.set_cons_succ, List.replicate, List.length_cons, List.length_nil, List.cons_append, List.nil_append, Nat.reduceAdd, Nat.reduceSub, decide_eq_true_eq, decide_eq_false_iff_not, Bool.true_eq_false, Bool.false_eq_true, true_implies, false_implies, implies_true, Nat.reduceLT, exists_const, z_vB_inj, and_assoc, z_in_iff, oI2L, oL2I, Int.toNat_natCast, z_toNat0, Bool.not_eq_true', Bool.not_eq_false', ne_eq, Bool.not_true, Bool.not_false, Nat.add_zero, Int.add_zero, z_sl_s]
  refine ⟨by omega, by omega, ?_⟩
  refine qS_for (fun k => [vR 8, vI (x : Int), vI ((k : Int) + 1), z_sl k (vI 5)]) (fun k => h.set 16 (.inr (0, 5, nG B N x k))) (fun _ => True) 4 rfl rfl trivial (by omega) ?_ ?_
  · intro k hk _
    have a' := a.setN (nG B N x k)
    have e1 : ((k : Int) + 1).toNat = k + 1 := by omega
    have e2 : ((k : Int) + 1 - 1).toNat = k := by omega
    have e3 : nG B N x k k = ((nNr B x k : Nat) : Int) := by simp [nG]
    simp only [q_obj a'.1, q_arr a'.2.2.2.1 (by decide), e1, e2, e3, es, qS_nop, qS_seq, qS_set, qS_setJ, qS_if, qS_brk, qS_ret, qS_retV, qS_throw, qS_inc, qS_cl, qS_ast, qS_aop, qS_fst, qS_fop, qS_sw, qT_eC, qT_eCB, qT_eL, qT_eLJ, qT_eLR, qT_eLB, qT_e1, qT_e2, qT_bCmp, qT_bCmpJ, qT_bAnd, qT_bOr, qT_bNot, qT_eBI, qT_eIf, qT_eLd, qT_eLdR, qT_eLen, qT_eF, qT_eFR, qT_aN, qT_aS, qT_eCl, qT_eClR, qT_eClB, qT_some, qT_x, z_nx_N, z_nx_B, z_nx_R, z_nx_X, z_bk_N, z_bk_B, z_bk_R, z_bk_X, oAdd, oSub, oMul, oNeg, cLt, cLe, cGt, cGe, cEq, cNe, Option.some.injEq, Sum.inl.injEq, Sum.inr.injEq, Prod.mk.injEq, exists_eq_left, exists_eq_left', exists_eq_right, exists_and_left, reduceCtorEq, and_true, true_and, and_false, false_and, List.getElem?_cons_zero, List.getElem?_cons_succ, List.set_cons_zero, List.set_cons_succ, List.replicate, List.length_cons, List.length_nil, List.cons_append, List.nil_append, Nat.reduceAdd, Nat.reduceSub, decide_eq_true_eq, decide_eq_false_iff_not, Bool.true_eq_false, Bool.false_eq_true, true_implies, false_implies, implies_true, Nat.reduceLT, exists_const, z_vB_inj, and_assoc, z_in_iff, oI2L, oL2I, Int.toNat_natCast, z_toNat0, Bool.not_eq_true', Bool.not_eq_false', ne_eq, Bool.not_true, Bool.not_false, Nat.add_zero, Int.add_zero, z_sl_s]
    refine ⟨by omega, by omega, by omega, by omega, by omega, by omega, by omega, by omega, by omega, ?_⟩
    refine qS_for (fun v => [vR 8, vI (x : Int), vI ((k : Int) + 1), vI (v : Int)]) (fun v => h.set 16 (.inr (0, 5, z_up (nG B N x k) (k + 1) ((nNrV B (nNr B x k) v : Nat) : Int)))) (fun _ => True) 5 rfl rfl trivial (by omega) ?_ ?_
    · intro v hv _
      have a2 := a.setN (z_up (nG B N x k) (k + 1) ((nNrV B (nNr B x k) v : Nat) : Int))
      have b1 := nNr_b (B := B) hx k
      have b2 := nNrV_b (B := B) b1 v (by omega)
      have b3 := o_or ⟨_, b2⟩ ⟨v, hv⟩
      have b4 := o_shl ⟨v, by omega⟩
      simp only at b3 b4
      have e := s_ce a2 hB (s := ((nNr B x k : Nat) : Int)) ⟨by omega, by omega⟩ hv
      have e4 : z_up (nG B N x k) (k + 1) ((nNrV B (nNr B x k) v : Nat) : Int) k = ((nNr B x k : Nat) : Int) := by simp [z_up, nG]
      have e5 : z_up (nG B N x k) (k + 1) ((nNrV B (nNr B x k) v : Nat) : Int) (k + 1) = ((nNrV B (nNr B x k) v : Nat) : Int) := by simp [z_up]
      have b := nCe_b hB hv (s := ((nNr B x k : Nat) : Int)) 5 (by omega)
      have w : nNrV B (nNr B x k) (v + 1) = if 0 < nCe B v ((nNr B x k : Nat) : Int) 5 then nNrV B (nNr B x k) v ||| 2 ^ v else nNrV B (nNr B x k) v := rfl
      generalize nCe B v ((nNr B x k : Nat) : Int) 5 = X at b e w
      simp only [q_obj a2.1, q_arr a2.2.2.2.1 (by decide), e1, e2, e4, e5, e, b3.1, b4, es, qS_nop, qS_seq, qS_set, qS_setJ, qS_if, qS_brk, qS_ret, qS_retV, qS_throw, qS_inc, qS_cl, qS_ast, qS_aop, qS_fst, qS_fop, qS_sw, qT_eC, qT_eCB, qT_eL, qT_eLJ, qT_eLR, qT_eLB, qT_e1, qT_e2, qT_bCmp, qT_bCmpJ, qT_bAnd, qT_bOr, qT_bNot, qT_eBI, qT_eIf, qT_eLd, qT_eLdR, qT_eLen, qT_eF, qT_eFR, qT_aN, qT_aS, qT_eCl, qT_eClR, qT_eClB, qT_some, qT_x, z_nx_N, z_nx_B, z_nx_R, z_nx_X, z_bk_N, z_bk_B, z_bk_R, z_bk_X, oAdd, oSub, oMul, oNeg, cLt, cLe, cGt, cGe, cEq, cNe, Option.some.injEq, Sum.inl.injEq, Sum.inr.injEq, Prod.mk.injEq, exists_eq_left, exists_eq_left', exists_eq_right, exists_and_left, reduceCtorEq, and_true, true_and, and_false, false_and, List.getElem?_cons_zero, List.getElem?_cons_succ, List.set_cons_zero, List.set_cons_succ, List.replicate, List.length_cons, List.length_nil, List.cons_append, List.nil_append, Nat.reduceAdd, Nat.reduceSub, decide_eq_true_eq, decide_eq_false_iff_not, Bool.true_eq_false, Bool.false_eq_true, true_implies, false_implies, implies_true, Nat.reduceLT, exists_const, z_vB_inj, and_assoc, z_in_iff, oI2L, oL2I, Int.toNat_natCast, z_toNat0, Bool.not_eq_true', Bool.not_eq_false', ne_eq, Bool.not_true, Bool.not_false, Nat.add_zero, Int.add_zero, z_sl_s]
      refine ⟨by omega, by omega, by omega, by omega, by omega, by omega, by omega, by omega, by omega, by omega, by omega, fun q => ⟨by omega, by omega, by omega, rfl, ?_⟩, fun q => ⟨rfl, ?_⟩⟩
      · rw [w, if_pos q]
        congr 4
        funext i
        unfold z_up
        split <;> rfl
      · rw [w, if_neg q]
    · intro _
      simp only [qS_nop, qS_seq, qS_set, qS_setJ, qS_if, qS_brk, qS_ret, qS_retV, qS_throw, qS_inc, qS_cl, qS_ast, qS_aop, qS_fst, qS_fop, qS_sw, qT_eC, qT_eCB, qT_eL, qT_eLJ, qT_eLR, qT_eLB, qT_e1, qT_e2, qT_bCmp, qT_bCmpJ, qT_bAnd, qT_bOr, qT_bNot, qT_eBI, qT_eIf, qT_eLd, qT_eLdR, qT_eLen, qT_eF, qT_eFR, qT_aN, qT_aS, qT_eCl, qT_eClR, qT_eClB, qT_some, qT_x, z_nx_N, z_nx_B, z_nx_R, z_nx_X, z_bk_N, z_bk_B, z_bk_R, z_bk_X, oAdd, oSub, oMul, oNeg, cLt, cLe, cGt, cGe, cEq, cNe, Option.some.injEq, Sum.inl.injEq, Sum.inr.injEq, Prod.mk.injEq, exists_eq_left, exists_eq_left', exists_eq_right, exists_and_left, reduceCtorEq, and_true, true_and, and_false, false_and, List.getElem?_cons_zero, List.getElem?_cons_succ, List.set_cons_zero, List.set_cons_succ, List.replicate, List.length_cons, List.length_nil, List.cons_append, List.nil_append, Nat.reduceAdd, Nat.reduceSub, decide_eq_true_eq, decide_eq_false_iff_not, Bool.true_eq_false, Bool.false_eq_true, true_implies, false_implies, implies_true, Nat.reduceLT, exists_const, z_vB_inj, and_assoc, z_in_iff, oI2L, oL2I, Int.toNat_natCast, z_toNat0, Bool.not_eq_true', Bool.not_eq_false', ne_eq, Bool.not_true, Bool.not_false, Nat.add_zero, Int.add_zero, z_sl_s]
      refine ⟨by omega, by omega, by omega, by omega, by omega, rfl, ?_⟩
      congr 4
      funext i
      unfold z_up nG
      by_cases hi : i = k + 1
      · subst hi
        rw [if_pos rfl, if_pos (by omega)]
        rfl
      · rw [if_neg hi]
        by_cases h2 : i < k + 1
        · rw [if_pos h2, if_pos (by omega)]
        · rw [if_neg h2, if_neg (by omega)]
  · intro _
    simp only [qS_nop, qS_seq, qS_set, qS_setJ, qS_if, qS_brk, qS_ret, qS_retV, qS_throw, qS_inc, qS_cl, qS_ast, qS_aop, qS_fst, qS_fop, qS_sw, qT_eC, qT_eCB, qT_eL, qT_eLJ, qT_eLR, qT_eLB, qT_e1, qT_e2, qT_bCmp, qT_bCmpJ, qT_bAnd, qT_bOr, qT_bNot, qT_eBI, qT_eIf, qT_eLd, qT_eLdR, qT_eLen, qT_eF, qT_eFR, qT_aN, qT_aS, qT_eCl, qT_eClR, qT_eClB, qT_some, qT_x, z_nx_N, z_nx_B, z_nx_R, z_nx_X, z_bk_N, z_bk_B, z_bk_R, z_bk_X, oAdd, oSub, oMul, oNeg, cLt, cLe, cGt, cGe, cEq, cNe, Option.some.injEq, Sum.inl.injEq, Sum.inr.injEq, Prod.mk.injEq, exists_eq_left, exists_eq_left', exists_eq_right, exists_and_left, reduceCtorEq, and_true, true_and, and_false, false_and, List.getElem?_cons_zero, List.getElem?_cons_succ, List.set_cons_zero, List.set_cons_succ, List.replicate, List.length_cons, List.length_nil, List.cons_append, List.nil_append, Nat.reduceAdd, Nat.reduceSub, decide_eq_true_eq, decide_eq_false_iff_not, Bool.true_eq_false, Bool.false_eq_true, true_implies, false_implies, implies_true, Nat.reduceLT, exists_const, z_vB_inj, and_assoc, z_in_iff, oI2L, oL2I, Int.toNat_natCast, z_toNat0, Bool.not_eq_true', Bool.not_eq_false', ne_eq, Bool.not_true, Bool.not_false, Nat.add_zero, Int.add_zero, z_sl_s]
    omega
theorem s_connected (a : nAt h B C N P D) (hB : nBd B) : m_X3_isConnected [vR 8] h = some (.inl (some (vB (z_dec (∀ v, v < 5 → nHv B v → iB ((nNr B 0 4 : Nat) : Int) v)))), h.set 16 (.inr (0, 5, nG B N 0 4))) := by
  unfold m_X3_isConnected
  rw [q_vm a.1]
  apply q_body
  have e0 := s_spread a hB (x := 0) (by omega)
  have a' := a.setN (nG B N 0 4)
  have b0 := nNr_b (B := B) (x := 0) (by omega) 4
  have g4 : nG B N 0 4 4 = ((nNr B 0 4 : Nat) : Int) := rfl
  rw [Int.natCast_zero] at e0
  simp only [b_X3_isConnected, e0, qS_nop, qS_seq, qS_set, qS_setJ, qS_if, qS_brk, qS_ret, qS_retV, qS_throw, qS_inc, qS_cl, qS_ast, qS_aop, qS_fst, qS_fop, qS_sw, qT_eC, qT_eCB, qT_eL, qT_eLJ, qT_eLR, qT_eLB, qT_e1, qT_e2, qT_bCmp, qT_bCmpJ, qT_bAnd, qT_bOr, qT_bNot, qT_eBI, qT_eIf, qT_eLd, qT_eLdR, qT_eLen, qT_eF, qT_eFR, qT_aN, qT_aS, qT_eCl, qT_eClR, qT_eClB, qT_some, qT_x, z_nx_N, z_nx_B, z_nx_R, z_nx_X, z_bk_N, z_bk_B, z_bk_R, z_bk_X, oAdd, oSub, oMul, oNeg, cLt, cLe, cGt, cGe, cEq, cNe, Option.some.injEq, Sum.inl.injEq, Sum.inr.injEq, Prod.mk.injEq, exists_eq_left, exists_eq_left', exists_eq_right, exists_and_left, reduceCtorEq, and_true, true_and, and_false, false_and, List.getElem?_cons_zero, List.getElem?_cons_succ, List.set_cons_zero, List.set_cons_succ, List.replicate, List.length_cons, List.length_nil, List.cons_append, List.nil_append, Nat.reduceAdd, Nat.reduceSub, decide_eq_true_eq, decide_eq_false_iff_not, Bool.true_eq_false, Bool.false_eq_true, true_implies, false_implies, implies_true, Nat.reduceLT, exists_const, z_vB_inj, and_assoc, z_in_iff, oI2L, oL2I, Int.toNat_natCast, z_toNat0, Bool.not_eq_true', Bool.not_eq_false', ne_eq, Bool.not_true, Bool.not_false, Nat.add_zero, Int.add_zero, z_sl_s]
  generalize h.set 16 (.inr (0, 5, nG B N 0 4)) = h1 at a' ⊢
  generalize nNr B 0 4 = X at b0 g4 ⊢
  generalize nG B N 0 4 = G at a' g4
  refine qS_for (fun k => [vR 8, vI (k : Int)]) (fun _ => h1) (fun k => ∀ v, v < k → nHv B v → iB (X : Int) v) 5 rfl rfl (fun i hi => absurd hi (Nat.not_lt_zero i)) (by omega) ?_ ?_
  · intro k hk hP
    have e1 := s_hv a' hB hk
    have e2 := s_has a' (s := (X : Int)) ⟨by omega, by omega⟩ hk
    have e4 : (4 : Int).toNat = 4 := rfl
    simp only [e1, e2, q_obj a'.1, q_arr a'.2.2.2.1 (by decide), g4, e4, qS_nop, qS_seq, qS_set, qS_setJ, qS_if, qS_brk, qS_ret, qS_retV, qS_throw, qS_inc, qS_cl, qS_ast, qS_aop, qS_fst, qS_fop, qS_sw, qT_eC, qT_eCB, qT_eL, qT_eLJ, qT_eLR, qT_eLB, qT_e1, qT_e2, qT_bCmp, qT_bCmpJ, qT_bAnd, qT_bOr, qT_bNot, qT_eBI, qT_eIf, qT_eLd, qT_eLdR, qT_eLen, qT_eF, qT_eFR, qT_aN, qT_aS, qT_eCl, qT_eClR, qT_eClB, qT_some, qT_x, z_nx_N, z_nx_B, z_nx_R, z_nx_X, z_bk_N, z_bk_B, z_bk_R, z_bk_X, oAdd, oSub, oMul, oNeg, cLt, cLe, cGt, cGe, cEq, cNe, Option.some.injEq, Sum.inl.injEq, Sum.inr.injEq, Prod.mk.injEq, exists_eq_left, exists_eq_left', exists_eq_right, exists_and_left, reduceCtorEq, and_true, true_and, and_false, false_and, List.getElem?_cons_zero, List.getElem?_cons_succ, List.set_cons_zero, List.set_cons_succ, List.replicate, List.length_cons, List.length_nil, List.cons_append, List.nil_append, Nat.reduceAdd, Nat.reduceSub, decide_eq_true_eq, decide_eq_false_iff_not, Bool.true_eq_false, Bool.false_eq_true, true_implies, false_implies, implies_true, Nat.reduceLT, exists_const, z_vB_inj, and_assoc, z_in_iff, oI2L, oL2I, Int.toNat_natCast, z_toNat0, Bool.not_eq_true', Bool.not_eq_false', ne_eq, Bool.not_true, Bool.not_false, Nat.add_zero, Int.add_zero, z_sl_s]
    refine ⟨by omega, by omega, by omega, by omega, by omega, fun q => ⟨by omega, by omega, fun q2 => ?_, fun q2 => ⟨rfl, fun x hx => ?_⟩⟩, fun q => ⟨rfl, fun x hx => ?_⟩⟩
    · exact ((z_dec_f _).mpr (fun w => (z_dec_f _).mp q2 (w k hk ((z_dec_iff _).mp q)))).symm
    · rcases Nat.lt_succ_iff_lt_or_eq.mp hx with hx | rfl
      · exact hP x hx
      · exact fun _ => (z_dec_iff _).mp q2
    · rcases Nat.lt_succ_iff_lt_or_eq.mp hx with hx | rfl
      · exact hP x hx
      · exact fun w => absurd w ((z_dec_f _).mp q)
  · intro hP
    simp only [qS_nop, qS_seq, qS_set, qS_setJ, qS_if, qS_brk, qS_ret, qS_retV, qS_throw, qS_inc, qS_cl, qS_ast, qS_aop, qS_fst, qS_fop, qS_sw, qT_eC, qT_eCB, qT_eL, qT_eLJ, qT_eLR, qT_eLB, qT_e1, qT_e2, qT_bCmp, qT_bCmpJ, qT_bAnd, qT_bOr, qT_bNot, qT_eBI, qT_eIf, qT_eLd, qT_eLdR, qT_eLen, qT_eF, qT_eFR, qT_aN, qT_aS, qT_eCl, qT_eClR, qT_eClB, qT_some, qT_x, z_nx_N, z_nx_B, z_nx_R, z_nx_X, z_bk_N, z_bk_B, z_bk_R, z_bk_X, oAdd, oSub, oMul, oNeg, cLt, cLe, cGt, cGe, cEq, cNe, Option.some.injEq, Sum.inl.injEq, Sum.inr.injEq, Prod.mk.injEq, exists_eq_left, exists_eq_left', exists_eq_right, exists_and_left, reduceCtorEq, and_true, true_and, and_false, false_and, List.getElem?_cons_zero, List.getElem?_cons_succ, List.set_cons_zero, List.set_cons_succ, List.replicate, List.length_cons, List.length_nil, List.cons_append, List.nil_append, Nat.reduceAdd, Nat.reduceSub, decide_eq_true_eq, decide_eq_false_iff_not, Bool.true_eq_false, Bool.false_eq_true, true_implies, false_implies, implies_true, Nat.reduceLT, exists_const, z_vB_inj, and_assoc, z_in_iff, oI2L, oL2I, Int.toNat_natCast, z_toNat0, Bool.not_eq_true', Bool.not_eq_false', ne_eq, Bool.not_true, Bool.not_false, Nat.add_zero, Int.add_zero, z_sl_s]
    exact ⟨by omega, by omega, by omega, by omega, by omega, ((z_dec_iff _).mpr hP).symm⟩
theorem o_not : ∀ s : Fin 32, oXor (s.val : Int) (-1) = some (-(s.val : Int) - 1) := by decide
def nFi (B : Nat → Nat → Int) (V : Nat → Int) (s : Nat) (t : Int) (v : Nat) : Int := if iB (s : Int) v then V v - t * nCe B v (-(s : Int) - 1) 5 else V v + t * nCe B v (s : Int) 5
theorem s_fire (a : nAt h B C N P D) (hB : nBd B) {i : Nat} (hi : i < 5) {s : Nat} (hs : s < 32) (t : Int) : m_X3_fireSet [vR 8, vR (18 + i), vI (s : Int), vI t] h = some (.inl none, h.set (18 + i) (.inr (0, 5, fun v => if v < 5 then nFi B (P i) s t v else P i v))) := by
  unfold m_X3_fireSet
  rw [q_vm a.1]
  apply q_body
  have es : ∀ (g : Nat → Int) (x : z_Cl), (h.set (18 + i) (.inr (0, 5, g))).set (18 + i) x = h.set (18 + i) x := fun g x => List.set_set _
  have o := o_not ⟨s, hs⟩
  simp only at o
  simp only [b_X3_fireSet, qS_nop, qS_seq, qS_set, qS_setJ, qS_if, qS_brk, qS_ret, qS_retV, qS_throw, qS_inc, qS_cl, qS_ast, qS_aop, qS_fst, qS_fop, qS_sw, qT_eC, qT_eCB, qT_eL, qT_eLJ, qT_eLR, qT_eLB, qT_e1, qT_e2, qT_bCmp, qT_bCmpJ, qT_bAnd, qT_bOr, qT_bNot, qT_eBI, qT_eIf, qT_eLd, qT_eLdR, qT_eLen, qT_eF, qT_eFR, qT_aN, qT_aS, qT_eCl, qT_eClR, qT_eClB, qT_some, qT_x, z_nx_N, z_nx_B, z_nx_R, z_nx_X, z_bk_N, z_bk_B, z_bk_R, z_bk_X, oAdd, oSub, oMul, oNeg, cLt, cLe, cGt, cGe, cEq, cNe, Option.some.injEq, Sum.inl.injEq, Sum.inr.injEq, Prod.mk.injEq, exists_eq_left, exists_eq_left', exists_eq_right, exists_and_left, reduceCtorEq, and_true, true_and, and_false, false_and, List.getElem?_cons_zero, List.getElem?_cons_succ, List.set_cons_zero, List.set_cons_succ, List.replicate, List.length_cons, List.length_nil, List.cons_append, List.nil_append, Nat.reduceAdd, Nat.reduceSub, decide_eq_true_eq, decide_eq_false_iff_not, Bool.true_eq_false, Bool.false_eq_true, true_implies, false_implies, implies_true, Nat.reduceLT, exists_const, z_vB_inj, and_assoc, z_in_iff, oI2L, oL2I, Int.toNat_natCast, z_toNat0, Bool.not_eq_true', Bool.not_eq_false', ne_eq, Bool.not_true, Bool.not_false, Nat.add_zero, Int.add_zero, z_sl_s]
  refine qS_for (fun k => [vR 8, vR (18 + i), vI (s : Int), vI t, vI (k : Int)]) (fun k => h.set (18 + i) (.inr (0, 5, fun v => if v < k then nFi B (P i) s t v else P i v))) (fun _ => True) 5 rfl ?_ trivial (by omega) ?_ ?_
  · simp [z_set_id (a.pile hi)]
  · intro k hk _
    have a' := a.setP hi (fun v => if v < k then nFi B (P i) s t v else P i v)
    have es' := es (fun v => if v < k then nFi B (P i) s t v else P i v)
    have d := q_arr (a'.pile hi) (by decide)
    simp only [if_true] at d
    have e1 := s_has a' (s := (s : Int)) ⟨by omega, by omega⟩ hk
    have e2 := s_ce a' hB (s := (s : Int)) ⟨by omega, by omega⟩ hk
    have e3 := s_ce a' hB (s := -(s : Int) - 1) ⟨by omega, by omega⟩ hk
    have u := z_upto (P i) (nFi B (P i) s t) k
    have w : nFi B (P i) s t k = if iB (s : Int) k then P i k - t * nCe B k (-(s : Int) - 1) 5 else P i k + t * nCe B k (s : Int) 5 := rfl
    generalize h.set (18 + i) (.inr (0, 5, fun v => if v < k then nFi B (P i) s t v else P i v)) = h1 at a' es' d e1 e2 e3 ⊢
    generalize nCe B k (-(s : Int) - 1) 5 = X at e3 w
    generalize nCe B k (s : Int) 5 = Y at e2 w
    have ek : (if k < k then nFi B (P i) s t k else P i k) = P i k := by simp
    simp only [e1, o, e2, e3, d, ek, es', qS_nop, qS_seq, qS_set, qS_setJ, qS_if, qS_brk, qS_ret, qS_retV, qS_throw, qS_inc, qS_cl, qS_ast, qS_aop, qS_fst, qS_fop, qS_sw, qT_eC, qT_eCB, qT_eL, qT_eLJ, qT_eLR, qT_eLB, qT_e1, qT_e2, qT_bCmp, qT_bCmpJ, qT_bAnd, qT_bOr, qT_bNot, qT_eBI, qT_eIf, qT_eLd, qT_eLdR, qT_eLen, qT_eF, qT_eFR, qT_aN, qT_aS, qT_eCl, qT_eClR, qT_eClB, qT_some, qT_x, z_nx_N, z_nx_B, z_nx_R, z_nx_X, z_bk_N, z_bk_B, z_bk_R, z_bk_X, oAdd, oSub, oMul, oNeg, cLt, cLe, cGt, cGe, cEq, cNe, Option.some.injEq, Sum.inl.injEq, Sum.inr.injEq, Prod.mk.injEq, exists_eq_left, exists_eq_left', exists_eq_right, exists_and_left, reduceCtorEq, and_true, true_and, and_false, false_and, List.getElem?_cons_zero, List.getElem?_cons_succ, List.set_cons_zero, List.set_cons_succ, List.replicate, List.length_cons, List.length_nil, List.cons_append, List.nil_append, Nat.reduceAdd, Nat.reduceSub, decide_eq_true_eq, decide_eq_false_iff_not, Bool.true_eq_false, Bool.false_eq_true, true_implies, false_implies, implies_true, Nat.reduceLT, exists_const, z_vB_inj, and_assoc, z_in_iff, oI2L, oL2I, Int.toNat_natCast, z_toNat0, Bool.not_eq_true', Bool.not_eq_false', ne_eq, Bool.not_true, Bool.not_false, Nat.add_zero, Int.add_zero, z_sl_s]
    refine ⟨by omega, by omega, by omega, by omega, by omega, fun q => ⟨by omega, by omega, by omega, rfl, ?_⟩, fun q => ⟨by omega, by omega, by omega, rfl, ?_⟩⟩
    · rw [← u, w, if_pos ((z_dec_iff _).mp q)]
    · rw [← u, w, if_neg ((z_dec_f _).mp q)]
  · intro _
    simp only [qS_nop, qS_seq, qS_set, qS_setJ, qS_if, qS_brk, qS_ret, qS_retV, qS_throw, qS_inc, qS_cl, qS_ast, qS_aop, qS_fst, qS_fop, qS_sw, qT_eC, qT_eCB, qT_eL, qT_eLJ, qT_eLR, qT_eLB, qT_e1, qT_e2, qT_bCmp, qT_bCmpJ, qT_bAnd, qT_bOr, qT_bNot, qT_eBI, qT_eIf, qT_eLd, qT_eLdR, qT_eLen, qT_eF, qT_eFR, qT_aN, qT_aS, qT_eCl, qT_eClR, qT_eClB, qT_some, qT_x, z_nx_N, z_nx_B, z_nx_R, z_nx_X, z_bk_N, z_bk_B, z_bk_R, z_bk_X, oAdd, oSub, oMul, oNeg, cLt, cLe, cGt, cGe, cEq, cNe, Option.some.injEq, Sum.inl.injEq, Sum.inr.injEq, Prod.mk.injEq, exists_eq_left, exists_eq_left', exists_eq_right, exists_and_left, reduceCtorEq, and_true, true_and, and_false, false_and, List.getElem?_cons_zero, List.getElem?_cons_succ, List.set_cons_zero, List.set_cons_succ, List.replicate, List.length_cons, List.length_nil, List.cons_append, List.nil_append, Nat.reduceAdd, Nat.reduceSub, decide_eq_true_eq, decide_eq_false_iff_not, Bool.true_eq_false, Bool.false_eq_true, true_implies, false_implies, implies_true, Nat.reduceLT, exists_const, z_vB_inj, and_assoc, z_in_iff, oI2L, oL2I, Int.toNat_natCast, z_toNat0, Bool.not_eq_true', Bool.not_eq_false', ne_eq, Bool.not_true, Bool.not_false, Nat.add_zero, Int.add_zero, z_sl_s]
    omega
/-- how often a set may fire -/
def nTm (B : Nat → Nat → Int) (V : Nat → Int) (s : Nat) : Nat → Int
  | 0 => 1000000
  | v + 1 => if iB (s : Int) v ∧ 0 < nCe B v (-(s : Int) - 1) 5 then (if (V v).tdiv (nCe B v (-(s : Int) - 1) 5) < nTm B V s v then (V v).tdiv (nCe B v (-(s : Int) - 1) 5) else nTm B V s v) else nTm B V s v
theorem nTm_b {V : Nat → Int} (hV : nVb V 1000000000) {s : Nat} : ∀ v, v ≤ 5 → -1000000000 ≤ nTm B V s v ∧ nTm B V s v ≤ 1000000
  | 0, _ => by simp [nTm]
  | v + 1, hv => by
    have := nTm_b hV (s := s) v (by omega)
    have b := hV v (by omega)
    unfold nTm
    split
    case isTrue q =>
      have d := z_tdiv_b (A := V v) (b := 1000000000) b q.2
      split <;> omega
    case isFalse => exact this
theorem s_times (a : nAt h B C N P D) (hB : nBd B) {i : Nat} (hi : i < 5) {s : Nat} (hs : s < 32) (hV : nVb (P i) 1000000000) : m_X3_timesThatCanFire [vR 8, vR (18 + i), vI (s : Int)] h = some (.inl (some (vI (nTm B (P i) s 5))), h) := by
  unfold m_X3_timesThatCanFire
  rw [q_vm a.1]
  apply q_body
  have o := o_not ⟨s, hs⟩
  simp only at o
  simp only [b_X3_timesThatCanFire, qS_nop, qS_seq, qS_set, qS_setJ, qS_if, qS_brk, qS_ret, qS_retV, qS_throw, qS_inc, qS_cl, qS_ast, qS_aop, qS_fst, qS_fop, qS_sw, qT_eC, qT_eCB, qT_eL, qT_eLJ, qT_eLR, qT_eLB, qT_e1, qT_e2, qT_bCmp, qT_bCmpJ, qT_bAnd, qT_bOr, qT_bNot, qT_eBI, qT_eIf, qT_eLd, qT_eLdR, qT_eLen, qT_eF, qT_eFR, qT_aN, qT_aS, qT_eCl, qT_eClR, qT_eClB, qT_some, qT_x, z_nx_N, z_nx_B, z_nx_R, z_nx_X, z_bk_N, z_bk_B, z_bk_R, z_bk_X, oAdd, oSub, oMul, oNeg, cLt, cLe, cGt, cGe, cEq, cNe, Option.some.injEq, Sum.inl.injEq, Sum.inr.injEq, Prod.mk.injEq, exists_eq_left, exists_eq_left', exists_eq_right, exists_and_left, reduceCtorEq, and_true, true_and, and_false, false_and, List.getElem?_cons_zero, List.getElem?_cons_succ, List.set_cons_zero, List.set_cons_succ, List.replicate, List.length_cons, List.length_nil, List.cons_append, List.nil_append, Nat.reduceAdd, Nat.reduceSub, decide_eq_true_eq, decide_eq_false_iff_not, Bool.true_eq_false, Bool.false_eq_true, true_implies, false_implies, implies_true, Nat.reduceLT, exists_const, z_vB_inj, and_assoc, z_in_iff, oI2L, oL2I, Int.toNat_natCast, z_toNat0, Bool.not_eq_true', Bool.not_eq_false', ne_eq, Bool.not_true, Bool.not_false, Nat.add_zero, Int.add_zero, z_sl_s]
  refine qS_loop (fun k ρ h' => h' = h ∧ ∃ z, ρ = [vR 8, vR (18 + i), vI (s : Int), vI (nTm B (P i) s k), vI (k : Int), z]) 5 ?_ ?_ 5 0 z_fuel _ _ (by omega) (z_fuel_lt (by omega)) ⟨rfl, _, rfl⟩
  · rintro k ρ h' hk ⟨rfl, z, rfl⟩
    have d := q_arr (a.pile hi) (by decide)
    have e1 := s_has a (s := (s : Int)) ⟨by omega, by omega⟩ hk
    have e3 := s_ce a hB (s := -(s : Int) - 1) ⟨by omega, by omega⟩ hk
    have b3 := nCe_b hB hk (s := -(s : Int) - 1) 5 (by omega)
    have bt := nTm_b (B := B) hV (s := s) k (by omega)
    have bv := hV k hk
    have w : nTm B (P i) s (k + 1) = if iB (s : Int) k ∧ 0 < nCe B k (-(s : Int) - 1) 5 then (if (P i k).tdiv (nCe B k (-(s : Int) - 1) 5) < nTm B (P i) s k then (P i k).tdiv (nCe B k (-(s : Int) - 1) 5) else nTm B (P i) s k) else nTm B (P i) s k := rfl
    generalize nCe B k (-(s : Int) - 1) 5 = X at e3 b3 w
    generalize nTm B (P i) s k = T at bt w ⊢
    simp only [e1, o, e3, d, qS_nop, qS_seq, qS_set, qS_setJ, qS_if, qS_brk, qS_ret, qS_retV, qS_throw, qS_inc, qS_cl, qS_ast, qS_aop, qS_fst, qS_fop, qS_sw, qT_eC, qT_eCB, qT_eL, qT_eLJ, qT_eLR, qT_eLB, qT_e1, qT_e2, qT_bCmp, qT_bCmpJ, qT_bAnd, qT_bOr, qT_bNot, qT_eBI, qT_eIf, qT_eLd, qT_eLdR, qT_eLen, qT_eF, qT_eFR, qT_aN, qT_aS, qT_eCl, qT_eClR, qT_eClB, qT_some, qT_x, z_nx_N, z_nx_B, z_nx_R, z_nx_X, z_bk_N, z_bk_B, z_bk_R, z_bk_X, oAdd, oSub, oMul, oNeg, cLt, cLe, cGt, cGe, cEq, cNe, Option.some.injEq, Sum.inl.injEq, Sum.inr.injEq, Prod.mk.injEq, exists_eq_left, exists_eq_left', exists_eq_right, exists_and_left, reduceCtorEq, and_true, true_and, and_false, false_and, List.getElem?_cons_zero, List.getElem?_cons_succ, List.set_cons_zero, List.set_cons_succ, List.replicate, List.length_cons, List.length_nil, List.cons_append, List.nil_append, Nat.reduceAdd, Nat.reduceSub, decide_eq_true_eq, decide_eq_false_iff_not, Bool.true_eq_false, Bool.false_eq_true, true_implies, false_implies, implies_true, Nat.reduceLT, exists_const, z_vB_inj, and_assoc, z_in_iff, oI2L, oL2I, Int.toNat_natCast, z_toNat0, Bool.not_eq_true', Bool.not_eq_false', ne_eq, Bool.not_true, Bool.not_false, Nat.add_zero, Int.add_zero, z_sl_s]
    refine ⟨by omega, by omega, by omega, by omega, by omega, fun q => ⟨by omega, by omega, by omega, by omega, fun q2 => ?_, fun q2 => ?_⟩, fun q => ?_⟩
    · have dv : oDiv (P i k) X = some ((P i k).tdiv X) := by
        unfold oDiv
        rw [if_pos]
        simp only [Bool.and_eq_true, z_in_iff, decide_eq_true_eq]
        omega
      have db := z_tdiv_b (A := P i k) (b := 1000000000) bv q2
      have em := s_min (x := T) (y := (P i k).tdiv X) (h := h') ⟨by omega, by omega⟩ ⟨by omega, by omega⟩
      simp only [dv, em, qS_nop, qS_seq, qS_set, qS_setJ, qS_if, qS_brk, qS_ret, qS_retV, qS_throw, qS_inc, qS_cl, qS_ast, qS_aop, qS_fst, qS_fop, qS_sw, qT_eC, qT_eCB, qT_eL, qT_eLJ, qT_eLR, qT_eLB, qT_e1, qT_e2, qT_bCmp, qT_bCmpJ, qT_bAnd, qT_bOr, qT_bNot, qT_eBI, qT_eIf, qT_eLd, qT_eLdR, qT_eLen, qT_eF, qT_eFR, qT_aN, qT_aS, qT_eCl, qT_eClR, qT_eClB, qT_some, qT_x, z_nx_N, z_nx_B, z_nx_R, z_nx_X, z_bk_N, z_bk_B, z_bk_R, z_bk_X, oAdd, oSub, oMul, oNeg, cLt, cLe, cGt, cGe, cEq, cNe, Option.some.injEq, Sum.inl.injEq, Sum.inr.injEq, Prod.mk.injEq, exists_eq_left, exists_eq_left', exists_eq_right, exists_and_left, reduceCtorEq, and_true, true_and, and_false, false_and, List.getElem?_cons_zero, List.getElem?_cons_succ, List.set_cons_zero, List.set_cons_succ, List.replicate, List.length_cons, List.length_nil, List.cons_append, List.nil_append, Nat.reduceAdd, Nat.reduceSub, decide_eq_true_eq, decide_eq_false_iff_not, Bool.true_eq_false, Bool.false_eq_true, true_implies, false_implies, implies_true, Nat.reduceLT, exists_const, z_vB_inj, and_assoc, z_in_iff, oI2L, oL2I, Int.toNat_natCast, z_toNat0, Bool.not_eq_true', Bool.not_eq_false', ne_eq, Bool.not_true, Bool.not_false, Nat.add_zero, Int.add_zero, z_sl_s]
      refine ⟨by omega, by omega, vI X, ?_⟩
      rw [w, if_pos (show iB (s : Int) k ∧ 0 < X from ⟨(z_dec_iff _).mp q, q2⟩)]
      rfl
    · refine ⟨vI X, ?_⟩
      rw [w, if_neg (fun u => q2 u.2)]
      rfl
    · refine ⟨vI X, ?_⟩
      rw [w, if_neg (fun u => (z_dec_f _).mp q u.1)]
      rfl
  · rintro ρ h' ⟨rfl, z, rfl⟩
    generalize nTm B (P i) s 5 = X
    simp only [qS_nop, qS_seq, qS_set, qS_setJ, qS_if, qS_brk, qS_ret, qS_retV, qS_throw, qS_inc, qS_cl, qS_ast, qS_aop, qS_fst, qS_fop, qS_sw, qT_eC, qT_eCB, qT_eL, qT_eLJ, qT_eLR, qT_eLB, qT_e1, qT_e2, qT_bCmp, qT_bCmpJ, qT_bAnd, qT_bOr, qT_bNot, qT_eBI, qT_eIf, qT_eLd, qT_eLdR, qT_eLen, qT_eF, qT_eFR, qT_aN, qT_aS, qT_eCl, qT_eClR, qT_eClB, qT_some, qT_x, z_nx_N, z_nx_B, z_nx_R, z_nx_X, z_bk_N, z_bk_B, z_bk_R, z_bk_X, oAdd, oSub, oMul, oNeg, cLt, cLe, cGt, cGe, cEq, cNe, Option.some.injEq, Sum.inl.injEq, Sum.inr.injEq, Prod.mk.injEq, exists_eq_left, exists_eq_left', exists_eq_right, exists_and_left, reduceCtorEq, and_true, true_and, and_false, false_and, List.getElem?_cons_zero, List.getElem?_cons_succ, List.set_cons_zero, List.set_cons_succ, List.replicate, List.length_cons, List.length_nil, List.cons_append, List.nil_append, Nat.reduceAdd, Nat.reduceSub, decide_eq_true_eq, decide_eq_false_iff_not, Bool.true_eq_false, Bool.false_eq_true, true_implies, false_implies, implies_true, Nat.reduceLT, exists_const, z_vB_inj, and_assoc, z_in_iff, oI2L, oL2I, Int.toNat_natCast, z_toNat0, Bool.not_eq_true', Bool.not_eq_false', ne_eq, Bool.not_true, Bool.not_false, Nat.add_zero, Int.add_zero, z_sl_s]
    omega
end NS
