/-! THE FACE: what holds between the class's cells and the reference's; what a call of both must come to -/
def kIO : String := "java/lang/IndexOutOfBoundsException"
def kIA : String := "java/lang/IllegalArgumentException"
def kIS : String := "java/lang/IllegalStateException"
/-- polynomials; matrices; vectors; the graph; the drafts -/
def kI1 (S : Nat → Nat → Int) : Prop := ∀ i, i < 4 → pOk (S (50 + 9 * i)) ∧ ∀ k, k < 9 → S 86 (9 * i + k) = S (50 + 9 * i) k
def kI2 (S : Nat → Nat → Int) : Prop := ∀ i, i < 4 → ∃ n : Nat, 1 ≤ n ∧ n ≤ 5 ∧ S (51 + 9 * i) 0 = (n : Int) ∧ S 89 i = (n : Int) ∧ mBd (kF S (53 + 9 * i) 5) 1000000000 ∧ (∀ x y, x < n → y < n → rM S i x y = S (53 + 9 * i + x) y ∧ (rM S i x y = INF ∨ (-99999 ≤ rM S i x y ∧ rM S i x y ≤ 99999))) ∧ (∀ x y, x < 5 → y < 5 → ¬ (x < n ∧ y < n) → rM S i x y = INF)
def kI3 (S : Nat → Nat → Int) : Prop := ∀ i, i < 4 → ∀ k, k < 5 → rV S i k = S (4 + i) k ∧ (rV S i k = INF ∨ (-99999 ≤ rV S i k ∧ rV S i k ≤ 99999))
def kI4 (S : Nat → Nat → Int) : Prop := gOk (kF S 10 5) ∧ (∀ i j, i < 5 → j < 5 → rE S i j = S (10 + i) j) ∧ ∀ v, v < 5 → S 99 v = S 15 v ∧ -99 ≤ S 15 v ∧ S 15 v ≤ 99
def kI5 (S : Nat → Nat → Int) : Prop := (∃ n : Nat, n ≤ 5 ∧ S 30 0 = (n : Int)) ∧ (∃ n : Nat, n ≤ 5 ∧ S 37 0 = (n : Int)) ∧ mBd (kF S 32 5) 1000000000 ∧ mBd (kF S 39 5) 1000000000
def kInv (S : Nat → Nat → Int) : Prop := kI1 S ∧ kI2 S ∧ kI3 S ∧ kI4 S ∧ kI5 S
/-- one call of both: the class's outcome is the reference's -/
def kOp (m5 m6 : z_Mt) (E1 E2 : String) (args : List z_V) (S : Nat → Nat → Int) : Prop := ∃ oc S1, m5 (vR 0 :: args) (k_W S) = some (oc, k_W S1) ∧ ∀ g, ∃ r S2, m6 (vR 85 :: args) (k_W (k_u S1 103 g)) = some (.inl (some r), k_W S2) ∧ kInv S2 ∧ S2 103 = g ∧ ((oc = .inl (some r) ∧ S2 85 1 = 0) ∨ (oc = .inr E1 ∧ S2 85 1 = 1) ∨ (E2 ≠ "" ∧ oc = .inr E2 ∧ S2 85 1 = 2))
/-- cells that the state of both does not lie in -/
def kFree (a : Nat) : Prop := a = 16 ∨ (18 ≤ a ∧ a ≤ 22) ∨ (24 ≤ a ∧ a ≤ 27) ∨ a = 29 ∨ a = 44 ∨ a = 45 ∨ a = 47 ∨ a = 48 ∨ a = 85 ∨ a = 87 ∨ a = 88 ∨ (91 ≤ a ∧ a ≤ 93) ∨ (95 ≤ a ∧ a ≤ 97) ∨ (100 ≤ a ∧ a ≤ 103)
theorem kI1.eq {S S' : Nat → Nat → Int} (h : kI1 S) (e1 : ∀ i, i < 4 → S' (50 + 9 * i) = S (50 + 9 * i)) (e2 : S' 86 = S 86) : kI1 S' := fun i hi => by
  rw [e1 i hi, e2]
  exact h i hi
theorem kI2.eq {S S' : Nat → Nat → Int} (h : kI2 S) (e2 : ∀ i, i < 4 → S' (51 + 9 * i) = S (51 + 9 * i)) (e3 : ∀ i x, i < 4 → x < 5 → S' (53 + 9 * i + x) = S (53 + 9 * i + x)) (e89 : S' 89 = S 89) (e90 : S' 90 = S 90) : kI2 S' := fun i hi => by
  have eM : rM S' i = rM S i := by unfold rM; rw [e90]
  have eF : kF S' (53 + 9 * i) 5 = kF S (53 + 9 * i) 5 := by
    funext x
    unfold kF
    split
    · next hx => rw [e3 i x hi hx]
    · rfl
  rw [e2 i hi, e89, eM, eF]
  obtain ⟨n, a1, a2, a3, a4, a5, a6, a7⟩ := h i hi
  exact ⟨n, a1, a2, a3, a4, a5, fun x y hx hy => by rw [e3 i x hi (by omega)]; exact a6 x y hx hy, a7⟩
theorem kI3.eq {S S' : Nat → Nat → Int} (h : kI3 S) (e1 : ∀ i, i < 4 → S' (4 + i) = S (4 + i)) (e2 : S' 94 = S 94) : kI3 S' := fun i hi => by
  have eV : rV S' i = rV S i := by unfold rV; rw [e2]
  rw [eV, e1 i hi]
  exact h i hi
theorem kF_e {S S' : Nat → Nat → Int} {a n : Nat} (h : ∀ x, x < n → S' (a + x) = S (a + x)) : kF S' a n = kF S a n := by
  funext x
  unfold kF
  split
  · next hx => rw [h x hx]
  · rfl
theorem kI4.eq {S S' : Nat → Nat → Int} (h : kI4 S) (e1 : ∀ i, i < 5 → S' (10 + i) = S (10 + i)) (e2 : S' 98 = S 98) (e3 : S' 15 = S 15) (e4 : S' 99 = S 99) : kI4 S' := by
  have eE : rE S' = rE S := by unfold rE; rw [e2]
  unfold kI4
  rw [kF_e e1, eE, e3, e4]
  refine ⟨h.1, fun i j hi hj => ?_, h.2.2⟩
  rw [e1 i hi]
  exact h.2.1 i j hi hj
theorem kI5.eq {S S' : Nat → Nat → Int} (h : kI5 S) (e1 : S' 30 = S 30) (e2 : S' 37 = S 37) (e3 : ∀ x, x < 5 → S' (32 + x) = S (32 + x)) (e4 : ∀ x, x < 5 → S' (39 + x) = S (39 + x)) : kI5 S' := by
  unfold kI5
  rw [e1, e2, kF_e e3, kF_e e4]
  exact h
theorem kInv.eq {S S' : Nat → Nat → Int} (h : kInv S) (e : ∀ a, ¬ kFree a → S' a = S a) : kInv S' :=
  ⟨h.1.eq (fun i hi => e _ (by unfold kFree; omega)) (e _ (by unfold kFree; omega)), h.2.1.eq (fun i hi => e _ (by unfold kFree; omega)) (fun i x hi hx => e _ (by unfold kFree; omega)) (e _ (by unfold kFree; omega)) (e _ (by unfold kFree; omega)), h.2.2.1.eq (fun i hi => e _ (by unfold kFree; omega)) (e _ (by unfold kFree; omega)), h.2.2.2.1.eq (fun i hi => e _ (by unfold kFree; omega)) (e _ (by unfold kFree; omega)) (e _ (by unfold kFree; omega)) (e _ (by unfold kFree; omega)), h.2.2.2.2.eq (e _ (by unfold kFree; omega)) (e _ (by unfold kFree; omega)) (fun x hx => e _ (by unfold kFree; omega)) (fun x hx => e _ (by unfold kFree; omega))⟩
/-- a polynomial is set in both -/
theorem kInv.p {S S' : Nat → Nat → Int} (h : kInv S) {i : Nat} (hi : i < 4) {f : Nat → Int} (hf : pOk f) (e1 : S' (50 + 9 * i) = f) (e2 : ∀ k, k < 9 → S' 86 (9 * i + k) = f k) (e3 : ∀ x, ¬ (9 * i ≤ x ∧ x < 9 * i + 9) → S' 86 x = S 86 x) (e : ∀ a, ¬ kFree a → a ≠ 50 + 9 * i → a ≠ 86 → S' a = S a) : kInv S' := by
  have o : kInv (k_u (k_u S' (50 + 9 * i) (S (50 + 9 * i))) 86 (S 86)) := h.eq (fun a ha => by
    by_cases c : a = 86
    · subst c; rw [k_u_s]
    · rw [k_u_n c]
      by_cases d : a = 50 + 9 * i
      · subst d; rw [k_u_s]
      · rw [k_u_n d, e a ha d c])
  have t : ∀ a, a ≠ 50 + 9 * i → a ≠ 86 → S' a = k_u (k_u S' (50 + 9 * i) (S (50 + 9 * i))) 86 (S 86) a := fun a h1 h2 => by rw [k_u_n h2, k_u_n h1]
  refine ⟨fun j hj => ?_, o.2.1.eq (fun i hi => t _ (by omega) (by omega)) (fun i x hi hx => t _ (by omega) (by omega)) (t _ (by omega) (by omega)) (t _ (by omega) (by omega)), o.2.2.1.eq (fun i hi => t _ (by omega) (by omega)) (t _ (by omega) (by omega)), o.2.2.2.1.eq (fun i hi => t _ (by omega) (by omega)) (t _ (by omega) (by omega)) (t _ (by omega) (by omega)) (t _ (by omega) (by omega)), o.2.2.2.2.eq (t _ (by omega) (by omega)) (t _ (by omega) (by omega)) (fun x hx => t _ (by omega) (by omega)) (fun x hx => t _ (by omega) (by omega))⟩
  by_cases c : j = i
  · subst c
    rw [e1]
    exact ⟨hf, e2⟩
  · rw [e _ (by unfold kFree; omega) (by omega) (by omega)]
    refine ⟨(h.1 j hj).1, fun k hk => ?_⟩
    rw [e3 _ (by omega)]
    exact (h.1 j hj).2 k hk
section FA
variable {h : z_Hp}
theorem s_needIndex {i c : Int} (hi : -2147483648 ≤ i ∧ i < 2147483648) (hc : -2147483648 ≤ c ∧ c < 2147483648) : m_X5_needIndex [vI i, vI c] h = some (if 0 ≤ i ∧ i < c then .inl none else .inr kIO, h) := by
  unfold m_X5_needIndex
  by_cases p : 0 ≤ i ∧ i < c
  · rw [if_pos p]
    apply q_body
    have b6 : INF = 1000000 := rfl
    simp only [b_X5_needIndex, kIO, qS_nop, qS_seq, qS_set, qS_setJ, qS_if, qS_brk, qS_ret, qS_retV, qS_throw, qS_inc, qS_cl, qS_ast, qS_aop, qS_fst, qS_fop, qS_sw, qT_eC, qT_eCB, qT_eL, qT_eLJ, qT_eLR, qT_eLB, qT_e1, qT_e2, qT_bCmp, qT_bCmpJ, qT_bAnd, qT_bOr, qT_bNot, qT_eBI, qT_eIf, qT_eLd, qT_eLdR, qT_eLen, qT_eF, qT_eFR, qT_aN, qT_aS, qT_eCl, qT_eClR, qT_eClB, qT_some, qT_x, z_nx_N, z_nx_B, z_nx_R, z_nx_X, z_bk_N, z_bk_B, z_bk_R, z_bk_X, oAdd, oSub, oMul, oNeg, cLt, cLe, cGt, cGe, cEq, cNe, Option.some.injEq, Sum.inl.injEq, Sum.inr.injEq, Prod.mk.injEq, exists_eq_left, exists_eq_left', exists_eq_right, exists_and_left, reduceCtorEq, and_true, true_and, and_false, false_and, List.getElem?_cons_zero, List.getElem?_cons_succ, List.set_cons_zero, List.set_cons_succ, List.replicate, List.length_cons, List.length_nil, List.cons_append, List.nil_append, Nat.reduceAdd, Nat.reduceSub, decide_eq_true_eq, decide_eq_false_iff_not, Bool.true_eq_false, Bool.false_eq_true, true_implies, false_implies, implies_true, Nat.reduceLT, exists_const, z_vB_inj, and_assoc, z_in_iff, oI2L, oL2I, Int.toNat_natCast, z_toNat0, Bool.not_eq_true', Bool.not_eq_false', ne_eq, Bool.not_true, Bool.not_false, Nat.add_zero, Int.add_zero, z_sl_s]
    omega
  · rw [if_neg p]
    apply q_body
    have b6 : INF = 1000000 := rfl
    simp only [b_X5_needIndex, kIO, qS_nop, qS_seq, qS_set, qS_setJ, qS_if, qS_brk, qS_ret, qS_retV, qS_throw, qS_inc, qS_cl, qS_ast, qS_aop, qS_fst, qS_fop, qS_sw, qT_eC, qT_eCB, qT_eL, qT_eLJ, qT_eLR, qT_eLB, qT_e1, qT_e2, qT_bCmp, qT_bCmpJ, qT_bAnd, qT_bOr, qT_bNot, qT_eBI, qT_eIf, qT_eLd, qT_eLdR, qT_eLen, qT_eF, qT_eFR, qT_aN, qT_aS, qT_eCl, qT_eClR, qT_eClB, qT_some, qT_x, z_nx_N, z_nx_B, z_nx_R, z_nx_X, z_bk_N, z_bk_B, z_bk_R, z_bk_X, oAdd, oSub, oMul, oNeg, cLt, cLe, cGt, cGe, cEq, cNe, Option.some.injEq, Sum.inl.injEq, Sum.inr.injEq, Prod.mk.injEq, exists_eq_left, exists_eq_left', exists_eq_right, exists_and_left, reduceCtorEq, and_true, true_and, and_false, false_and, List.getElem?_cons_zero, List.getElem?_cons_succ, List.set_cons_zero, List.set_cons_succ, List.replicate, List.length_cons, List.length_nil, List.cons_append, List.nil_append, Nat.reduceAdd, Nat.reduceSub, decide_eq_true_eq, decide_eq_false_iff_not, Bool.true_eq_false, Bool.false_eq_true, true_implies, false_implies, implies_true, Nat.reduceLT, exists_const, z_vB_inj, and_assoc, z_in_iff, oI2L, oL2I, Int.toNat_natCast, z_toNat0, Bool.not_eq_true', Bool.not_eq_false', ne_eq, Bool.not_true, Bool.not_false, Nat.add_zero, Int.add_zero, z_sl_s]
    omega
theorem s_needHeld {i : Int} (hi : -2147483648 ≤ i ∧ i < 2147483648) : m_X5_needHeld [vI i] h = some (if 0 ≤ i ∧ i ≤ 3 then .inl none else .inr kIO, h) := by
  have e := s_needIndex (h := h) (i := i) (c := 4) hi (by decide)
  unfold m_X5_needHeld
  by_cases p : 0 ≤ i ∧ i < 4
  · rw [if_pos p] at e
    rw [if_pos (by omega)]
    apply q_body
    have b6 : INF = 1000000 := rfl
    simp only [b_X5_needHeld, e, qS_nop, qS_seq, qS_set, qS_setJ, qS_if, qS_brk, qS_ret, qS_retV, qS_throw, qS_inc, qS_cl, qS_ast, qS_aop, qS_fst, qS_fop, qS_sw, qT_eC, qT_eCB, qT_eL, qT_eLJ, qT_eLR, qT_eLB, qT_e1, qT_e2, qT_bCmp, qT_bCmpJ, qT_bAnd, qT_bOr, qT_bNot, qT_eBI, qT_eIf, qT_eLd, qT_eLdR, qT_eLen, qT_eF, qT_eFR, qT_aN, qT_aS, qT_eCl, qT_eClR, qT_eClB, qT_some, qT_x, z_nx_N, z_nx_B, z_nx_R, z_nx_X, z_bk_N, z_bk_B, z_bk_R, z_bk_X, oAdd, oSub, oMul, oNeg, cLt, cLe, cGt, cGe, cEq, cNe, Option.some.injEq, Sum.inl.injEq, Sum.inr.injEq, Prod.mk.injEq, exists_eq_left, exists_eq_left', exists_eq_right, exists_and_left, reduceCtorEq, and_true, true_and, and_false, false_and, List.getElem?_cons_zero, List.getElem?_cons_succ, List.set_cons_zero, List.set_cons_succ, List.replicate, List.length_cons, List.length_nil, List.cons_append, List.nil_append, Nat.reduceAdd, Nat.reduceSub, decide_eq_true_eq, decide_eq_false_iff_not, Bool.true_eq_false, Bool.false_eq_true, true_implies, false_implies, implies_true, Nat.reduceLT, exists_const, z_vB_inj, and_assoc, z_in_iff, oI2L, oL2I, Int.toNat_natCast, z_toNat0, Bool.not_eq_true', Bool.not_eq_false', ne_eq, Bool.not_true, Bool.not_false, Nat.add_zero, Int.add_zero, z_sl_s]
  · rw [if_neg p] at e
    rw [if_neg (by omega)]
    apply q_body
    have b6 : INF = 1000000 := rfl
    simp only [b_X5_needHeld, e, qS_nop, qS_seq, qS_set, qS_setJ, qS_if, qS_brk, qS_ret, qS_retV, qS_throw, qS_inc, qS_cl, qS_ast, qS_aop, qS_fst, qS_fop, qS_sw, qT_eC, qT_eCB, qT_eL, qT_eLJ, qT_eLR, qT_eLB, qT_e1, qT_e2, qT_bCmp, qT_bCmpJ, qT_bAnd, qT_bOr, qT_bNot, qT_eBI, qT_eIf, qT_eLd, qT_eLdR, qT_eLen, qT_eF, qT_eFR, qT_aN, qT_aS, qT_eCl, qT_eClR, qT_eClB, qT_some, qT_x, z_nx_N, z_nx_B, z_nx_R, z_nx_X, z_bk_N, z_bk_B, z_bk_R, z_bk_X, oAdd, oSub, oMul, oNeg, cLt, cLe, cGt, cGe, cEq, cNe, Option.some.injEq, Sum.inl.injEq, Sum.inr.injEq, Prod.mk.injEq, exists_eq_left, exists_eq_left', exists_eq_right, exists_and_left, reduceCtorEq, and_true, true_and, and_false, false_and, List.getElem?_cons_zero, List.getElem?_cons_succ, List.set_cons_zero, List.set_cons_succ, List.replicate, List.length_cons, List.length_nil, List.cons_append, List.nil_append, Nat.reduceAdd, Nat.reduceSub, decide_eq_true_eq, decide_eq_false_iff_not, Bool.true_eq_false, Bool.false_eq_true, true_implies, false_implies, implies_true, Nat.reduceLT, exists_const, z_vB_inj, and_assoc, z_in_iff, oI2L, oL2I, Int.toNat_natCast, z_toNat0, Bool.not_eq_true', Bool.not_eq_false', ne_eq, Bool.not_true, Bool.not_false, Nat.add_zero, Int.add_zero, z_sl_s]
theorem s_needWithin {n a b : Int} (hn : -2147483648 ≤ n ∧ n < 2147483648) (ha : -2147483648 ≤ a ∧ a < 2147483648) (hb : -2147483648 ≤ b ∧ b < 2147483648) : m_X5_needWithin [vI n, vI a, vI b] h = some (if a ≤ n ∧ n ≤ b then .inl none else .inr kIA, h) := by
  unfold m_X5_needWithin
  by_cases p : a ≤ n ∧ n ≤ b
  · rw [if_pos p]
    apply q_body
    have b6 : INF = 1000000 := rfl
    simp only [b_X5_needWithin, kIA, qS_nop, qS_seq, qS_set, qS_setJ, qS_if, qS_brk, qS_ret, qS_retV, qS_throw, qS_inc, qS_cl, qS_ast, qS_aop, qS_fst, qS_fop, qS_sw, qT_eC, qT_eCB, qT_eL, qT_eLJ, qT_eLR, qT_eLB, qT_e1, qT_e2, qT_bCmp, qT_bCmpJ, qT_bAnd, qT_bOr, qT_bNot, qT_eBI, qT_eIf, qT_eLd, qT_eLdR, qT_eLen, qT_eF, qT_eFR, qT_aN, qT_aS, qT_eCl, qT_eClR, qT_eClB, qT_some, qT_x, z_nx_N, z_nx_B, z_nx_R, z_nx_X, z_bk_N, z_bk_B, z_bk_R, z_bk_X, oAdd, oSub, oMul, oNeg, cLt, cLe, cGt, cGe, cEq, cNe, Option.some.injEq, Sum.inl.injEq, Sum.inr.injEq, Prod.mk.injEq, exists_eq_left, exists_eq_left', exists_eq_right, exists_and_left, reduceCtorEq, and_true, true_and, and_false, false_and, List.getElem?_cons_zero, List.getElem?_cons_succ, List.set_cons_zero, List.set_cons_succ, List.replicate, List.length_cons, List.length_nil, List.cons_append, List.nil_append, Nat.reduceAdd, Nat.reduceSub, decide_eq_true_eq, decide_eq_false_iff_not, Bool.true_eq_false, Bool.false_eq_true, true_implies, false_implies, implies_true, Nat.reduceLT, exists_const, z_vB_inj, and_assoc, z_in_iff, oI2L, oL2I, Int.toNat_natCast, z_toNat0, Bool.not_eq_true', Bool.not_eq_false', ne_eq, Bool.not_true, Bool.not_false, Nat.add_zero, Int.add_zero, z_sl_s]
    omega
  · rw [if_neg p]
    apply q_body
    have b6 : INF = 1000000 := rfl
    simp only [b_X5_needWithin, kIA, qS_nop, qS_seq, qS_set, qS_setJ, qS_if, qS_brk, qS_ret, qS_retV, qS_throw, qS_inc, qS_cl, qS_ast, qS_aop, qS_fst, qS_fop, qS_sw, qT_eC, qT_eCB, qT_eL, qT_eLJ, qT_eLR, qT_eLB, qT_e1, qT_e2, qT_bCmp, qT_bCmpJ, qT_bAnd, qT_bOr, qT_bNot, qT_eBI, qT_eIf, qT_eLd, qT_eLdR, qT_eLen, qT_eF, qT_eFR, qT_aN, qT_aS, qT_eCl, qT_eClR, qT_eClB, qT_some, qT_x, z_nx_N, z_nx_B, z_nx_R, z_nx_X, z_bk_N, z_bk_B, z_bk_R, z_bk_X, oAdd, oSub, oMul, oNeg, cLt, cLe, cGt, cGe, cEq, cNe, Option.some.injEq, Sum.inl.injEq, Sum.inr.injEq, Prod.mk.injEq, exists_eq_left, exists_eq_left', exists_eq_right, exists_and_left, reduceCtorEq, and_true, true_and, and_false, false_and, List.getElem?_cons_zero, List.getElem?_cons_succ, List.set_cons_zero, List.set_cons_succ, List.replicate, List.length_cons, List.length_nil, List.cons_append, List.nil_append, Nat.reduceAdd, Nat.reduceSub, decide_eq_true_eq, decide_eq_false_iff_not, Bool.true_eq_false, Bool.false_eq_true, true_implies, false_implies, implies_true, Nat.reduceLT, exists_const, z_vB_inj, and_assoc, z_in_iff, oI2L, oL2I, Int.toNat_natCast, z_toNat0, Bool.not_eq_true', Bool.not_eq_false', ne_eq, Bool.not_true, Bool.not_false, Nat.add_zero, Int.add_zero, z_sl_s]
    omega
theorem s_needGiven {n : Int} (hn : -2147483648 ≤ n ∧ n < 2147483648) : m_X5_needGiven [vI n] h = some (if (-999 ≤ n ∧ n ≤ 999) ∨ n = INF then .inl none else .inr kIA, h) := by
  have e := s_needWithin (h := h) (n := n) (a := -999) (b := 999) hn (by decide) (by decide)
  have b6 : INF = 1000000 := rfl
  unfold m_X5_needGiven
  by_cases p : n = 1000000
  · rw [if_pos (by omega)]
    apply q_body
    have b6 : INF = 1000000 := rfl
    simp only [b_X5_needGiven, p, qS_nop, qS_seq, qS_set, qS_setJ, qS_if, qS_brk, qS_ret, qS_retV, qS_throw, qS_inc, qS_cl, qS_ast, qS_aop, qS_fst, qS_fop, qS_sw, qT_eC, qT_eCB, qT_eL, qT_eLJ, qT_eLR, qT_eLB, qT_e1, qT_e2, qT_bCmp, qT_bCmpJ, qT_bAnd, qT_bOr, qT_bNot, qT_eBI, qT_eIf, qT_eLd, qT_eLdR, qT_eLen, qT_eF, qT_eFR, qT_aN, qT_aS, qT_eCl, qT_eClR, qT_eClB, qT_some, qT_x, z_nx_N, z_nx_B, z_nx_R, z_nx_X, z_bk_N, z_bk_B, z_bk_R, z_bk_X, oAdd, oSub, oMul, oNeg, cLt, cLe, cGt, cGe, cEq, cNe, Option.some.injEq, Sum.inl.injEq, Sum.inr.injEq, Prod.mk.injEq, exists_eq_left, exists_eq_left', exists_eq_right, exists_and_left, reduceCtorEq, and_true, true_and, and_false, false_and, List.getElem?_cons_zero, List.getElem?_cons_succ, List.set_cons_zero, List.set_cons_succ, List.replicate, List.length_cons, List.length_nil, List.cons_append, List.nil_append, Nat.reduceAdd, Nat.reduceSub, decide_eq_true_eq, decide_eq_false_iff_not, Bool.true_eq_false, Bool.false_eq_true, true_implies, false_implies, implies_true, Nat.reduceLT, exists_const, z_vB_inj, and_assoc, z_in_iff, oI2L, oL2I, Int.toNat_natCast, z_toNat0, Bool.not_eq_true', Bool.not_eq_false', ne_eq, Bool.not_true, Bool.not_false, Nat.add_zero, Int.add_zero, z_sl_s]
    (repeat' (first | apply And.intro | intro _)) <;> first | omega | rfl | grind
  · by_cases q : -999 ≤ n ∧ n ≤ 999
    · rw [if_pos q] at e
      rw [if_pos (by omega)]
      apply q_body
      have b6 : INF = 1000000 := rfl
      simp only [b_X5_needGiven, e, qS_nop, qS_seq, qS_set, qS_setJ, qS_if, qS_brk, qS_ret, qS_retV, qS_throw, qS_inc, qS_cl, qS_ast, qS_aop, qS_fst, qS_fop, qS_sw, qT_eC, qT_eCB, qT_eL, qT_eLJ, qT_eLR, qT_eLB, qT_e1, qT_e2, qT_bCmp, qT_bCmpJ, qT_bAnd, qT_bOr, qT_bNot, qT_eBI, qT_eIf, qT_eLd, qT_eLdR, qT_eLen, qT_eF, qT_eFR, qT_aN, qT_aS, qT_eCl, qT_eClR, qT_eClB, qT_some, qT_x, z_nx_N, z_nx_B, z_nx_R, z_nx_X, z_bk_N, z_bk_B, z_bk_R, z_bk_X, oAdd, oSub, oMul, oNeg, cLt, cLe, cGt, cGe, cEq, cNe, Option.some.injEq, Sum.inl.injEq, Sum.inr.injEq, Prod.mk.injEq, exists_eq_left, exists_eq_left', exists_eq_right, exists_and_left, reduceCtorEq, and_true, true_and, and_false, false_and, List.getElem?_cons_zero, List.getElem?_cons_succ, List.set_cons_zero, List.set_cons_succ, List.replicate, List.length_cons, List.length_nil, List.cons_append, List.nil_append, Nat.reduceAdd, Nat.reduceSub, decide_eq_true_eq, decide_eq_false_iff_not, Bool.true_eq_false, Bool.false_eq_true, true_implies, false_implies, implies_true, Nat.reduceLT, exists_const, z_vB_inj, and_assoc, z_in_iff, oI2L, oL2I, Int.toNat_natCast, z_toNat0, Bool.not_eq_true', Bool.not_eq_false', ne_eq, Bool.not_true, Bool.not_false, Nat.add_zero, Int.add_zero, z_sl_s]
      omega
    · rw [if_neg q] at e
      rw [if_neg (by omega)]
      apply q_body
      have b6 : INF = 1000000 := rfl
      simp only [b_X5_needGiven, e, qS_nop, qS_seq, qS_set, qS_setJ, qS_if, qS_brk, qS_ret, qS_retV, qS_throw, qS_inc, qS_cl, qS_ast, qS_aop, qS_fst, qS_fop, qS_sw, qT_eC, qT_eCB, qT_eL, qT_eLJ, qT_eLR, qT_eLB, qT_e1, qT_e2, qT_bCmp, qT_bCmpJ, qT_bAnd, qT_bOr, qT_bNot, qT_eBI, qT_eIf, qT_eLd, qT_eLdR, qT_eLen, qT_eF, qT_eFR, qT_aN, qT_aS, qT_eCl, qT_eClR, qT_eClB, qT_some, qT_x, z_nx_N, z_nx_B, z_nx_R, z_nx_X, z_bk_N, z_bk_B, z_bk_R, z_bk_X, oAdd, oSub, oMul, oNeg, cLt, cLe, cGt, cGe, cEq, cNe, Option.some.injEq, Sum.inl.injEq, Sum.inr.injEq, Prod.mk.injEq, exists_eq_left, exists_eq_left', exists_eq_right, exists_and_left, reduceCtorEq, and_true, true_and, and_false, false_and, List.getElem?_cons_zero, List.getElem?_cons_succ, List.set_cons_zero, List.set_cons_succ, List.replicate, List.length_cons, List.length_nil, List.cons_append, List.nil_append, Nat.reduceAdd, Nat.reduceSub, decide_eq_true_eq, decide_eq_false_iff_not, Bool.true_eq_false, Bool.false_eq_true, true_implies, false_implies, implies_true, Nat.reduceLT, exists_const, z_vB_inj, and_assoc, z_in_iff, oI2L, oL2I, Int.toNat_natCast, z_toNat0, Bool.not_eq_true', Bool.not_eq_false', ne_eq, Bool.not_true, Bool.not_false, Nat.add_zero, Int.add_zero, z_sl_s]
      omega
end FA
section FX
theorem s_nH1 {i : Int} (q : 0 ≤ i ∧ i ≤ 3) : ∀ h, m_X5_needHeld [vI i] h = some (.inl none, h) := fun h => by rw [s_needHeld ⟨by omega, by omega⟩, if_pos q]
theorem s_nH0 {i : Int} (hi : -2147483648 ≤ i ∧ i < 2147483648) (q : ¬ (0 ≤ i ∧ i ≤ 3)) : ∀ h, m_X5_needHeld [vI i] h = some (.inr kIO, h) := fun h => by rw [s_needHeld hi, if_neg q]
theorem s_nI1 {i c : Int} (hc : c < 2147483648) (q : 0 ≤ i ∧ i < c) : ∀ h, m_X5_needIndex [vI i, vI c] h = some (.inl none, h) := fun h => by rw [s_needIndex ⟨by omega, by omega⟩ ⟨by omega, hc⟩, if_pos q]
theorem s_nI0 {i c : Int} (hi : -2147483648 ≤ i ∧ i < 2147483648) (hc : -2147483648 ≤ c ∧ c < 2147483648) (q : ¬ (0 ≤ i ∧ i < c)) : ∀ h, m_X5_needIndex [vI i, vI c] h = some (.inr kIO, h) := fun h => by rw [s_needIndex hi hc, if_neg q]
theorem s_nW1 {n a b : Int} (ha : -2147483648 ≤ a) (hb : b < 2147483648) (q : a ≤ n ∧ n ≤ b) : ∀ h, m_X5_needWithin [vI n, vI a, vI b] h = some (.inl none, h) := fun h => by rw [s_needWithin ⟨by omega, by omega⟩ ⟨ha, by omega⟩ ⟨by omega, hb⟩, if_pos q]
theorem s_nW0 {n a b : Int} (hn : -2147483648 ≤ n ∧ n < 2147483648) (ha : -2147483648 ≤ a ∧ a < 2147483648) (hb : -2147483648 ≤ b ∧ b < 2147483648) (q : ¬ (a ≤ n ∧ n ≤ b)) : ∀ h, m_X5_needWithin [vI n, vI a, vI b] h = some (.inr kIA, h) := fun h => by rw [s_needWithin hn ha hb, if_neg q]
theorem s_nG1 {n : Int} (q : (-999 ≤ n ∧ n ≤ 999) ∨ n = INF) : ∀ h, m_X5_needGiven [vI n] h = some (.inl none, h) := fun h => by
  have b6 : INF = 1000000 := rfl
  rw [s_needGiven ⟨by omega, by omega⟩, if_pos q]
theorem s_nG0 {n : Int} (hn : -2147483648 ≤ n ∧ n < 2147483648) (q : ¬ ((-999 ≤ n ∧ n ≤ 999) ∨ n = INF)) : ∀ h, m_X5_needGiven [vI n] h = some (.inr kIA, h) := fun h => by rw [s_needGiven hn, if_neg q]
/-- one call, in three ways -/
theorem kOp.ok {m5 m6 : z_Mt} {E1 E2 : String} {args : List z_V} {S S1 : Nat → Nat → Int} {r : z_V} {S2 : (Nat → Int) → Nat → Nat → Int} (h5 : m5 (vR 0 :: args) (k_W S) = some (.inl (some r), k_W S1)) (h6 : ∀ g, m6 (vR 85 :: args) (k_W (k_u S1 103 g)) = some (.inl (some r), k_W (S2 g))) (hI : ∀ g, kInv (S2 g)) (h1 : ∀ g, S2 g 103 = g) (h0 : ∀ g, S2 g 85 1 = 0) : kOp m5 m6 E1 E2 args S := ⟨_, S1, h5, fun g => ⟨r, S2 g, h6 g, hI g, h1 g, Or.inl ⟨rfl, h0 g⟩⟩⟩
theorem kOp.x1 {m5 m6 : z_Mt} {E1 E2 : String} {args : List z_V} {S S1 : Nat → Nat → Int} {r : z_V} {S2 : (Nat → Int) → Nat → Nat → Int} (h5 : m5 (vR 0 :: args) (k_W S) = some (.inr E1, k_W S1)) (h6 : ∀ g, m6 (vR 85 :: args) (k_W (k_u S1 103 g)) = some (.inl (some r), k_W (S2 g))) (hI : ∀ g, kInv (S2 g)) (h1 : ∀ g, S2 g 103 = g) (h0 : ∀ g, S2 g 85 1 = 1) : kOp m5 m6 E1 E2 args S := ⟨_, S1, h5, fun g => ⟨r, S2 g, h6 g, hI g, h1 g, Or.inr (Or.inl ⟨rfl, h0 g⟩)⟩⟩
theorem kOp.x2 {m5 m6 : z_Mt} {E1 E2 : String} {args : List z_V} {S S1 : Nat → Nat → Int} {r : z_V} {S2 : (Nat → Int) → Nat → Nat → Int} (h5 : m5 (vR 0 :: args) (k_W S) = some (.inr E2, k_W S1)) (h6 : ∀ g, m6 (vR 85 :: args) (k_W (k_u S1 103 g)) = some (.inl (some r), k_W (S2 g))) (hI : ∀ g, kInv (S2 g)) (h1 : ∀ g, S2 g 103 = g) (h0 : ∀ g, S2 g 85 1 = 2) (hE : E2 ≠ "" := by decide) : kOp m5 m6 E1 E2 args S := ⟨_, S1, h5, fun g => ⟨r, S2 g, h6 g, hI g, h1 g, Or.inr (Or.inr ⟨hE, rfl, h0 g⟩)⟩⟩
theorem k_t_n {S : Nat → Nat → Int} {n : Int} {a : Nat} (h : a ≠ 85) : k_t S n a = S a := k_u_n h
theorem k_t_1 {S : Nat → Nat → Int} {n : Int} : k_t S n 85 1 = n := by
  show k_u S 85 (z_up (S 85) 1 n) 85 1 = n
  rw [k_u_s]
  simp [z_up]
/-- the state behind a call that changes nothing but what is thrown -/
theorem kInv.t {S : Nat → Nat → Int} (I : kInv S) (g : Nat → Int) (n : Int) : kInv (k_t (k_u S 103 g) n) := I.eq (fun a ha => by rw [k_t_n (fun e => ha (by subst e; unfold kFree; omega)), k_u_n (fun e => ha (by subst e; unfold kFree; omega))])
theorem k_t_103 {S : Nat → Nat → Int} {g : Nat → Int} {n : Int} : k_t (k_u S 103 g) n 103 = g := by rw [k_t_n (by decide), k_u_s]
theorem rf_one1 {i : Int} (q : 0 ≤ i ∧ i ≤ 3) : ∀ h, m_X6_isOne [vI i] h = some (.inl (some (vB true)), h) := fun h => by rw [rf_isOne ⟨by omega, by omega⟩, (z_dec_iff _).mpr q]
theorem rf_one0 {i : Int} (hi : -2147483648 ≤ i ∧ i < 2147483648) (q : ¬ (0 ≤ i ∧ i ≤ 3)) : ∀ h, m_X6_isOne [vI i] h = some (.inl (some (vB false)), h) := fun h => by rw [rf_isOne hi, (z_dec_f _).mpr q]
theorem rf_in1 {n a b : Int} (ha : -2147483648 ≤ a) (hb : b < 2147483648) (q : a ≤ n ∧ n ≤ b) : ∀ h, m_X6_isIn [vI n, vI a, vI b] h = some (.inl (some (vB true)), h) := fun h => by rw [rf_isIn ⟨by omega, by omega⟩ ⟨ha, by omega⟩ ⟨by omega, hb⟩, (z_dec_iff _).mpr q]
theorem rf_in0 {n a b : Int} (hn : -2147483648 ≤ n ∧ n < 2147483648) (ha : -2147483648 ≤ a ∧ a < 2147483648) (hb : -2147483648 ≤ b ∧ b < 2147483648) (q : ¬ (a ≤ n ∧ n ≤ b)) : ∀ h, m_X6_isIn [vI n, vI a, vI b] h = some (.inl (some (vB false)), h) := fun h => by rw [rf_isIn hn ha hb, (z_dec_f _).mpr q]
theorem rf_num1 {n : Int} (q : (-999 ≤ n ∧ n ≤ 999) ∨ n = INF) : ∀ h, m_X6_isNumber [vI n] h = some (.inl (some (vB true)), h) := fun h => by
  have b6 : INF = 1000000 := rfl
  rw [rf_isNumber ⟨by omega, by omega⟩, (z_dec_iff _).mpr q]
theorem rf_num0 {n : Int} (hn : -2147483648 ≤ n ∧ n < 2147483648) (q : ¬ ((-999 ≤ n ∧ n ≤ 999) ∨ n = INF)) : ∀ h, m_X6_isNumber [vI n] h = some (.inl (some (vB false)), h) := fun h => by rw [rf_isNumber hn, (z_dec_f _).mpr q]
theorem rf_can0 (S : Nat → Nat → Int) : m_X6_can [vR 85, vI 0] (k_W S) = some (.inl (some (vB true)), k_W (k_t S 0)) := by rw [rf_can (by decide), (z_dec_iff _).mpr rfl]
theorem rf_can1 (S : Nat → Nat → Int) : m_X6_can [vR 85, vI 1] (k_W S) = some (.inl (some (vB false)), k_W (k_t S 1)) := by rw [rf_can (by decide), (z_dec_f _).mpr (by decide)]
theorem rf_can2 (S : Nat → Nat → Int) : m_X6_can [vR 85, vI 2] (k_W S) = some (.inl (some (vB false)), k_W (k_t S 2)) := by rw [rf_can (by decide), (z_dec_f _).mpr (by decide)]
end FX
section FB
variable {S : Nat → Nat → Int}
/-- a script's number -/
abbrev kR (n : Int) : Prop := -2147483648 ≤ n ∧ n < 2147483648
theorem k_1r {i : Nat} (hi : i < 4) : (if i < 4 then ((49 + 9 * i : Nat) : Int) else -1) = ((49 + 9 * i : Nat) : Int) := if_pos hi
theorem k_2r {i : Nat} (hi : i < 4) : (if i < 4 then ((51 + 9 * i : Nat) : Int) else -1) = ((51 + 9 * i : Nat) : Int) := if_pos hi
theorem k_3r {i : Nat} (hi : i < 4) : (if i < 4 then ((4 + 1 * i : Nat) : Int) else -1) = ((4 + i : Nat) : Int) := by rw [if_pos hi, Nat.one_mul]
theorem k_cs {i : Nat} (hi : i < 4) (g : Nat → Int) : (k_W S).set (50 + 9 * i) (.inr (0, 9, g)) = k_W (k_u S (50 + 9 * i) g) := k_set (k_cC hi g).symm
theorem rP_S (I : kInv S) {i : Nat} (hi : i < 4) : pOk (rP S i) := fun k hk => by
  have := (I.1 i hi).1 k hk
  unfold rP
  rw [(I.1 i hi).2 k hk]
  exact this
theorem op_coefficient (I : kInv S) {p k n : Int} (hp : kR p) (hk : kR k) (hn : kR n) : kOp m_X5_coefficient m_X6_coefficient kIO kIA [vI p, vI k, vI n] S := by
  have b6 : INF = 1000000 := rfl
  by_cases P1 : (0 ≤ p ∧ p ≤ 3) ∧ (0 ≤ k ∧ k ≤ 8)
  · obtain ⟨i, rfl⟩ : ∃ i : Nat, p = i := ⟨p.toNat, by omega⟩
    obtain ⟨j, rfl⟩ : ∃ j : Nat, k = j := ⟨k.toNat, by omega⟩
    have hi : i < 4 := by omega
    have hj : j < 9 := by omega
    have e1 := s_nH1 (i := (i : Int)) (by omega)
    have e2 := s_nI1 (i := (j : Int)) (c := 9) (by decide) (by omega)
    have o1 := rf_one1 (i := (i : Int)) (by omega)
    have o2 := rf_in1 (n := (j : Int)) (a := 0) (b := 8) (by decide) (by decide) (by omega)
    have a1 := k_1r hi
    by_cases P2 : (-999 ≤ n ∧ n ≤ 999) ∨ n = INF
    · have e3 := s_nG1 (n := n) P2
      have o3 := rf_num1 (n := n) P2
      refine kOp.ok (r := vI (S (50 + 9 * i) j)) (S1 := k_u S (50 + 9 * i) (z_up (S (50 + 9 * i)) j n)) (S2 := fun g => k_u (k_t (k_u (k_u S (50 + 9 * i) (z_up (S (50 + 9 * i)) j n)) 103 g) 0) 86 (z_up (S 86) (9 * i + j) n)) ?_ (fun g => ?_) (fun g => ?_) (fun g => ?_) (fun g => ?_)
      · unfold m_X5_coefficient
        rw [k_v0]
        apply q_body
        have b6 : INF = 1000000 := rfl
        simp only [b_X5_coefficient, e1, e2, e3, k_o0, k_a1, a1, q_obj (k_po (S := S) hi), q_arr (k_pc (S := S) hi) (by decide : 9 < 2147483648), k_cs hi, qS_nop, qS_seq, qS_set, qS_setJ, qS_if, qS_brk, qS_ret, qS_retV, qS_throw, qS_inc, qS_cl, qS_ast, qS_aop, qS_fst, qS_fop, qS_sw, qT_eC, qT_eCB, qT_eL, qT_eLJ, qT_eLR, qT_eLB, qT_e1, qT_e2, qT_bCmp, qT_bCmpJ, qT_bAnd, qT_bOr, qT_bNot, qT_eBI, qT_eIf, qT_eLd, qT_eLdR, qT_eLen, qT_eF, qT_eFR, qT_aN, qT_aS, qT_eCl, qT_eClR, qT_eClB, qT_some, qT_x, z_nx_N, z_nx_B, z_nx_R, z_nx_X, z_bk_N, z_bk_B, z_bk_R, z_bk_X, oAdd, oSub, oMul, oNeg, cLt, cLe, cGt, cGe, cEq, cNe, Option.some.injEq, Sum.inl.injEq, Sum.inr.injEq, Prod.mk.injEq, exists_eq_left, exists_eq_left', exists_eq_right, exists_and_left, reduceCtorEq, and_true, true_and, and_false, false_and, List.getElem?_cons_zero, List.getElem?_cons_succ, List.set_cons_zero, List.set_cons_succ, List.replicate, List.length_cons, List.length_nil, List.cons_append, List.nil_append, Nat.reduceAdd, Nat.reduceSub, decide_eq_true_eq, decide_eq_false_iff_not, Bool.true_eq_false, Bool.false_eq_true, true_implies, false_implies, implies_true, Nat.reduceLT, exists_const, z_vB_inj, and_assoc, z_in_iff, oI2L, oL2I, Int.toNat_natCast, z_toNat0, Bool.not_eq_true', Bool.not_eq_false', ne_eq, Bool.not_true, Bool.not_false, Nat.add_zero, Int.add_zero, z_sl_s]
        omega
      · have n86 : 86 ≠ 50 + 9 * i := by omega
        have s86 : k_u S (50 + 9 * i) (z_up (S (50 + 9 * i)) j n) 86 = S 86 := k_u_n n86
        have o := rf_of (S := k_t (k_u (k_u S (50 + 9 * i) (z_up (S (50 + 9 * i)) j n)) 103 g) 0) hi hj
        have er : rP (k_t (k_u (k_u S (50 + 9 * i) (z_up (S (50 + 9 * i)) j n)) 103 g) 0) i j = S (50 + 9 * i) j := by
          unfold rP
          rw [k_t_n (by decide), k_u_n (by decide), s86]
          exact (I.1 i hi).2 j hj
        rw [er] at o
        have t : (9 * (i : Int) + (j : Int)).toNat = 9 * i + j := by omega
        unfold m_X6_coefficient
        rw [k_v85]
        apply q_body
        have b6 : INF = 1000000 := rfl
        simp only [b_X6_coefficient, o1, o2, o3, rf_can0, o, t, s86, z_vB1, z_vB0, if_true, if_false, not_true_eq_false, not_false_eq_true, k_t_n, k_t_1, exists_eq, k_v85, k_o85, k_r0, k_r1, k_r2, k_r3, k_r4, k_r5, k_r6, k_r7, k_r8, k_r9, k_r10, k_r11, k_r12, k_r13, k_r14, k_r15, k_r16, k_r17, k_r18, k_rl, k_sc, k_st, k_a86, k_s86, k_a87, k_s87, k_a88, k_s88, k_a89, k_s89, k_a90, k_s90, k_a91, k_s91, k_a92, k_s92, k_a93, k_s93, k_a94, k_s94, k_a95, k_s95, k_a96, k_s96, k_a97, k_s97, k_a98, k_s98, k_a99, k_s99, k_a100, k_s100, k_a101, k_s101, k_a102, k_s102, k_u_s, k_u_n, k_u_u, Nat.reduceEqDiff, not_false_eq_true, qS_nop, qS_seq, qS_set, qS_setJ, qS_if, qS_brk, qS_ret, qS_retV, qS_throw, qS_inc, qS_cl, qS_ast, qS_aop, qS_fst, qS_fop, qS_sw, qT_eC, qT_eCB, qT_eL, qT_eLJ, qT_eLR, qT_eLB, qT_e1, qT_e2, qT_bCmp, qT_bCmpJ, qT_bAnd, qT_bOr, qT_bNot, qT_eBI, qT_eIf, qT_eLd, qT_eLdR, qT_eLen, qT_eF, qT_eFR, qT_aN, qT_aS, qT_eCl, qT_eClR, qT_eClB, qT_some, qT_x, z_nx_N, z_nx_B, z_nx_R, z_nx_X, z_bk_N, z_bk_B, z_bk_R, z_bk_X, oAdd, oSub, oMul, oNeg, cLt, cLe, cGt, cGe, cEq, cNe, Option.some.injEq, Sum.inl.injEq, Sum.inr.injEq, Prod.mk.injEq, exists_eq_left, exists_eq_left', exists_eq_right, exists_and_left, reduceCtorEq, and_true, true_and, and_false, false_and, List.getElem?_cons_zero, List.getElem?_cons_succ, List.set_cons_zero, List.set_cons_succ, List.replicate, List.length_cons, List.length_nil, List.cons_append, List.nil_append, Nat.reduceAdd, Nat.reduceSub, decide_eq_true_eq, decide_eq_false_iff_not, Bool.true_eq_false, Bool.false_eq_true, true_implies, false_implies, implies_true, Nat.reduceLT, exists_const, z_vB_inj, and_assoc, z_in_iff, oI2L, oL2I, Int.toNat_natCast, z_toNat0, Bool.not_eq_true', Bool.not_eq_false', ne_eq, Bool.not_true, Bool.not_false, Nat.add_zero, Int.add_zero, z_sl_s]
        omega
      · refine I.p hi (f := z_up (S (50 + 9 * i)) j n) (fun k hk => ?_) ?_ (fun k hk => ?_) (fun x hx => ?_) (fun a ha h1 h2 => ?_)
        · unfold z_up
          split
          · omega
          · exact (I.1 i hi).1 k hk
        · rw [k_u_n (by omega), k_t_n (by omega), k_u_n (by omega), k_u_s]
        · rw [k_u_s]
          unfold z_up
          by_cases c : k = j
          · rw [if_pos (by omega), if_pos c]
          · rw [if_neg (by omega), if_neg c]
            exact (I.1 i hi).2 k hk
        · rw [k_u_s]
          unfold z_up
          rw [if_neg (by omega)]
        · rw [k_u_n h2, k_t_n (fun e => ha (by subst e; unfold kFree; omega)), k_u_n (fun e => ha (by subst e; unfold kFree; omega)), k_u_n h1]
      · rw [k_u_n (by decide), k_t_103]
      · rw [k_u_n (by decide), k_t_1]
    · have e3 := s_nG0 hn P2
      have o3 := rf_num0 hn P2
      refine kOp.x2 (r := vI 0) (S1 := S) (S2 := fun g => k_t (k_u S 103 g) 2) ?_ (fun g => ?_) (fun g => I.t g 2) (fun g => k_t_103) (fun g => k_t_1)
      · unfold m_X5_coefficient
        rw [k_v0]
        apply q_body
        have b6 : INF = 1000000 := rfl
        simp only [b_X5_coefficient, e1, e2, e3, qS_nop, qS_seq, qS_set, qS_setJ, qS_if, qS_brk, qS_ret, qS_retV, qS_throw, qS_inc, qS_cl, qS_ast, qS_aop, qS_fst, qS_fop, qS_sw, qT_eC, qT_eCB, qT_eL, qT_eLJ, qT_eLR, qT_eLB, qT_e1, qT_e2, qT_bCmp, qT_bCmpJ, qT_bAnd, qT_bOr, qT_bNot, qT_eBI, qT_eIf, qT_eLd, qT_eLdR, qT_eLen, qT_eF, qT_eFR, qT_aN, qT_aS, qT_eCl, qT_eClR, qT_eClB, qT_some, qT_x, z_nx_N, z_nx_B, z_nx_R, z_nx_X, z_bk_N, z_bk_B, z_bk_R, z_bk_X, oAdd, oSub, oMul, oNeg, cLt, cLe, cGt, cGe, cEq, cNe, Option.some.injEq, Sum.inl.injEq, Sum.inr.injEq, Prod.mk.injEq, exists_eq_left, exists_eq_left', exists_eq_right, exists_and_left, reduceCtorEq, and_true, true_and, and_false, false_and, List.getElem?_cons_zero, List.getElem?_cons_succ, List.set_cons_zero, List.set_cons_succ, List.replicate, List.length_cons, List.length_nil, List.cons_append, List.nil_append, Nat.reduceAdd, Nat.reduceSub, decide_eq_true_eq, decide_eq_false_iff_not, Bool.true_eq_false, Bool.false_eq_true, true_implies, false_implies, implies_true, Nat.reduceLT, exists_const, z_vB_inj, and_assoc, z_in_iff, oI2L, oL2I, Int.toNat_natCast, z_toNat0, Bool.not_eq_true', Bool.not_eq_false', ne_eq, Bool.not_true, Bool.not_false, Nat.add_zero, Int.add_zero, z_sl_s]
      · unfold m_X6_coefficient
        rw [k_v85]
        apply q_body
        have b6 : INF = 1000000 := rfl
        simp only [b_X6_coefficient, o1, o2, o3, rf_can2, z_vB1, z_vB0, if_true, if_false, not_true_eq_false, not_false_eq_true, k_t_n, k_t_1, exists_eq, k_v85, k_o85, k_r0, k_r1, k_r2, k_r3, k_r4, k_r5, k_r6, k_r7, k_r8, k_r9, k_r10, k_r11, k_r12, k_r13, k_r14, k_r15, k_r16, k_r17, k_r18, k_rl, k_sc, k_st, k_a86, k_s86, k_a87, k_s87, k_a88, k_s88, k_a89, k_s89, k_a90, k_s90, k_a91, k_s91, k_a92, k_s92, k_a93, k_s93, k_a94, k_s94, k_a95, k_s95, k_a96, k_s96, k_a97, k_s97, k_a98, k_s98, k_a99, k_s99, k_a100, k_s100, k_a101, k_s101, k_a102, k_s102, k_u_s, k_u_n, k_u_u, Nat.reduceEqDiff, not_false_eq_true, qS_nop, qS_seq, qS_set, qS_setJ, qS_if, qS_brk, qS_ret, qS_retV, qS_throw, qS_inc, qS_cl, qS_ast, qS_aop, qS_fst, qS_fop, qS_sw, qT_eC, qT_eCB, qT_eL, qT_eLJ, qT_eLR, qT_eLB, qT_e1, qT_e2, qT_bCmp, qT_bCmpJ, qT_bAnd, qT_bOr, qT_bNot, qT_eBI, qT_eIf, qT_eLd, qT_eLdR, qT_eLen, qT_eF, qT_eFR, qT_aN, qT_aS, qT_eCl, qT_eClR, qT_eClB, qT_some, qT_x, z_nx_N, z_nx_B, z_nx_R, z_nx_X, z_bk_N, z_bk_B, z_bk_R, z_bk_X, oAdd, oSub, oMul, oNeg, cLt, cLe, cGt, cGe, cEq, cNe, Option.some.injEq, Sum.inl.injEq, Sum.inr.injEq, Prod.mk.injEq, exists_eq_left, exists_eq_left', exists_eq_right, exists_and_left, reduceCtorEq, and_true, true_and, and_false, false_and, List.getElem?_cons_zero, List.getElem?_cons_succ, List.set_cons_zero, List.set_cons_succ, List.replicate, List.length_cons, List.length_nil, List.cons_append, List.nil_append, Nat.reduceAdd, Nat.reduceSub, decide_eq_true_eq, decide_eq_false_iff_not, Bool.true_eq_false, Bool.false_eq_true, true_implies, false_implies, implies_true, Nat.reduceLT, exists_const, z_vB_inj, and_assoc, z_in_iff, oI2L, oL2I, Int.toNat_natCast, z_toNat0, Bool.not_eq_true', Bool.not_eq_false', ne_eq, Bool.not_true, Bool.not_false, Nat.add_zero, Int.add_zero, z_sl_s]
  · refine kOp.x1 (r := vI 0) (S1 := S) (S2 := fun g => k_t (k_u S 103 g) 1) ?_ (fun g => ?_) (fun g => I.t g 1) (fun g => k_t_103) (fun g => k_t_1)
    · unfold m_X5_coefficient
      rw [k_v0]
      apply q_body
      have b6 : INF = 1000000 := rfl
      by_cases Q1 : 0 ≤ p ∧ p ≤ 3
      · have e1 := s_nH1 Q1
        have e2 := s_nI0 (i := k) (c := 9) hk (by decide) (by omega)
        simp only [b_X5_coefficient, e1, e2, qS_nop, qS_seq, qS_set, qS_setJ, qS_if, qS_brk, qS_ret, qS_retV, qS_throw, qS_inc, qS_cl, qS_ast, qS_aop, qS_fst, qS_fop, qS_sw, qT_eC, qT_eCB, qT_eL, qT_eLJ, qT_eLR, qT_eLB, qT_e1, qT_e2, qT_bCmp, qT_bCmpJ, qT_bAnd, qT_bOr, qT_bNot, qT_eBI, qT_eIf, qT_eLd, qT_eLdR, qT_eLen, qT_eF, qT_eFR, qT_aN, qT_aS, qT_eCl, qT_eClR, qT_eClB, qT_some, qT_x, z_nx_N, z_nx_B, z_nx_R, z_nx_X, z_bk_N, z_bk_B, z_bk_R, z_bk_X, oAdd, oSub, oMul, oNeg, cLt, cLe, cGt, cGe, cEq, cNe, Option.some.injEq, Sum.inl.injEq, Sum.inr.injEq, Prod.mk.injEq, exists_eq_left, exists_eq_left', exists_eq_right, exists_and_left, reduceCtorEq, and_true, true_and, and_false, false_and, List.getElem?_cons_zero, List.getElem?_cons_succ, List.set_cons_zero, List.set_cons_succ, List.replicate, List.length_cons, List.length_nil, List.cons_append, List.nil_append, Nat.reduceAdd, Nat.reduceSub, decide_eq_true_eq, decide_eq_false_iff_not, Bool.true_eq_false, Bool.false_eq_true, true_implies, false_implies, implies_true, Nat.reduceLT, exists_const, z_vB_inj, and_assoc, z_in_iff, oI2L, oL2I, Int.toNat_natCast, z_toNat0, Bool.not_eq_true', Bool.not_eq_false', ne_eq, Bool.not_true, Bool.not_false, Nat.add_zero, Int.add_zero, z_sl_s]
      · have e1 := s_nH0 hp Q1
        simp only [b_X5_coefficient, e1, qS_nop, qS_seq, qS_set, qS_setJ, qS_if, qS_brk, qS_ret, qS_retV, qS_throw, qS_inc, qS_cl, qS_ast, qS_aop, qS_fst, qS_fop, qS_sw, qT_eC, qT_eCB, qT_eL, qT_eLJ, qT_eLR, qT_eLB, qT_e1, qT_e2, qT_bCmp, qT_bCmpJ, qT_bAnd, qT_bOr, qT_bNot, qT_eBI, qT_eIf, qT_eLd, qT_eLdR, qT_eLen, qT_eF, qT_eFR, qT_aN, qT_aS, qT_eCl, qT_eClR, qT_eClB, qT_some, qT_x, z_nx_N, z_nx_B, z_nx_R, z_nx_X, z_bk_N, z_bk_B, z_bk_R, z_bk_X, oAdd, oSub, oMul, oNeg, cLt, cLe, cGt, cGe, cEq, cNe, Option.some.injEq, Sum.inl.injEq, Sum.inr.injEq, Prod.mk.injEq, exists_eq_left, exists_eq_left', exists_eq_right, exists_and_left, reduceCtorEq, and_true, true_and, and_false, false_and, List.getElem?_cons_zero, List.getElem?_cons_succ, List.set_cons_zero, List.set_cons_succ, List.replicate, List.length_cons, List.length_nil, List.cons_append, List.nil_append, Nat.reduceAdd, Nat.reduceSub, decide_eq_true_eq, decide_eq_false_iff_not, Bool.true_eq_false, Bool.false_eq_true, true_implies, false_implies, implies_true, Nat.reduceLT, exists_const, z_vB_inj, and_assoc, z_in_iff, oI2L, oL2I, Int.toNat_natCast, z_toNat0, Bool.not_eq_true', Bool.not_eq_false', ne_eq, Bool.not_true, Bool.not_false, Nat.add_zero, Int.add_zero, z_sl_s]
    · unfold m_X6_coefficient
      rw [k_v85]
      apply q_body
      have b6 : INF = 1000000 := rfl
      by_cases Q1 : 0 ≤ p ∧ p ≤ 3
      · have o1 := rf_one1 Q1
        have o2 := rf_in0 (n := k) (a := 0) (b := 8) hk (by decide) (by decide) (by omega)
        simp only [b_X6_coefficient, o1, o2, rf_can1, z_vB1, z_vB0, if_true, if_false, not_true_eq_false, not_false_eq_true, k_t_n, k_t_1, exists_eq, k_v85, k_o85, k_r0, k_r1, k_r2, k_r3, k_r4, k_r5, k_r6, k_r7, k_r8, k_r9, k_r10, k_r11, k_r12, k_r13, k_r14, k_r15, k_r16, k_r17, k_r18, k_rl, k_sc, k_st, k_a86, k_s86, k_a87, k_s87, k_a88, k_s88, k_a89, k_s89, k_a90, k_s90, k_a91, k_s91, k_a92, k_s92, k_a93, k_s93, k_a94, k_s94, k_a95, k_s95, k_a96, k_s96, k_a97, k_s97, k_a98, k_s98, k_a99, k_s99, k_a100, k_s100, k_a101, k_s101, k_a102, k_s102, k_u_s, k_u_n, k_u_u, Nat.reduceEqDiff, not_false_eq_true, qS_nop, qS_seq, qS_set, qS_setJ, qS_if, qS_brk, qS_ret, qS_retV, qS_throw, qS_inc, qS_cl, qS_ast, qS_aop, qS_fst, qS_fop, qS_sw, qT_eC, qT_eCB, qT_eL, qT_eLJ, qT_eLR, qT_eLB, qT_e1, qT_e2, qT_bCmp, qT_bCmpJ, qT_bAnd, qT_bOr, qT_bNot, qT_eBI, qT_eIf, qT_eLd, qT_eLdR, qT_eLen, qT_eF, qT_eFR, qT_aN, qT_aS, qT_eCl, qT_eClR, qT_eClB, qT_some, qT_x, z_nx_N, z_nx_B, z_nx_R, z_nx_X, z_bk_N, z_bk_B, z_bk_R, z_bk_X, oAdd, oSub, oMul, oNeg, cLt, cLe, cGt, cGe, cEq, cNe, Option.some.injEq, Sum.inl.injEq, Sum.inr.injEq, Prod.mk.injEq, exists_eq_left, exists_eq_left', exists_eq_right, exists_and_left, reduceCtorEq, and_true, true_and, and_false, false_and, List.getElem?_cons_zero, List.getElem?_cons_succ, List.set_cons_zero, List.set_cons_succ, List.replicate, List.length_cons, List.length_nil, List.cons_append, List.nil_append, Nat.reduceAdd, Nat.reduceSub, decide_eq_true_eq, decide_eq_false_iff_not, Bool.true_eq_false, Bool.false_eq_true, true_implies, false_implies, implies_true, Nat.reduceLT, exists_const, z_vB_inj, and_assoc, z_in_iff, oI2L, oL2I, Int.toNat_natCast, z_toNat0, Bool.not_eq_true', Bool.not_eq_false', ne_eq, Bool.not_true, Bool.not_false, Nat.add_zero, Int.add_zero, z_sl_s]
      · have o1 := rf_one0 hp Q1
        simp only [b_X6_coefficient, o1, rf_can1, z_vB1, z_vB0, if_true, if_false, not_true_eq_false, not_false_eq_true, k_t_n, k_t_1, exists_eq, k_v85, k_o85, k_r0, k_r1, k_r2, k_r3, k_r4, k_r5, k_r6, k_r7, k_r8, k_r9, k_r10, k_r11, k_r12, k_r13, k_r14, k_r15, k_r16, k_r17, k_r18, k_rl, k_sc, k_st, k_a86, k_s86, k_a87, k_s87, k_a88, k_s88, k_a89, k_s89, k_a90, k_s90, k_a91, k_s91, k_a92, k_s92, k_a93, k_s93, k_a94, k_s94, k_a95, k_s95, k_a96, k_s96, k_a97, k_s97, k_a98, k_s98, k_a99, k_s99, k_a100, k_s100, k_a101, k_s101, k_a102, k_s102, k_u_s, k_u_n, k_u_u, Nat.reduceEqDiff, not_false_eq_true, qS_nop, qS_seq, qS_set, qS_setJ, qS_if, qS_brk, qS_ret, qS_retV, qS_throw, qS_inc, qS_cl, qS_ast, qS_aop, qS_fst, qS_fop, qS_sw, qT_eC, qT_eCB, qT_eL, qT_eLJ, qT_eLR, qT_eLB, qT_e1, qT_e2, qT_bCmp, qT_bCmpJ, qT_bAnd, qT_bOr, qT_bNot, qT_eBI, qT_eIf, qT_eLd, qT_eLdR, qT_eLen, qT_eF, qT_eFR, qT_aN, qT_aS, qT_eCl, qT_eClR, qT_eClB, qT_some, qT_x, z_nx_N, z_nx_B, z_nx_R, z_nx_X, z_bk_N, z_bk_B, z_bk_R, z_bk_X, oAdd, oSub, oMul, oNeg, cLt, cLe, cGt, cGe, cEq, cNe, Option.some.injEq, Sum.inl.injEq, Sum.inr.injEq, Prod.mk.injEq, exists_eq_left, exists_eq_left', exists_eq_right, exists_and_left, reduceCtorEq, and_true, true_and, and_false, false_and, List.getElem?_cons_zero, List.getElem?_cons_succ, List.set_cons_zero, List.set_cons_succ, List.replicate, List.length_cons, List.length_nil, List.cons_append, List.nil_append, Nat.reduceAdd, Nat.reduceSub, decide_eq_true_eq, decide_eq_false_iff_not, Bool.true_eq_false, Bool.false_eq_true, true_implies, false_implies, implies_true, Nat.reduceLT, exists_const, z_vB_inj, and_assoc, z_in_iff, oI2L, oL2I, Int.toNat_natCast, z_toNat0, Bool.not_eq_true', Bool.not_eq_false', ne_eq, Bool.not_true, Bool.not_false, Nat.add_zero, Int.add_zero, z_sl_s]
end FB
