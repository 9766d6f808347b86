/-! THE FACE: mean, both -/
section FMr
variable {S : Nat → Nat → Int}
theorem z_inJ_iff (x : Int) : z_inJ x = true ↔ -9223372036854775808 ≤ x ∧ x < 9223372036854775808 := by
  unfold z_inJ
  simp only [Bool.and_eq_true, decide_eq_true_eq]
theorem rf_mn1 {z p u k : Int} {v0 v1 v2 v3 v8 : z_V} {h : z_Hp} (bz : -1000000 ≤ z ∧ z ≤ 1000000) (bp : -1000000 ≤ p ∧ p ≤ 1000000) (bu : 1 ≤ u ∧ u ≤ 10) (bk : 1 ≤ k ∧ k ≤ 10) : (bAnd (bCmp cNe (eL 7) (eC 1000000)) (bOr (bCmp cEq (eL 4) (eC 1000000)) (bCmpJ cLt (e2 oMul (e1 oI2L (eL 7)) (e1 oI2L (eL 5))) (e2 oMul (e1 oI2L (eL 4)) (e1 oI2L (eL 6)))))) [v0, v1, v2, v3, vI p, vI u, vI k, vI z, v8] h = some (.inl (z_dec (z ≠ INF ∧ (p = INF ∨ z * u < p * k))), h) := by
  refine qT_to ?_
  have b6 : INF = 1000000 := rfl
  have m1 := t_mb (x := z) (y := u) (a := 1000000) (b := 10) (by omega) (by omega)
  have m2 := t_mb (x := p) (y := k) (a := 1000000) (b := 10) (by omega) (by omega)
  have i1 : (if -2147483648 ≤ z ∧ z < 2147483648 then some z else none) = some z := if_pos ⟨by omega, by omega⟩
  have i2 : (if -2147483648 ≤ u ∧ u < 2147483648 then some u else none) = some u := if_pos ⟨by omega, by omega⟩
  have i3 : (if -2147483648 ≤ p ∧ p < 2147483648 then some p else none) = some p := if_pos ⟨by omega, by omega⟩
  have i4 : (if -2147483648 ≤ k ∧ k < 2147483648 then some k else none) = some k := if_pos ⟨by omega, by omega⟩
  simp only [z_inJ_iff, i1, i2, i3, i4, qS_nop, qS_seq, qS_set, qS_setJ, qS_if, qS_brk, qS_ret, qS_retV, qS_throw, qS_inc, qS_cl, qS_ast, qS_aop, qS_fst, qS_fop, qS_sw, qT_eC, qT_eCB, qT_eL, qT_eLJ, qT_eLR, qT_eLB, qT_e1, qT_e2, qT_bCmp, qT_bCmpJ, qT_bAnd, qT_bOr, qT_bNot, qT_eBI, qT_eIf, qT_eLd, qT_eLdR, qT_eLen, qT_eF, qT_eFR, qT_aN, qT_aS, qT_eCl, qT_eClR, qT_eClB, qT_some, qT_x, z_nx_N, z_nx_B, z_nx_R, z_nx_X, z_bk_N, z_bk_B, z_bk_R, z_bk_X, oAdd, oSub, oMul, oNeg, cLt, cLe, cGt, cGe, cEq, cNe, Option.some.injEq, Sum.inl.injEq, Sum.inr.injEq, Prod.mk.injEq, exists_eq_left, exists_eq_left', exists_eq_right, exists_and_left, reduceCtorEq, and_true, true_and, and_false, false_and, List.getElem?_cons_zero, List.getElem?_cons_succ, List.set_cons_zero, List.set_cons_succ, List.replicate, List.length_cons, List.length_nil, List.cons_append, List.nil_append, Nat.reduceAdd, Nat.reduceSub, decide_eq_true_eq, decide_eq_false_iff_not, Bool.true_eq_false, Bool.false_eq_true, true_implies, false_implies, implies_true, Nat.reduceLT, exists_const, z_vB_inj, and_assoc, z_in_iff, oI2L, oL2I, Int.toNat_natCast, z_toNat0, Bool.not_eq_true', Bool.not_eq_false', ne_eq, Bool.not_true, Bool.not_false, Nat.add_zero, Int.add_zero, z_sl_s]
  generalize z * u = X at *
  generalize p * k = Y at *
  try simp only [List.cons.injEq, Sum.inl.injEq, Sum.inr.injEq, z_vB_inj, and_true, true_and, exists_eq', exists_eq_left, exists_eq_left', exists_eq_right, exists_eq_right', exists_and_left, exists_and_right, exists_const, if_true, if_false, z_vB1, z_vB0, z_vBP, z_bd, decide_eq_true_eq, decide_eq_false_iff_not, Bool.not_eq_true', Bool.false_eq_true, Bool.true_eq_false, z_dec_iff, z_dec_f, z_dec_inj, true_iff, iff_true, false_iff, iff_false, not_true_eq_false, not_false_eq_true, Classical.not_not]
  (repeat' (first | apply And.intro | intro _)) <;> first | omega | rfl | grind
theorem rf_mn2 {z p : Int} {c : Bool} {v0 v1 v2 v3 v5 v6 : z_V} {h : z_Hp} : (eIf (eLB 8) (eL 7) (eL 4)) [v0, v1, v2, v3, vI p, v5, v6, vI z, vB c] h = some (.inl (if c = true then z else p), h) := by
  refine qT_to ?_
  simp only [qS_nop, qS_seq, qS_set, qS_setJ, qS_if, qS_brk, qS_ret, qS_retV, qS_throw, qS_inc, qS_cl, qS_ast, qS_aop, qS_fst, qS_fop, qS_sw, qT_eC, qT_eCB, qT_eL, qT_eLJ, qT_eLR, qT_eLB, qT_e1, qT_e2, qT_bCmp, qT_bCmpJ, qT_bAnd, qT_bOr, qT_bNot, qT_eBI, qT_eIf, qT_eLd, qT_eLdR, qT_eLen, qT_eF, qT_eFR, qT_aN, qT_aS, qT_eCl, qT_eClR, qT_eClB, qT_some, qT_x, z_nx_N, z_nx_B, z_nx_R, z_nx_X, z_bk_N, z_bk_B, z_bk_R, z_bk_X, oAdd, oSub, oMul, oNeg, cLt, cLe, cGt, cGe, cEq, cNe, Option.some.injEq, Sum.inl.injEq, Sum.inr.injEq, Prod.mk.injEq, exists_eq_left, exists_eq_left', exists_eq_right, exists_and_left, reduceCtorEq, and_true, true_and, and_false, false_and, List.getElem?_cons_zero, List.getElem?_cons_succ, List.set_cons_zero, List.set_cons_succ, List.replicate, List.length_cons, List.length_nil, List.cons_append, List.nil_append, Nat.reduceAdd, Nat.reduceSub, decide_eq_true_eq, decide_eq_false_iff_not, Bool.true_eq_false, Bool.false_eq_true, true_implies, false_implies, implies_true, Nat.reduceLT, exists_const, z_vB_inj, and_assoc, z_in_iff, oI2L, oL2I, Int.toNat_natCast, z_toNat0, Bool.not_eq_true', Bool.not_eq_false', ne_eq, Bool.not_true, Bool.not_false, Nat.add_zero, Int.add_zero, z_sl_s]
  try simp only [List.cons.injEq, Sum.inl.injEq, Sum.inr.injEq, z_vB_inj, and_true, true_and, exists_eq', exists_eq_left, exists_eq_left', exists_eq_right, exists_eq_right', exists_and_left, exists_and_right, exists_const, if_true, if_false, z_vB1, z_vB0, z_vBP, z_bd, decide_eq_true_eq, decide_eq_false_iff_not, Bool.not_eq_true', Bool.false_eq_true, Bool.true_eq_false, z_dec_iff, z_dec_f, z_dec_inj, true_iff, iff_true, false_iff, iff_false, not_true_eq_false, not_false_eq_true, Classical.not_not]
  cases c <;> simp
theorem rf_mn3 {u k : Int} {c : Bool} {v0 v1 v2 v3 v4 v7 : z_V} {h : z_Hp} : (eIf (eLB 8) (eL 6) (eL 5)) [v0, v1, v2, v3, v4, vI u, vI k, v7, vB c] h = some (.inl (if c = true then k else u), h) := by
  refine qT_to ?_
  simp only [qS_nop, qS_seq, qS_set, qS_setJ, qS_if, qS_brk, qS_ret, qS_retV, qS_throw, qS_inc, qS_cl, qS_ast, qS_aop, qS_fst, qS_fop, qS_sw, qT_eC, qT_eCB, qT_eL, qT_eLJ, qT_eLR, qT_eLB, qT_e1, qT_e2, qT_bCmp, qT_bCmpJ, qT_bAnd, qT_bOr, qT_bNot, qT_eBI, qT_eIf, qT_eLd, qT_eLdR, qT_eLen, qT_eF, qT_eFR, qT_aN, qT_aS, qT_eCl, qT_eClR, qT_eClB, qT_some, qT_x, z_nx_N, z_nx_B, z_nx_R, z_nx_X, z_bk_N, z_bk_B, z_bk_R, z_bk_X, oAdd, oSub, oMul, oNeg, cLt, cLe, cGt, cGe, cEq, cNe, Option.some.injEq, Sum.inl.injEq, Sum.inr.injEq, Prod.mk.injEq, exists_eq_left, exists_eq_left', exists_eq_right, exists_and_left, reduceCtorEq, and_true, true_and, and_false, false_and, List.getElem?_cons_zero, List.getElem?_cons_succ, List.set_cons_zero, List.set_cons_succ, List.replicate, List.length_cons, List.length_nil, List.cons_append, List.nil_append, Nat.reduceAdd, Nat.reduceSub, decide_eq_true_eq, decide_eq_false_iff_not, Bool.true_eq_false, Bool.false_eq_true, true_implies, false_implies, implies_true, Nat.reduceLT, exists_const, z_vB_inj, and_assoc, z_in_iff, oI2L, oL2I, Int.toNat_natCast, z_toNat0, Bool.not_eq_true', Bool.not_eq_false', ne_eq, Bool.not_true, Bool.not_false, Nat.add_zero, Int.add_zero, z_sl_s]
  try simp only [List.cons.injEq, Sum.inl.injEq, Sum.inr.injEq, z_vB_inj, and_true, true_and, exists_eq', exists_eq_left, exists_eq_left', exists_eq_right, exists_eq_right', exists_and_left, exists_and_right, exists_const, if_true, if_false, z_vB1, z_vB0, z_vBP, z_bd, decide_eq_true_eq, decide_eq_false_iff_not, Bool.not_eq_true', Bool.false_eq_true, Bool.true_eq_false, z_dec_iff, z_dec_f, z_dec_inj, true_iff, iff_true, false_iff, iff_false, not_true_eq_false, not_false_eq_true, Classical.not_not]
  cases c <;> simp
theorem rf_mn5 {p u D : Int} {v0 v1 v2 v3 v6 v7 v8 : z_V} {h : z_Hp} (bp : -1000000 ≤ p ∧ p ≤ 1000000) (cm : ∀ h : z_Hp, m_X6_common [vI p, vI u] h = some (.inl (some (vI D)), h)) : (eIf (bCmp cEq (eL 4) (eC 1000000)) (eC 1) (eCl (m_X6_common) (aS vI (aS vI (aN) (eL 4)) (eL 5)))) [v0, v1, v2, v3, vI p, vI u, v6, v7, v8] h = some (.inl (if p = INF then 1 else D), h) := by
  refine qT_to ?_
  have b6 : INF = 1000000 := rfl
  simp only [cm, qS_nop, qS_seq, qS_set, qS_setJ, qS_if, qS_brk, qS_ret, qS_retV, qS_throw, qS_inc, qS_cl, qS_ast, qS_aop, qS_fst, qS_fop, qS_sw, qT_eC, qT_eCB, qT_eL, qT_eLJ, qT_eLR, qT_eLB, qT_e1, qT_e2, qT_bCmp, qT_bCmpJ, qT_bAnd, qT_bOr, qT_bNot, qT_eBI, qT_eIf, qT_eLd, qT_eLdR, qT_eLen, qT_eF, qT_eFR, qT_aN, qT_aS, qT_eCl, qT_eClR, qT_eClB, qT_some, qT_x, z_nx_N, z_nx_B, z_nx_R, z_nx_X, z_bk_N, z_bk_B, z_bk_R, z_bk_X, oAdd, oSub, oMul, oNeg, cLt, cLe, cGt, cGe, cEq, cNe, Option.some.injEq, Sum.inl.injEq, Sum.inr.injEq, Prod.mk.injEq, exists_eq_left, exists_eq_left', exists_eq_right, exists_and_left, reduceCtorEq, and_true, true_and, and_false, false_and, List.getElem?_cons_zero, List.getElem?_cons_succ, List.set_cons_zero, List.set_cons_succ, List.replicate, List.length_cons, List.length_nil, List.cons_append, List.nil_append, Nat.reduceAdd, Nat.reduceSub, decide_eq_true_eq, decide_eq_false_iff_not, Bool.true_eq_false, Bool.false_eq_true, true_implies, false_implies, implies_true, Nat.reduceLT, exists_const, z_vB_inj, and_assoc, z_in_iff, oI2L, oL2I, Int.toNat_natCast, z_toNat0, Bool.not_eq_true', Bool.not_eq_false', ne_eq, Bool.not_true, Bool.not_false, Nat.add_zero, Int.add_zero, z_sl_s]
  clear cm
  (repeat' (first | apply And.intro | intro _)) <;> first | omega | rfl | grind
theorem rf_mn6 {p u D w : Int} {v0 v1 v3 v7 v8 : z_V} {h : z_Hp} (bp : -1000000 ≤ p ∧ p ≤ 1000000) (hw : 0 ≤ w ∧ w ≤ 1) (dA : oDiv p D = some (p.tdiv D)) (dB : oDiv u D = some (u.tdiv D)) : (eIf (bCmp cEq (eL 4) (eC 1000000)) (eIf (bCmp cEq (eL 2) (eC 0)) (eC 0) (eC (-1))) (eIf (bCmp cEq (eL 2) (eC 0)) (e2 oDiv (eL 4) (eL 6)) (e2 oDiv (eL 5) (eL 6)))) [v0, v1, vI w, v3, vI p, vI u, vI (if p = INF then 1 else D), v7, v8] h = some (.inl (if w = 0 then (if p = INF then ((0 : Int), (-1 : Int)) else (p.tdiv D, u.tdiv D)).1 else (if p = INF then ((0 : Int), (-1 : Int)) else (p.tdiv D, u.tdiv D)).2), h) := by
  have b6 : INF = 1000000 := rfl
  by_cases q : p = INF
  · rw [if_pos q, if_pos q]
    refine qT_to ?_
    simp only [qS_nop, qS_seq, qS_set, qS_setJ, qS_if, qS_brk, qS_ret, qS_retV, qS_throw, qS_inc, qS_cl, qS_ast, qS_aop, qS_fst, qS_fop, qS_sw, qT_eC, qT_eCB, qT_eL, qT_eLJ, qT_eLR, qT_eLB, qT_e1, qT_e2, qT_bCmp, qT_bCmpJ, qT_bAnd, qT_bOr, qT_bNot, qT_eBI, qT_eIf, qT_eLd, qT_eLdR, qT_eLen, qT_eF, qT_eFR, qT_aN, qT_aS, qT_eCl, qT_eClR, qT_eClB, qT_some, qT_x, z_nx_N, z_nx_B, z_nx_R, z_nx_X, z_bk_N, z_bk_B, z_bk_R, z_bk_X, oAdd, oSub, oMul, oNeg, cLt, cLe, cGt, cGe, cEq, cNe, Option.some.injEq, Sum.inl.injEq, Sum.inr.injEq, Prod.mk.injEq, exists_eq_left, exists_eq_left', exists_eq_right, exists_and_left, reduceCtorEq, and_true, true_and, and_false, false_and, List.getElem?_cons_zero, List.getElem?_cons_succ, List.set_cons_zero, List.set_cons_succ, List.replicate, List.length_cons, List.length_nil, List.cons_append, List.nil_append, Nat.reduceAdd, Nat.reduceSub, decide_eq_true_eq, decide_eq_false_iff_not, Bool.true_eq_false, Bool.false_eq_true, true_implies, false_implies, implies_true, Nat.reduceLT, exists_const, z_vB_inj, and_assoc, z_in_iff, oI2L, oL2I, Int.toNat_natCast, z_toNat0, Bool.not_eq_true', Bool.not_eq_false', ne_eq, Bool.not_true, Bool.not_false, Nat.add_zero, Int.add_zero, z_sl_s]
    (repeat' (first | apply And.intro | intro _)) <;> first | omega | rfl | grind
  · rw [if_neg q, if_neg q]
    refine qT_to ?_
    simp only [dA, dB, qS_nop, qS_seq, qS_set, qS_setJ, qS_if, qS_brk, qS_ret, qS_retV, qS_throw, qS_inc, qS_cl, qS_ast, qS_aop, qS_fst, qS_fop, qS_sw, qT_eC, qT_eCB, qT_eL, qT_eLJ, qT_eLR, qT_eLB, qT_e1, qT_e2, qT_bCmp, qT_bCmpJ, qT_bAnd, qT_bOr, qT_bNot, qT_eBI, qT_eIf, qT_eLd, qT_eLdR, qT_eLen, qT_eF, qT_eFR, qT_aN, qT_aS, qT_eCl, qT_eClR, qT_eClB, qT_some, qT_x, z_nx_N, z_nx_B, z_nx_R, z_nx_X, z_bk_N, z_bk_B, z_bk_R, z_bk_X, oAdd, oSub, oMul, oNeg, cLt, cLe, cGt, cGe, cEq, cNe, Option.some.injEq, Sum.inl.injEq, Sum.inr.injEq, Prod.mk.injEq, exists_eq_left, exists_eq_left', exists_eq_right, exists_and_left, reduceCtorEq, and_true, true_and, and_false, false_and, List.getElem?_cons_zero, List.getElem?_cons_succ, List.set_cons_zero, List.set_cons_succ, List.replicate, List.length_cons, List.length_nil, List.cons_append, List.nil_append, Nat.reduceAdd, Nat.reduceSub, decide_eq_true_eq, decide_eq_false_iff_not, Bool.true_eq_false, Bool.false_eq_true, true_implies, false_implies, implies_true, Nat.reduceLT, exists_const, z_vB_inj, and_assoc, z_in_iff, oI2L, oL2I, Int.toNat_natCast, z_toNat0, Bool.not_eq_true', Bool.not_eq_false', ne_eq, Bool.not_true, Bool.not_false, Nat.add_zero, Int.add_zero, z_sl_s]
    generalize p.tdiv D = X
    generalize u.tdiv D = Y
    (repeat' (first | apply And.intro | intro _)) <;> first | omega | rfl | grind
/-- the reference's cells while it looks for the mean -/
def rI (S A : Nat → Nat → Int) (n k : Nat) (h' : z_Hp) : Prop := ∃ T, h' = k_W T ∧ (∀ x, x ≠ 91 → x ≠ 92 → x ≠ 93 → T x = S x) ∧ (∀ x, x < 25 → T 91 x = sQ A n k x) ∧ (∀ x, x < 25 → T 92 x = sQ A n 0 x)
theorem sQ_b2 {A : Nat → Nat → Int} {n : Nat} (hW : mWi A n) {m : Nat} (hm : m ≤ 5) {x : Nat} : -600000 ≤ sQ A n m x ∧ sQ A n m x ≤ 1000000 := by
  have b6 : INF = 1000000 := rfl
  unfold sQ
  split
  · next c =>
    have := sP_b2 hW m c.1 c.2
    omega
  · omega
theorem sQ_s {A : Nat → Nat → Int} {n : Nat} (hn : n ≤ 5) (T : Nat → Nat → Int) (m : Nat) (h1 : ∀ x, x < 25 → T 91 x = sQ A n m x) (h2 : ∀ x, x < 25 → T 92 x = sQ A n 0 x) : ∀ x, x < 25 → rCo (rA (T 91)) (rA (T 92)) n x = sQ A n (m + 1) x := fun x hx => by
  unfold rCo sQ
  by_cases c : x / 5 < n ∧ x % 5 < n
  · rw [if_pos c, if_pos c]
    show mMul _ _ _ _ _ = mMul _ _ _ _ _
    refine mMul_cg (fun k hk => ?_) (fun k hk => ?_)
    · unfold rA
      rw [h1 _ (by omega)]
      unfold sQ
      rw [show (5 * (x / 5) + k) / 5 = x / 5 by omega, show (5 * (x / 5) + k) % 5 = k by omega, if_pos ⟨c.1, hk⟩]
    · unfold rA
      rw [h2 _ (by omega)]
      unfold sQ
      rw [show (5 * k + x % 5) / 5 = k by omega, show (5 * k + x % 5) % 5 = x % 5 by omega, if_pos ⟨hk, c.2⟩]
      rfl
  · rw [if_neg c, if_neg c]
theorem rf_meanOf {a n : Nat} {w : Int} (ha : a < 4) (hn : 1 ≤ n ∧ n ≤ 5) (hw : 0 ≤ w ∧ w ≤ 1) (h89 : S 89 a = (n : Int)) (hM : mBd (rM S a) 100000) (hW : mWi (rM S a) n) (hO : ∀ x y, x < 5 → y < 5 → ¬ (x < n ∧ y < n) → rM S a x y = INF) :
    ∃ V, m_X6_meanOf [vR 85, vI (a : Int), vI w] (k_W S) = some (.inl (some (vI (if w = 0 then (fRd (fSt (rM S a) n n)).1 else (fRd (fSt (rM S a) n n)).2))), k_W V) ∧ ∀ x, x ≠ 91 → x ≠ 92 → x ≠ 93 → V x = S x := by
  have b6 : INF = 1000000 := rfl
  have e1 := rf_loads (S := S) ha ha
  obtain ⟨S1, hS1⟩ : ∃ S1, S1 = k_u (k_u S 91 (z_to 25 (fun x => S 90 (25 * a + x)) (S 91))) 92 (z_to 25 (fun x => S 90 (25 * a + x)) (S 92)) := ⟨_, rfl⟩
  rw [← hS1] at e1
  obtain ⟨A, hA⟩ : ∃ A, A = rM S a := ⟨_, rfl⟩
  rw [← hA] at hW hO ⊢
  have m1 : ∀ x, x < 25 → S1 91 x = sQ A n 0 x ∧ S1 92 x = sQ A n 0 x := fun x hx => by
    have e : sQ A n 0 x = S 90 (25 * a + x) := by
      have e2 : A (x / 5) (x % 5) = S 90 (25 * a + x) := by
        rw [hA]
        unfold rM
        rw [show 25 * a + 5 * (x / 5) + x % 5 = 25 * a + x by omega]
      unfold sQ
      by_cases c : x / 5 < n ∧ x % 5 < n
      · rw [if_pos c]
        exact e2
      · rw [if_neg c, ← e2, hO _ _ (by omega) (by omega) c]
    rw [e, hS1]
    exact ⟨by rw [k_u_n (by decide), k_u_s, z_to_lt hx], by rw [k_u_s, z_to_lt hx]⟩
  have i0 : rI S A n 0 (k_W S1) := ⟨S1, rfl, fun x h1 h2 _ => by rw [hS1, k_u_n h2, k_u_n h1], fun x hx => (m1 x hx).1, fun x hx => (m1 x hx).2⟩
  have run : ∃ h', m_X6_meanOf [vR 85, vI (a : Int), vI w] (k_W S) = some (.inl (some (vI (if w = 0 then (fRd (fSt A n n)).1 else (fRd (fSt A n n)).2))), h') ∧ rI S A n n h' := by
    unfold m_X6_meanOf
    rw [k_v85]
    apply q_bodyV
    have b6 : INF = 1000000 := rfl
    simp only [b_X6_meanOf, h89, e1, k_v85, k_o85, k_r0, k_r1, k_r2, k_r3, k_r4, k_r5, k_r6, k_r7, k_r8, k_r9, k_r10, k_r11, k_r12, k_r13, k_r14, k_r15, k_r16, k_r17, k_r18, k_rl, k_sc, k_st, k_a86, k_s86, k_a87, k_s87, k_a88, k_s88, k_a89, k_s89, k_a90, k_s90, k_a91, k_s91, k_a92, k_s92, k_a93, k_s93, k_a94, k_s94, k_a95, k_s95, k_a96, k_s96, k_a97, k_s97, k_a98, k_s98, k_a99, k_s99, k_a100, k_s100, k_a101, k_s101, k_a102, k_s102, k_u_s, k_u_n, k_u_u, Nat.reduceEqDiff, not_false_eq_true, qS_nop, qS_seq, qS_set, qS_setJ, qS_if, qS_brk, qS_ret, qS_retV, qS_throw, qS_inc, qS_cl, qS_ast, qS_aop, qS_fst, qS_fop, qS_sw, qT_eC, qT_eCB, qT_eL, qT_eLJ, qT_eLR, qT_eLB, qT_e1, qT_e2, qT_bCmp, qT_bCmpJ, qT_bOr, qT_bNot, qT_eBI, qT_eLd, qT_eLdR, qT_eLen, qT_eF, qT_eFR, qT_aN, qT_aS, qT_eCl, qT_eClR, qT_eClB, qT_some, qT_x, z_nx_N, z_nx_B, z_nx_R, z_nx_X, z_bk_N, z_bk_B, z_bk_R, z_bk_X, oAdd, oSub, oMul, oNeg, cLt, cLe, cGt, cGe, cEq, cNe, Option.some.injEq, Sum.inl.injEq, Sum.inr.injEq, Prod.mk.injEq, exists_eq_left, exists_eq_left', exists_eq_right, exists_and_left, reduceCtorEq, and_true, true_and, and_false, false_and, List.getElem?_cons_zero, List.getElem?_cons_succ, List.set_cons_zero, List.set_cons_succ, List.replicate, List.length_cons, List.length_nil, List.cons_append, List.nil_append, Nat.reduceAdd, Nat.reduceSub, decide_eq_true_eq, decide_eq_false_iff_not, Bool.true_eq_false, Bool.false_eq_true, true_implies, false_implies, implies_true, Nat.reduceLT, exists_const, z_vB_inj, and_assoc, z_in_iff, oI2L, oL2I, Int.toNat_natCast, z_toNat0, Bool.not_eq_true', Bool.not_eq_false', ne_eq, Bool.not_true, Bool.not_false, Nat.add_zero, Int.add_zero, z_sl_s]
    repeat (refine And.intro (by omega) ?_)
    refine qS_loop (fun k ρ h' => rI S A n k h' ∧ ∃ x y, ρ = [vR 85, vI (a : Int), vI w, vI (n : Int), vI (fSt A n k).1, vI (fSt A n k).2, vI ((k : Int) + 1), x, y]) n ?_ ?_ n 0 z_fuel _ _ (by omega) (z_fuel_lt (by omega)) ⟨i0, _, _, rfl⟩
    · rintro k ρ h' hk ⟨⟨T, rfl, t1, t2, t3⟩, x, y, rfl⟩
      have rb := rf_roundBy (S := T) (n := n) hn.2 (fun x hx => by rw [t2 x hx]; have := sQ_b2 (n := n) hW (show k ≤ 5 by omega) (x := x); omega)
      have zz : z_mn (fun k => T 91 (5 * k + k)) n = z_mn (fun r => sP A n k r r) n := z_mn_eq (fun r hr => by
        rw [t2 _ (by omega)]
        unfold sQ
        rw [show (5 * r + r) / 5 = r by omega, show (5 * r + r) % 5 = r by omega, if_pos ⟨hr, hr⟩])
      rw [zz] at rb
      have st := rf_steps (S := T) (n := n) hn.2 (fun x y hx hy => by unfold rA; rw [t2 _ (by omega)]; have := sQ_b2 (n := n) hW (show k ≤ 5 by omega) (x := 5 * x + y); omega) (fun x y hx hy => by unfold rA; rw [t3 _ (by omega)]; have := sQ_b2 (n := n) hW (show 0 ≤ 5 by omega) (x := 5 * x + y); omega)
      have nx : rI S A n (k + 1) (k_W (rSt n T)) := by
        refine ⟨_, rfl, fun x h1 h2 h3 => ?_, fun x hx => ?_, fun x hx => ?_⟩
        · unfold rSt
          rw [k_u_n h1, k_u_n h3]
          exact t1 x h1 h2 h3
        · unfold rSt
          rw [k_u_s, z_to_lt hx]
          exact sQ_s hn.2 T k t2 t3 x hx
        · unfold rSt
          rw [k_u_n (by decide), k_u_n (by decide)]
          exact t3 x hx
      have fb := fSt_b hn.2 hW k (by omega)
      have zb := z_mn_b (fun r => sP A n k r r) (-600000) (by decide) n (fun r hr => by have := sP_b2 hW k hr hr; omega)
      have zl := z_mn_le (fun r => sP A n k r r) n
      have ev : fSt A n (k + 1) = fUp (z_mn (fun r => sP A n k r r) n) ((k : Int) + 1) (fSt A n k) := rfl
      rw [ev]
      generalize fSt A n k = p at *
      obtain ⟨p1, p2⟩ := p
      simp only at fb
      generalize z_mn (fun r => sP A n k r r) n = z at *
      have c1 := fun v0 v1 v2 v3 v8 h => rf_mn1 (z := z) (p := p1) (u := p2) (k := (k : Int) + 1) (v0 := v0) (v1 := v1) (v2 := v2) (v3 := v3) (v8 := v8) (h := h) ⟨by omega, by omega⟩ ⟨by omega, by omega⟩ ⟨by omega, by omega⟩ ⟨by omega, by omega⟩
      have fu : ∀ c : Bool, c = z_dec (z ≠ INF ∧ (p1 = INF ∨ z * p2 < p1 * ((k : Int) + 1))) → fUp z ((k : Int) + 1) (p1, p2) = (if c = true then z else p1, if c = true then (k : Int) + 1 else p2) := fun c hc => by
        unfold fUp
        by_cases q : z ≠ INF ∧ (p1 = INF ∨ z * p2 < p1 * ((k : Int) + 1))
        · rw [if_pos q, hc, (z_dec_iff _).mpr q]
          rfl
        · rw [if_neg q, hc, (z_dec_f _).mpr q]
          rfl
      have fu := fu _ rfl
      rw [fu]
      clear fu
      generalize z_dec (z ≠ INF ∧ (p1 = INF ∨ z * p2 < p1 * ((k : Int) + 1))) = c at c1 ⊢
      simp only [rb, c1, rf_mn2, rf_mn3, st, qS_nop, qS_seq, qS_set, qS_setJ, qS_if, qS_brk, qS_ret, qS_retV, qS_throw, qS_inc, qS_cl, qS_ast, qS_aop, qS_fst, qS_fop, qS_sw, qT_eC, qT_eCB, qT_eL, qT_eLJ, qT_eLR, qT_eLB, qT_e1, qT_e2, qT_bCmp, qT_bCmpJ, qT_bOr, qT_bNot, qT_eBI, qT_eLd, qT_eLdR, qT_eLen, qT_eF, qT_eFR, qT_aN, qT_aS, qT_eCl, qT_eClR, qT_eClB, qT_some, qT_x, z_nx_N, z_nx_B, z_nx_R, z_nx_X, z_bk_N, z_bk_B, z_bk_R, z_bk_X, oAdd, oSub, oMul, oNeg, cLt, cLe, cGt, cGe, cEq, cNe, Option.some.injEq, Sum.inl.injEq, Sum.inr.injEq, Prod.mk.injEq, exists_eq_left, exists_eq_left', exists_eq_right, exists_and_left, reduceCtorEq, and_true, true_and, and_false, false_and, List.getElem?_cons_zero, List.getElem?_cons_succ, List.set_cons_zero, List.set_cons_succ, List.replicate, List.length_cons, List.length_nil, List.cons_append, List.nil_append, Nat.reduceAdd, Nat.reduceSub, decide_eq_true_eq, decide_eq_false_iff_not, Bool.true_eq_false, Bool.false_eq_true, true_implies, false_implies, implies_true, Nat.reduceLT, exists_const, z_vB_inj, and_assoc, z_in_iff, oI2L, oL2I, Int.toNat_natCast, z_toNat0, Bool.not_eq_true', Bool.not_eq_false', ne_eq, Bool.not_true, Bool.not_false, Nat.add_zero, Int.add_zero, z_sl_s]
      repeat (refine And.intro (by omega) ?_)
      first | exact ⟨nx, _, _, rfl⟩ | exact ⟨_, _, rfl⟩
    · rintro ρ h' ⟨f, x, y, rfl⟩
      have fb := fSt_b hn.2 hW n (Nat.le_refl n)
      generalize fSt A n n = p at *
      obtain ⟨p1, p2⟩ := p
      simp only at fb
      have cm := fun h : z_Hp => rf_common (h := h) (x := p1) (y := p2) ⟨by omega, by omega⟩ ⟨by omega, by omega⟩
      have gd := fG_d (p1, p2) fb.2.1
      have g2 : fG (p1, p2) ≤ 5 := by
        have : Nat.gcd p1.natAbs p2.toNat ≤ p2.toNat := Nat.le_of_dvd (by omega) (Nat.gcd_dvd_right _ _)
        show ((Nat.gcd p1.natAbs p2.toNat : Nat) : Int) ≤ 5
        omega
      have ge : ((Nat.gcd p1.natAbs p2.toNat : Nat) : Int) = fG (p1, p2) := rfl
      rw [ge] at cm
      have dA : oDiv p1 (fG (p1, p2)) = some (p1.tdiv (fG (p1, p2))) := by
        unfold oDiv
        rw [if_pos (by simp only [Bool.and_eq_true, z_in_iff, decide_eq_true_eq]; omega)]
      have dB : oDiv p2 (fG (p1, p2)) = some (p2.tdiv (fG (p1, p2))) := by
        unfold oDiv
        rw [if_pos (by simp only [Bool.and_eq_true, z_in_iff, decide_eq_true_eq]; omega)]
      have fd : fRd (p1, p2) = if p1 = INF then (0, -1) else (p1.tdiv (fG (p1, p2)), p2.tdiv (fG (p1, p2))) := rfl
      rw [fd]
      generalize fG (p1, p2) = D at *
      have m5 := fun v0 v1 v2 v3 v6 v7 v8 h => rf_mn5 (p := p1) (u := p2) (D := D) (v0 := v0) (v1 := v1) (v2 := v2) (v3 := v3) (v6 := v6) (v7 := v7) (v8 := v8) (h := h) (by omega) cm
      have m6 := fun v0 v1 v3 v7 v8 h => rf_mn6 (p := p1) (u := p2) (D := D) (w := w) (v0 := v0) (v1 := v1) (v3 := v3) (v7 := v7) (v8 := v8) (h := h) (by omega) hw dA dB
      clear cm dA dB gd ge fd
      simp only [m5, m6, qS_nop, qS_seq, qS_set, qS_setJ, qS_if, qS_brk, qS_ret, qS_retV, qS_throw, qS_inc, qS_cl, qS_ast, qS_aop, qS_fst, qS_fop, qS_sw, qT_eC, qT_eCB, qT_eL, qT_eLJ, qT_eLR, qT_eLB, qT_e1, qT_e2, qT_bCmp, qT_bCmpJ, qT_bOr, qT_bNot, qT_eBI, qT_eLd, qT_eLdR, qT_eLen, qT_eF, qT_eFR, qT_aN, qT_aS, qT_eCl, qT_eClR, qT_eClB, qT_some, qT_x, z_nx_N, z_nx_B, z_nx_R, z_nx_X, z_bk_N, z_bk_B, z_bk_R, z_bk_X, oAdd, oSub, oMul, oNeg, cLt, cLe, cGt, cGe, cEq, cNe, Option.some.injEq, Sum.inl.injEq, Sum.inr.injEq, Prod.mk.injEq, exists_eq_left, exists_eq_left', exists_eq_right, exists_and_left, reduceCtorEq, and_true, true_and, and_false, false_and, List.getElem?_cons_zero, List.getElem?_cons_succ, List.set_cons_zero, List.set_cons_succ, List.replicate, List.length_cons, List.length_nil, List.cons_append, List.nil_append, Nat.reduceAdd, Nat.reduceSub, decide_eq_true_eq, decide_eq_false_iff_not, Bool.true_eq_false, Bool.false_eq_true, true_implies, false_implies, implies_true, Nat.reduceLT, exists_const, z_vB_inj, and_assoc, z_in_iff, oI2L, oL2I, Int.toNat_natCast, z_toNat0, Bool.not_eq_true', Bool.not_eq_false', ne_eq, Bool.not_true, Bool.not_false, Nat.add_zero, Int.add_zero, z_sl_s]
      repeat (refine And.intro (by omega) ?_)
      first | exact ⟨rfl, f⟩ | exact f | exact trivial | rfl | done
  obtain ⟨h', r1, T, rfl, t1, -, -⟩ := run
  exact ⟨T, r1, t1⟩
theorem op_mean (I : kInv S) {p : Int} {w : Int} (hp : kR p) (hw : kR w) : kOp m_X5_mean m_X6_mean kIO kIA [vI p, vI w] S := by
  have b6 : INF = 1000000 := rfl
  by_cases q0 : 0 ≤ p ∧ p ≤ 3
  rotate_left
  · have c0 := s_nH0 hp q0
    have r0 := rf_one0 hp q0
    refine kOp.x1 (r := vI 0) (S1 := S) (S2 := fun g => k_t (k_u S 103 g) 1) ?_ (fun g => ?_) (fun g => I.t g 1) (fun g => k_t_103) (fun g => k_t_1)
    · unfold m_X5_mean
      rw [k_v0]
      apply q_body
      have b6 : INF = 1000000 := rfl
      simp only [b_X5_mean, c0, qS_nop, qS_seq, qS_set, qS_setJ, qS_if, qS_brk, qS_ret, qS_retV, qS_throw, qS_inc, qS_cl, qS_ast, qS_aop, qS_fst, qS_fop, qS_sw, qT_eC, qT_eCB, qT_eL, qT_eLJ, qT_eLR, qT_eLB, qT_e1, qT_e2, qT_bCmp, qT_bCmpJ, qT_bAnd, qT_bOr, qT_bNot, qT_eBI, qT_eIf, qT_eLd, qT_eLdR, qT_eLen, qT_eF, qT_eFR, qT_aN, qT_aS, qT_eCl, qT_eClR, qT_eClB, qT_some, qT_x, z_nx_N, z_nx_B, z_nx_R, z_nx_X, z_bk_N, z_bk_B, z_bk_R, z_bk_X, oAdd, oSub, oMul, oNeg, cLt, cLe, cGt, cGe, cEq, cNe, Option.some.injEq, Sum.inl.injEq, Sum.inr.injEq, Prod.mk.injEq, exists_eq_left, exists_eq_left', exists_eq_right, exists_and_left, reduceCtorEq, and_true, true_and, and_false, false_and, List.getElem?_cons_zero, List.getElem?_cons_succ, List.set_cons_zero, List.set_cons_succ, List.replicate, List.length_cons, List.length_nil, List.cons_append, List.nil_append, Nat.reduceAdd, Nat.reduceSub, decide_eq_true_eq, decide_eq_false_iff_not, Bool.true_eq_false, Bool.false_eq_true, true_implies, false_implies, implies_true, Nat.reduceLT, exists_const, z_vB_inj, and_assoc, z_in_iff, oI2L, oL2I, Int.toNat_natCast, z_toNat0, Bool.not_eq_true', Bool.not_eq_false', ne_eq, Bool.not_true, Bool.not_false, Nat.add_zero, Int.add_zero, z_sl_s]
    · unfold m_X6_mean
      rw [k_v85]
      apply q_body
      have b6 : INF = 1000000 := rfl
      simp only [b_X6_mean, r0, rf_can1, z_vB1, z_vB0, if_true, if_false, not_true_eq_false, not_false_eq_true, k_t_n, k_t_1, exists_eq, k_v85, k_o85, k_r0, k_r1, k_r2, k_r3, k_r4, k_r5, k_r6, k_r7, k_r8, k_r9, k_r10, k_r11, k_r12, k_r13, k_r14, k_r15, k_r16, k_r17, k_r18, k_rl, k_sc, k_st, k_a86, k_s86, k_a87, k_s87, k_a88, k_s88, k_a89, k_s89, k_a90, k_s90, k_a91, k_s91, k_a92, k_s92, k_a93, k_s93, k_a94, k_s94, k_a95, k_s95, k_a96, k_s96, k_a97, k_s97, k_a98, k_s98, k_a99, k_s99, k_a100, k_s100, k_a101, k_s101, k_a102, k_s102, k_u_s, k_u_n, k_u_u, Nat.reduceEqDiff, not_false_eq_true, qS_nop, qS_seq, qS_set, qS_setJ, qS_if, qS_brk, qS_ret, qS_retV, qS_throw, qS_inc, qS_cl, qS_ast, qS_aop, qS_fst, qS_fop, qS_sw, qT_eC, qT_eCB, qT_eL, qT_eLJ, qT_eLR, qT_eLB, qT_e1, qT_e2, qT_bCmp, qT_bCmpJ, qT_bAnd, qT_bOr, qT_bNot, qT_eBI, qT_eIf, qT_eLd, qT_eLdR, qT_eLen, qT_eF, qT_eFR, qT_aN, qT_aS, qT_eCl, qT_eClR, qT_eClB, qT_some, qT_x, z_nx_N, z_nx_B, z_nx_R, z_nx_X, z_bk_N, z_bk_B, z_bk_R, z_bk_X, oAdd, oSub, oMul, oNeg, cLt, cLe, cGt, cGe, cEq, cNe, Option.some.injEq, Sum.inl.injEq, Sum.inr.injEq, Prod.mk.injEq, exists_eq_left, exists_eq_left', exists_eq_right, exists_and_left, reduceCtorEq, and_true, true_and, and_false, false_and, List.getElem?_cons_zero, List.getElem?_cons_succ, List.set_cons_zero, List.set_cons_succ, List.replicate, List.length_cons, List.length_nil, List.cons_append, List.nil_append, Nat.reduceAdd, Nat.reduceSub, decide_eq_true_eq, decide_eq_false_iff_not, Bool.true_eq_false, Bool.false_eq_true, true_implies, false_implies, implies_true, Nat.reduceLT, exists_const, z_vB_inj, and_assoc, z_in_iff, oI2L, oL2I, Int.toNat_natCast, z_toNat0, Bool.not_eq_true', Bool.not_eq_false', ne_eq, Bool.not_true, Bool.not_false, Nat.add_zero, Int.add_zero, z_sl_s]
  by_cases q1 : 0 ≤ w ∧ w ≤ 1
  rotate_left
  · have c0 := s_nH1 (i := p) q0
    have r0 := rf_one1 (i := p) q0
    have c1 := s_nW0 (n := w) (a := 0) (b := 1) hw (by decide) (by decide) q1
    have r1 := rf_in0 (n := w) (a := 0) (b := 1) hw (by decide) (by decide) q1
    refine kOp.x2 (r := vI 0) (S1 := S) (S2 := fun g => k_t (k_u S 103 g) 2) ?_ (fun g => ?_) (fun g => I.t g 2) (fun g => k_t_103) (fun g => k_t_1)
    · unfold m_X5_mean
      rw [k_v0]
      apply q_body
      have b6 : INF = 1000000 := rfl
      simp only [b_X5_mean, c0, c1, qS_nop, qS_seq, qS_set, qS_setJ, qS_if, qS_brk, qS_ret, qS_retV, qS_throw, qS_inc, qS_cl, qS_ast, qS_aop, qS_fst, qS_fop, qS_sw, qT_eC, qT_eCB, qT_eL, qT_eLJ, qT_eLR, qT_eLB, qT_e1, qT_e2, qT_bCmp, qT_bCmpJ, qT_bAnd, qT_bOr, qT_bNot, qT_eBI, qT_eIf, qT_eLd, qT_eLdR, qT_eLen, qT_eF, qT_eFR, qT_aN, qT_aS, qT_eCl, qT_eClR, qT_eClB, qT_some, qT_x, z_nx_N, z_nx_B, z_nx_R, z_nx_X, z_bk_N, z_bk_B, z_bk_R, z_bk_X, oAdd, oSub, oMul, oNeg, cLt, cLe, cGt, cGe, cEq, cNe, Option.some.injEq, Sum.inl.injEq, Sum.inr.injEq, Prod.mk.injEq, exists_eq_left, exists_eq_left', exists_eq_right, exists_and_left, reduceCtorEq, and_true, true_and, and_false, false_and, List.getElem?_cons_zero, List.getElem?_cons_succ, List.set_cons_zero, List.set_cons_succ, List.replicate, List.length_cons, List.length_nil, List.cons_append, List.nil_append, Nat.reduceAdd, Nat.reduceSub, decide_eq_true_eq, decide_eq_false_iff_not, Bool.true_eq_false, Bool.false_eq_true, true_implies, false_implies, implies_true, Nat.reduceLT, exists_const, z_vB_inj, and_assoc, z_in_iff, oI2L, oL2I, Int.toNat_natCast, z_toNat0, Bool.not_eq_true', Bool.not_eq_false', ne_eq, Bool.not_true, Bool.not_false, Nat.add_zero, Int.add_zero, z_sl_s]
    · unfold m_X6_mean
      rw [k_v85]
      apply q_body
      have b6 : INF = 1000000 := rfl
      simp only [b_X6_mean, r0, r1, rf_can2, z_vB1, z_vB0, if_true, if_false, not_true_eq_false, not_false_eq_true, k_t_n, k_t_1, exists_eq, k_v85, k_o85, k_r0, k_r1, k_r2, k_r3, k_r4, k_r5, k_r6, k_r7, k_r8, k_r9, k_r10, k_r11, k_r12, k_r13, k_r14, k_r15, k_r16, k_r17, k_r18, k_rl, k_sc, k_st, k_a86, k_s86, k_a87, k_s87, k_a88, k_s88, k_a89, k_s89, k_a90, k_s90, k_a91, k_s91, k_a92, k_s92, k_a93, k_s93, k_a94, k_s94, k_a95, k_s95, k_a96, k_s96, k_a97, k_s97, k_a98, k_s98, k_a99, k_s99, k_a100, k_s100, k_a101, k_s101, k_a102, k_s102, k_u_s, k_u_n, k_u_u, Nat.reduceEqDiff, not_false_eq_true, qS_nop, qS_seq, qS_set, qS_setJ, qS_if, qS_brk, qS_ret, qS_retV, qS_throw, qS_inc, qS_cl, qS_ast, qS_aop, qS_fst, qS_fop, qS_sw, qT_eC, qT_eCB, qT_eL, qT_eLJ, qT_eLR, qT_eLB, qT_e1, qT_e2, qT_bCmp, qT_bCmpJ, qT_bAnd, qT_bOr, qT_bNot, qT_eBI, qT_eIf, qT_eLd, qT_eLdR, qT_eLen, qT_eF, qT_eFR, qT_aN, qT_aS, qT_eCl, qT_eClR, qT_eClB, qT_some, qT_x, z_nx_N, z_nx_B, z_nx_R, z_nx_X, z_bk_N, z_bk_B, z_bk_R, z_bk_X, oAdd, oSub, oMul, oNeg, cLt, cLe, cGt, cGe, cEq, cNe, Option.some.injEq, Sum.inl.injEq, Sum.inr.injEq, Prod.mk.injEq, exists_eq_left, exists_eq_left', exists_eq_right, exists_and_left, reduceCtorEq, and_true, true_and, and_false, false_and, List.getElem?_cons_zero, List.getElem?_cons_succ, List.set_cons_zero, List.set_cons_succ, List.replicate, List.length_cons, List.length_nil, List.cons_append, List.nil_append, Nat.reduceAdd, Nat.reduceSub, decide_eq_true_eq, decide_eq_false_iff_not, Bool.true_eq_false, Bool.false_eq_true, true_implies, false_implies, implies_true, Nat.reduceLT, exists_const, z_vB_inj, and_assoc, z_in_iff, oI2L, oL2I, Int.toNat_natCast, z_toNat0, Bool.not_eq_true', Bool.not_eq_false', ne_eq, Bool.not_true, Bool.not_false, Nat.add_zero, Int.add_zero, z_sl_s]
  have c0 := s_nH1 (i := p) q0
  have r0 := rf_one1 (i := p) q0
  have c1 := s_nW1 (n := w) (a := 0) (b := 1) (by decide) (by decide) q1
  have r1 := rf_in1 (n := w) (a := 0) (b := 1) (by decide) (by decide) q1
  obtain ⟨i, rfl⟩ : ∃ i : Nat, p = i := ⟨p.toNat, by omega⟩
  have h_i : i < 4 := by omega
  obtain ⟨n, nb, n51, n89, nB, nE, nW, nN⟩ := I.mm h_i
  have r2 := k_2r h_i
  obtain ⟨T, x1, To, k5, f0, f1⟩ := s_meanOf I h_i nb n51 nB nE nW
  have rm := fun g => rf_meanOf (S := k_t (k_u T 103 g) 0) (n := n) (w := w) h_i nb q1 (by rw [k_t_n (by decide), k_u_n (by decide), To 89 (by unfold kFree; omega) (by omega)]; exact n89) (by rw [rM_u (show (k_t (k_u T 103 g) 0) 90 = S 90 by rw [k_t_n (by decide), k_u_n (by decide), To 90 (by unfold kFree; omega) (by omega)])]; exact I.mb h_i) (by rw [rM_u (show (k_t (k_u T 103 g) 0) 90 = S 90 by rw [k_t_n (by decide), k_u_n (by decide), To 90 (by unfold kFree; omega) (by omega)])]; exact nW) (by rw [rM_u (show (k_t (k_u T 103 g) 0) 90 = S 90 by rw [k_t_n (by decide), k_u_n (by decide), To 90 (by unfold kFree; omega) (by omega)])]; exact nN)
  refine ⟨_, T, (?_ : _ = some (.inl (some (vI (if w = 0 then (fRd (fSt (rM S i) n n)).1 else (fRd (fSt (rM S i) n n)).2))), k_W T)), fun g => ?_⟩
  · have k45 : z_obj (k_W T) 45 1 = some [vI (T 45 0), vI (T 45 1)] := k_obj (by decide) rfl
    rw [← f0, ← f1]
    by_cases qw : w = 0
    · subst qw
      unfold m_X5_mean
      rw [k_v0]
      apply q_body
      have b6 : INF = 1000000 := rfl
      simp only [b_X5_mean, c0, c1, k_o0, k_a2, r2, x1, k45, z_vB1, z_vB0, if_true, if_false, not_true_eq_false, not_false_eq_true, k_t_n, k_t_1, exists_eq, qS_nop, qS_seq, qS_set, qS_setJ, qS_if, qS_brk, qS_ret, qS_retV, qS_throw, qS_inc, qS_cl, qS_ast, qS_aop, qS_fst, qS_fop, qS_sw, qT_eC, qT_eCB, qT_eL, qT_eLJ, qT_eLR, qT_eLB, qT_e1, qT_e2, qT_bCmp, qT_bCmpJ, qT_bAnd, qT_bOr, qT_bNot, qT_eBI, qT_eIf, qT_eLd, qT_eLdR, qT_eLen, qT_eF, qT_eFR, qT_aN, qT_aS, qT_eCl, qT_eClR, qT_eClB, qT_some, qT_x, z_nx_N, z_nx_B, z_nx_R, z_nx_X, z_bk_N, z_bk_B, z_bk_R, z_bk_X, oAdd, oSub, oMul, oNeg, cLt, cLe, cGt, cGe, cEq, cNe, Option.some.injEq, Sum.inl.injEq, Sum.inr.injEq, Prod.mk.injEq, exists_eq_left, exists_eq_left', exists_eq_right, exists_and_left, reduceCtorEq, and_true, true_and, and_false, false_and, List.getElem?_cons_zero, List.getElem?_cons_succ, List.set_cons_zero, List.set_cons_succ, List.replicate, List.length_cons, List.length_nil, List.cons_append, List.nil_append, Nat.reduceAdd, Nat.reduceSub, decide_eq_true_eq, decide_eq_false_iff_not, Bool.true_eq_false, Bool.false_eq_true, true_implies, false_implies, implies_true, Nat.reduceLT, exists_const, z_vB_inj, and_assoc, z_in_iff, oI2L, oL2I, Int.toNat_natCast, z_toNat0, Bool.not_eq_true', Bool.not_eq_false', ne_eq, Bool.not_true, Bool.not_false, Nat.add_zero, Int.add_zero, z_sl_s]
      omega
    · unfold m_X5_mean
      rw [k_v0]
      apply q_body
      have b6 : INF = 1000000 := rfl
      simp only [b_X5_mean, c0, c1, k_o0, k_a2, r2, x1, k45, qw, z_vB1, z_vB0, if_true, if_false, not_true_eq_false, not_false_eq_true, k_t_n, k_t_1, exists_eq, qS_nop, qS_seq, qS_set, qS_setJ, qS_if, qS_brk, qS_ret, qS_retV, qS_throw, qS_inc, qS_cl, qS_ast, qS_aop, qS_fst, qS_fop, qS_sw, qT_eC, qT_eCB, qT_eL, qT_eLJ, qT_eLR, qT_eLB, qT_e1, qT_e2, qT_bCmp, qT_bCmpJ, qT_bAnd, qT_bOr, qT_bNot, qT_eBI, qT_eIf, qT_eLd, qT_eLdR, qT_eLen, qT_eF, qT_eFR, qT_aN, qT_aS, qT_eCl, qT_eClR, qT_eClB, qT_some, qT_x, z_nx_N, z_nx_B, z_nx_R, z_nx_X, z_bk_N, z_bk_B, z_bk_R, z_bk_X, oAdd, oSub, oMul, oNeg, cLt, cLe, cGt, cGe, cEq, cNe, Option.some.injEq, Sum.inl.injEq, Sum.inr.injEq, Prod.mk.injEq, exists_eq_left, exists_eq_left', exists_eq_right, exists_and_left, reduceCtorEq, and_true, true_and, and_false, false_and, List.getElem?_cons_zero, List.getElem?_cons_succ, List.set_cons_zero, List.set_cons_succ, List.replicate, List.length_cons, List.length_nil, List.cons_append, List.nil_append, Nat.reduceAdd, Nat.reduceSub, decide_eq_true_eq, decide_eq_false_iff_not, Bool.true_eq_false, Bool.false_eq_true, true_implies, false_implies, implies_true, Nat.reduceLT, exists_const, z_vB_inj, and_assoc, z_in_iff, oI2L, oL2I, Int.toNat_natCast, z_toNat0, Bool.not_eq_true', Bool.not_eq_false', ne_eq, Bool.not_true, Bool.not_false, Nat.add_zero, Int.add_zero, z_sl_s]
      omega
  · obtain ⟨V, w1, w2⟩ := rm g
    rw [rM_u (show (k_t (k_u T 103 g) 0) 90 = S 90 by rw [k_t_n (by decide), k_u_n (by decide), To 90 (by unfold kFree; omega) (by omega)])] at w1
    refine ⟨_, V, ?_, (kInv.d I To k5).eq (fun a ha => ?_), ?_, Or.inl ⟨rfl, ?_⟩⟩
    · unfold m_X6_mean
      rw [k_v85]
      apply q_body
      have b6 : INF = 1000000 := rfl
      simp only [b_X6_mean, r0, r1, rf_can0, w1, z_vB1, z_vB0, if_true, if_false, not_true_eq_false, not_false_eq_true, k_t_n, k_t_1, exists_eq, qS_nop, qS_seq, qS_set, qS_setJ, qS_if, qS_brk, qS_ret, qS_retV, qS_throw, qS_inc, qS_cl, qS_ast, qS_aop, qS_fst, qS_fop, qS_sw, qT_eC, qT_eCB, qT_eL, qT_eLJ, qT_eLR, qT_eLB, qT_e1, qT_e2, qT_bCmp, qT_bCmpJ, qT_bAnd, qT_bOr, qT_bNot, qT_eBI, qT_eIf, qT_eLd, qT_eLdR, qT_eLen, qT_eF, qT_eFR, qT_aN, qT_aS, qT_eCl, qT_eClR, qT_eClB, qT_some, qT_x, z_nx_N, z_nx_B, z_nx_R, z_nx_X, z_bk_N, z_bk_B, z_bk_R, z_bk_X, oAdd, oSub, oMul, oNeg, cLt, cLe, cGt, cGe, cEq, cNe, Option.some.injEq, Sum.inl.injEq, Sum.inr.injEq, Prod.mk.injEq, exists_eq_left, exists_eq_left', exists_eq_right, exists_and_left, reduceCtorEq, and_true, true_and, and_false, false_and, List.getElem?_cons_zero, List.getElem?_cons_succ, List.set_cons_zero, List.set_cons_succ, List.replicate, List.length_cons, List.length_nil, List.cons_append, List.nil_append, Nat.reduceAdd, Nat.reduceSub, decide_eq_true_eq, decide_eq_false_iff_not, Bool.true_eq_false, Bool.false_eq_true, true_implies, false_implies, implies_true, Nat.reduceLT, exists_const, z_vB_inj, and_assoc, z_in_iff, oI2L, oL2I, Int.toNat_natCast, z_toNat0, Bool.not_eq_true', Bool.not_eq_false', ne_eq, Bool.not_true, Bool.not_false, Nat.add_zero, Int.add_zero, z_sl_s]
      try omega
    · rw [w2 a (fun e => ha (by subst e; unfold kFree; omega)) (fun e => ha (by subst e; unfold kFree; omega)) (fun e => ha (by subst e; unfold kFree; omega)), k_t_n (fun e => ha (by subst e; unfold kFree; omega)), k_u_n (fun e => ha (by subst e; unfold kFree; omega))]
    · rw [w2 _ (by decide) (by decide) (by decide), k_t_103]
    · rw [w2 _ (by decide) (by decide) (by decide), k_t_1]
end FMr
