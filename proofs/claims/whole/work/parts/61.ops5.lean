/-! THE FACE: matrices set and asked -/
section FM
variable {S : Nat → Nat → Int}
/-- a matrix in both -/
def kM (S : Nat → Nat → Int) (i : Nat) : Prop := ∃ n : Nat, 1 ≤ n ∧ n ≤ 5 ∧ S (51 + 9 * i) 0 = (n : Int) ∧ S 89 i = (n : Int) ∧ mBd (kF S (53 + 9 * i) 5) 1000000000 ∧ (∀ x y, x < n → y < n → rM S i x y = S (53 + 9 * i + x) y ∧ (rM S i x y = INF ∨ (-99999 ≤ rM S i x y ∧ rM S i x y ≤ 99999))) ∧ (∀ x y, x < 5 → y < 5 → ¬ (x < n ∧ y < n) → rM S i x y = INF)
theorem kM.eq {S S' : Nat → Nat → Int} {i : Nat} (h : kM S i) (e1 : S' (51 + 9 * i) = S (51 + 9 * i)) (e2 : ∀ x, x < 5 → S' (53 + 9 * i + x) = S (53 + 9 * i + x)) (e3 : S' 89 i = S 89 i) (e4 : ∀ x y, x < 5 → y < 5 → rM S' i x y = rM S i x y) : kM S' i := by
  obtain ⟨n, a1, a2, a3, a4, a5, a6, a7⟩ := h
  refine ⟨n, a1, a2, by rw [e1]; exact a3, by rw [e3]; exact a4, by rw [kF_e e2]; exact a5, fun x y hx hy => ?_, fun x y hx hy hn => ?_⟩
  · rw [e2 x (by omega), e4 x y (by omega) (by omega)]
    exact a6 x y hx hy
  · rw [e4 x y hx hy]
    exact a7 x y hx hy hn
/-- a matrix is set in both -/
theorem kInv.m {S S' : Nat → Nat → Int} (h : kInv S) {i : Nat} (hi : i < 4) (k : kM S' i) (k5 : kI5 S') (e : ∀ a, ¬ kFree a → a ≠ 89 → a ≠ 90 → ¬ (51 + 9 * i ≤ a ∧ a ≤ 57 + 9 * i) → ¬ (30 ≤ a ∧ a ≤ 43) → S' a = S a) (e89 : ∀ j, j ≠ i → S' 89 j = S 89 j) (e90 : ∀ x, ¬ (25 * i ≤ x ∧ x < 25 * i + 25) → S' 90 x = S 90 x) : kInv S' := by
  refine ⟨h.1.eq (fun i hi => e _ (by unfold kFree; omega) (by omega) (by omega) (by omega) (by omega)) (e _ (by unfold kFree; omega) (by omega) (by omega) (by omega) (by omega)), fun j hj => ?_, h.2.2.1.eq (fun i hi => e _ (by unfold kFree; omega) (by omega) (by omega) (by omega) (by omega)) (e _ (by unfold kFree; omega) (by omega) (by omega) (by omega) (by omega)), h.2.2.2.1.eq (fun i hi => e _ (by unfold kFree; omega) (by omega) (by omega) (by omega) (by omega)) (e _ (by unfold kFree; omega) (by omega) (by omega) (by omega) (by omega)) (e _ (by unfold kFree; omega) (by omega) (by omega) (by omega) (by omega)) (e _ (by unfold kFree; omega) (by omega) (by omega) (by omega) (by omega)), k5⟩
  by_cases c : j = i
  · subst c
    exact k
  · exact kM.eq (h.2.1 j hj) (e _ (by unfold kFree; omega) (by omega) (by omega) (by omega) (by omega)) (fun x hx => e _ (by unfold kFree; omega) (by omega) (by omega) (by omega) (by omega)) (e89 j c) (fun x y hx hy => e90 _ (by omega))
def k_mt (S : Nat → Nat → Int) (o r n : Nat) (M : Nat → Nat → Int) : Nat → Nat → Int := fun a => if a = o then z_up (S a) 0 (n : Int) else if r ≤ a ∧ a < r + 5 then M (a - r) else S a
theorem k_mt_n {S : Nat → Nat → Int} {o r n : Nat} {M : Nat → Nat → Int} {a : Nat} (h : a ≠ o) (h2 : ¬ (r ≤ a ∧ a < r + 5)) : k_mt S o r n M a = S a := by
  unfold k_mt
  rw [if_neg h, if_neg h2]
theorem k_mt_r {S : Nat → Nat → Int} {o r n : Nat} {M : Nat → Nat → Int} {x : Nat} (h : r + x ≠ o) (h2 : x < 5) : k_mt S o r n M (r + x) = M x := by
  unfold k_mt
  rw [if_neg h, if_pos (by omega), Nat.add_sub_cancel_left]
theorem k_mt_o {S : Nat → Nat → Int} {o r n : Nat} {M : Nat → Nat → Int} : k_mt S o r n M o 0 = (n : Int) := by
  unfold k_mt
  rw [if_pos rfl]
  simp [z_up]
/-- a heap in which a matrix alone has changed is a world -/
theorem k_back {S : Nat → Nat → Int} {o e r n : Nat} {M : Nat → Nat → Int} {h' : z_Hp} (hC : ∀ f, k_C o f = .inl (2, [vR e, vI (f 0)])) (hR : ∀ j, j < 5 → ∀ f, k_C (r + j) f = .inr (0, 5, f)) (ho : o < 103) (hr : r + 5 ≤ 103) (hor : o < r) (a : mAt h' o e r n M) (f : z_fr (fun q => q = o ∨ mRow r q) (k_W S) h') : h' = k_W (k_mt S o r n M) := by
  have hf : ∀ q, q ≠ o → ¬ (r ≤ q ∧ q < r + 5) → h'[q]? = (k_W S)[q]? := fun q h1 h2 => f q (by rintro (w | w); exact h1 w; exact h2 w)
  refine k_ext ?_ (fun x hx => ?_)
  · have l1 := hf 104 (by omega) (by omega)
    have l2 := hf 103 (by omega) (by omega)
    rw [k_get (by omega)] at l2
    rw [(List.getElem?_eq_none (Nat.le_of_eq (k_len S)) : (k_W S)[104]? = none)] at l1
    have l3 := List.getElem?_eq_none_iff.mp l1
    have l4 : 103 < h'.length := by
      by_cases c : 103 < h'.length
      · exact c
      · rw [List.getElem?_eq_none (by omega)] at l2
        cases l2
    omega
  · by_cases c : x = o
    · subst c
      rw [a.1, hC, k_mt_o]
    · by_cases d : r ≤ x ∧ x < r + 5
      · obtain ⟨y, rfl⟩ : ∃ y, x = r + y := ⟨x - r, by omega⟩
        rw [a.2.2 y (by omega), hR y (by omega), k_mt_r c (by omega)]
      · rw [hf x c d, k_get hx, k_mt_n c d]
theorem k_5r {i x : Nat} (hx : x < 5) : (if x < 5 then ((53 + 9 * i + 1 * x : Nat) : Int) else -1) = ((53 + 9 * i + x : Nat) : Int) := by rw [if_pos hx, Nat.one_mul]
theorem k_mo {i : Nat} (hi : i < 4) : z_obj (k_W S) (51 + 9 * i) 2 = some [vR (52 + 9 * i), vI (S (51 + 9 * i) 0)] := k_obj (by omega) (k_mC hi _)
theorem k_me {i : Nat} (hi : i < 4) : z_arr (k_W S) (52 + 9 * i) 4 = some (5, fun j => if j < 5 then ((53 + 9 * i + 1 * j : Nat) : Int) else -1) := k_arr (by omega) (k_eC hi _) (by decide)
theorem k_mr {i x : Nat} (hi : i < 4) (hx : x < 5) : z_arr (k_W S) (53 + 9 * i + x) 0 = some (5, S (53 + 9 * i + x)) := k_arr (by omega) (k_rC hi hx _) (by decide)
theorem k_ms {i x : Nat} (hi : i < 4) (hx : x < 5) (g : Nat → Int) : (k_W S).set (53 + 9 * i + x) (.inr (0, 5, g)) = k_W (k_u S (53 + 9 * i + x) g) := k_set (k_rC hi hx g).symm
theorem kInv.r (I : kInv S) : ∀ m, m < 4 → 1 ≤ S 89 m ∧ S 89 m ≤ 5 := fun m hm => by
  obtain ⟨n, a1, a2, a3, a4, _⟩ := I.2.1 m hm
  omega
abbrev kPl (S : Nat → Nat → Int) (m x y : Int) : Prop := (0 ≤ m ∧ m ≤ 3) ∧ (0 ≤ x ∧ x < S 89 m.toNat) ∧ (0 ≤ y ∧ y < S 89 m.toNat)
theorem s_nE (I : kInv S) {m x y : Int} (hm : kR m) (hx : kR x) (hy : kR y) : m_X5_needEntry [vR 0, vI m, vI x, vI y] (k_W S) = some (if kPl S m x y then .inl none else .inr kIO, k_W S) := by
  by_cases q0 : 0 ≤ m ∧ m ≤ 3
  · have c0 := s_nH1 q0
    obtain ⟨i, rfl⟩ : ∃ i : Nat, m = i := ⟨m.toNat, by omega⟩
    have hi : i < 4 := by omega
    obtain ⟨n, a1, a2, a3, a4, _⟩ := I.2.1 i hi
    have r2 := k_2r hi
    by_cases q1 : 0 ≤ x ∧ x < (n : Int)
    · have c1 := s_nI1 (i := x) (c := (n : Int)) (by omega) q1
      by_cases q2 : 0 ≤ y ∧ y < (n : Int)
      · have c2 := s_nI1 (i := y) (c := (n : Int)) (by omega) q2
        rw [if_pos (by unfold kPl; rw [Int.toNat_natCast, a4]; exact ⟨q0, q1, q2⟩)]
        unfold m_X5_needEntry
        rw [k_v0]
        apply q_body
        have b6 : INF = 1000000 := rfl
        simp only [b_X5_needEntry, c0, k_o0, k_a2, r2, k_mo hi, a3, c1, c2, qS_nop, qS_seq, qS_set, qS_setJ, qS_if, qS_brk, qS_ret, qS_retV, qS_throw, qS_inc, qS_cl, qS_ast, qS_aop, qS_fst, qS_fop, qS_sw, qT_eC, qT_eCB, qT_eL, qT_eLJ, qT_eLR, qT_eLB, qT_e1, qT_e2, qT_bCmp, qT_bCmpJ, qT_bAnd, qT_bOr, qT_bNot, qT_eBI, qT_eIf, qT_eLd, qT_eLdR, qT_eLen, qT_eF, qT_eFR, qT_aN, qT_aS, qT_eCl, qT_eClR, qT_eClB, qT_some, qT_x, z_nx_N, z_nx_B, z_nx_R, z_nx_X, z_bk_N, z_bk_B, z_bk_R, z_bk_X, oAdd, oSub, oMul, oNeg, cLt, cLe, cGt, cGe, cEq, cNe, Option.some.injEq, Sum.inl.injEq, Sum.inr.injEq, Prod.mk.injEq, exists_eq_left, exists_eq_left', exists_eq_right, exists_and_left, reduceCtorEq, and_true, true_and, and_false, false_and, List.getElem?_cons_zero, List.getElem?_cons_succ, List.set_cons_zero, List.set_cons_succ, List.replicate, List.length_cons, List.length_nil, List.cons_append, List.nil_append, Nat.reduceAdd, Nat.reduceSub, decide_eq_true_eq, decide_eq_false_iff_not, Bool.true_eq_false, Bool.false_eq_true, true_implies, false_implies, implies_true, Nat.reduceLT, exists_const, z_vB_inj, and_assoc, z_in_iff, oI2L, oL2I, Int.toNat_natCast, z_toNat0, Bool.not_eq_true', Bool.not_eq_false', ne_eq, Bool.not_true, Bool.not_false, Nat.add_zero, Int.add_zero, z_sl_s]
        omega
      · have c2 := s_nI0 (i := y) (c := (n : Int)) hy (by omega) q2
        rw [if_neg (by unfold kPl; rw [Int.toNat_natCast, a4]; exact fun w => q2 w.2.2)]
        unfold m_X5_needEntry
        rw [k_v0]
        apply q_body
        have b6 : INF = 1000000 := rfl
        simp only [b_X5_needEntry, c0, k_o0, k_a2, r2, k_mo hi, a3, c1, c2, qS_nop, qS_seq, qS_set, qS_setJ, qS_if, qS_brk, qS_ret, qS_retV, qS_throw, qS_inc, qS_cl, qS_ast, qS_aop, qS_fst, qS_fop, qS_sw, qT_eC, qT_eCB, qT_eL, qT_eLJ, qT_eLR, qT_eLB, qT_e1, qT_e2, qT_bCmp, qT_bCmpJ, qT_bAnd, qT_bOr, qT_bNot, qT_eBI, qT_eIf, qT_eLd, qT_eLdR, qT_eLen, qT_eF, qT_eFR, qT_aN, qT_aS, qT_eCl, qT_eClR, qT_eClB, qT_some, qT_x, z_nx_N, z_nx_B, z_nx_R, z_nx_X, z_bk_N, z_bk_B, z_bk_R, z_bk_X, oAdd, oSub, oMul, oNeg, cLt, cLe, cGt, cGe, cEq, cNe, Option.some.injEq, Sum.inl.injEq, Sum.inr.injEq, Prod.mk.injEq, exists_eq_left, exists_eq_left', exists_eq_right, exists_and_left, reduceCtorEq, and_true, true_and, and_false, false_and, List.getElem?_cons_zero, List.getElem?_cons_succ, List.set_cons_zero, List.set_cons_succ, List.replicate, List.length_cons, List.length_nil, List.cons_append, List.nil_append, Nat.reduceAdd, Nat.reduceSub, decide_eq_true_eq, decide_eq_false_iff_not, Bool.true_eq_false, Bool.false_eq_true, true_implies, false_implies, implies_true, Nat.reduceLT, exists_const, z_vB_inj, and_assoc, z_in_iff, oI2L, oL2I, Int.toNat_natCast, z_toNat0, Bool.not_eq_true', Bool.not_eq_false', ne_eq, Bool.not_true, Bool.not_false, Nat.add_zero, Int.add_zero, z_sl_s]
        omega
    · have c1 := s_nI0 (i := x) (c := (n : Int)) hx (by omega) q1
      rw [if_neg (by unfold kPl; rw [Int.toNat_natCast, a4]; exact fun w => q1 w.2.1)]
      unfold m_X5_needEntry
      rw [k_v0]
      apply q_body
      have b6 : INF = 1000000 := rfl
      simp only [b_X5_needEntry, c0, k_o0, k_a2, r2, k_mo hi, a3, c1, qS_nop, qS_seq, qS_set, qS_setJ, qS_if, qS_brk, qS_ret, qS_retV, qS_throw, qS_inc, qS_cl, qS_ast, qS_aop, qS_fst, qS_fop, qS_sw, qT_eC, qT_eCB, qT_eL, qT_eLJ, qT_eLR, qT_eLB, qT_e1, qT_e2, qT_bCmp, qT_bCmpJ, qT_bAnd, qT_bOr, qT_bNot, qT_eBI, qT_eIf, qT_eLd, qT_eLdR, qT_eLen, qT_eF, qT_eFR, qT_aN, qT_aS, qT_eCl, qT_eClR, qT_eClB, qT_some, qT_x, z_nx_N, z_nx_B, z_nx_R, z_nx_X, z_bk_N, z_bk_B, z_bk_R, z_bk_X, oAdd, oSub, oMul, oNeg, cLt, cLe, cGt, cGe, cEq, cNe, Option.some.injEq, Sum.inl.injEq, Sum.inr.injEq, Prod.mk.injEq, exists_eq_left, exists_eq_left', exists_eq_right, exists_and_left, reduceCtorEq, and_true, true_and, and_false, false_and, List.getElem?_cons_zero, List.getElem?_cons_succ, List.set_cons_zero, List.set_cons_succ, List.replicate, List.length_cons, List.length_nil, List.cons_append, List.nil_append, Nat.reduceAdd, Nat.reduceSub, decide_eq_true_eq, decide_eq_false_iff_not, Bool.true_eq_false, Bool.false_eq_true, true_implies, false_implies, implies_true, Nat.reduceLT, exists_const, z_vB_inj, and_assoc, z_in_iff, oI2L, oL2I, Int.toNat_natCast, z_toNat0, Bool.not_eq_true', Bool.not_eq_false', ne_eq, Bool.not_true, Bool.not_false, Nat.add_zero, Int.add_zero, z_sl_s]
      omega
  · have c0 := s_nH0 hm q0
    rw [if_neg (fun w => q0 w.1)]
    unfold m_X5_needEntry
    rw [k_v0]
    apply q_body
    have b6 : INF = 1000000 := rfl
    simp only [b_X5_needEntry, c0, qS_nop, qS_seq, qS_set, qS_setJ, qS_if, qS_brk, qS_ret, qS_retV, qS_throw, qS_inc, qS_cl, qS_ast, qS_aop, qS_fst, qS_fop, qS_sw, qT_eC, qT_eCB, qT_eL, qT_eLJ, qT_eLR, qT_eLB, qT_e1, qT_e2, qT_bCmp, qT_bCmpJ, qT_bAnd, qT_bOr, qT_bNot, qT_eBI, qT_eIf, qT_eLd, qT_eLdR, qT_eLen, qT_eF, qT_eFR, qT_aN, qT_aS, qT_eCl, qT_eClR, qT_eClB, qT_some, qT_x, z_nx_N, z_nx_B, z_nx_R, z_nx_X, z_bk_N, z_bk_B, z_bk_R, z_bk_X, oAdd, oSub, oMul, oNeg, cLt, cLe, cGt, cGe, cEq, cNe, Option.some.injEq, Sum.inl.injEq, Sum.inr.injEq, Prod.mk.injEq, exists_eq_left, exists_eq_left', exists_eq_right, exists_and_left, reduceCtorEq, and_true, true_and, and_false, false_and, List.getElem?_cons_zero, List.getElem?_cons_succ, List.set_cons_zero, List.set_cons_succ, List.replicate, List.length_cons, List.length_nil, List.cons_append, List.nil_append, Nat.reduceAdd, Nat.reduceSub, decide_eq_true_eq, decide_eq_false_iff_not, Bool.true_eq_false, Bool.false_eq_true, true_implies, false_implies, implies_true, Nat.reduceLT, exists_const, z_vB_inj, and_assoc, z_in_iff, oI2L, oL2I, Int.toNat_natCast, z_toNat0, Bool.not_eq_true', Bool.not_eq_false', ne_eq, Bool.not_true, Bool.not_false, Nat.add_zero, Int.add_zero, z_sl_s]
theorem s_nE1 (I : kInv S) {m x y : Int} (hm : kR m) (hx : kR x) (hy : kR y) (q : kPl S m x y) : m_X5_needEntry [vR 0, vI m, vI x, vI y] (k_W S) = some (.inl none, k_W S) := by rw [s_nE I hm hx hy, if_pos q]
theorem s_nE0 (I : kInv S) {m x y : Int} (hm : kR m) (hx : kR x) (hy : kR y) (q : ¬ kPl S m x y) : m_X5_needEntry [vR 0, vI m, vI x, vI y] (k_W S) = some (.inr kIO, k_W S) := by rw [s_nE I hm hx hy, if_neg q]
theorem rf_pl1 (I : kInv S) {m x y : Int} (hm : kR m) (hx : kR x) (hy : kR y) (q : kPl S m x y) {T : Nat → Nat → Int} (e : T 89 = S 89) : m_X6_isPlace [vR 85, vI m, vI x, vI y] (k_W T) = some (.inl (some (vB true)), k_W T) := by
  rw [rf_isPlace hm hx hy (by rw [e]; exact I.r), e, (z_dec_iff _).mpr q]
theorem rf_pl0 (I : kInv S) {m x y : Int} (hm : kR m) (hx : kR x) (hy : kR y) (q : ¬ kPl S m x y) {T : Nat → Nat → Int} (e : T 89 = S 89) : m_X6_isPlace [vR 85, vI m, vI x, vI y] (k_W T) = some (.inl (some (vB false)), k_W T) := by
  rw [rf_isPlace hm hx hy (by rw [e]; exact I.r), e, (z_dec_f _).mpr q]
theorem op_at (I : kInv S) {m : Int} {x : Int} {y : Int} (hm : kR m) (hx : kR x) (hy : kR y) : kOp m_X5_at m_X6_at kIO "" [vI m, vI x, vI y] S := by
  have b6 : INF = 1000000 := rfl
  by_cases q0 : kPl S m x y
  rotate_left
  · have c0 := s_nE0 I hm hx hy q0
    have r0 := fun g => rf_pl0 I hm hx hy q0 (T := k_u S 103 g) (k_u_n (by decide))
    refine kOp.x1 (r := vI 0) (S1 := S) (S2 := fun g => k_t (k_u S 103 g) 1) ?_ (fun g => ?_) (fun g => I.t g 1) (fun g => k_t_103) (fun g => k_t_1)
    · unfold m_X5_at
      rw [k_v0]
      apply q_body
      have b6 : INF = 1000000 := rfl
      simp only [b_X5_at, c0, qS_nop, qS_seq, qS_set, qS_setJ, qS_if, qS_brk, qS_ret, qS_retV, qS_throw, qS_inc, qS_cl, qS_ast, qS_aop, qS_fst, qS_fop, qS_sw, qT_eC, qT_eCB, qT_eL, qT_eLJ, qT_eLR, qT_eLB, qT_e1, qT_e2, qT_bCmp, qT_bCmpJ, qT_bAnd, qT_bOr, qT_bNot, qT_eBI, qT_eIf, qT_eLd, qT_eLdR, qT_eLen, qT_eF, qT_eFR, qT_aN, qT_aS, qT_eCl, qT_eClR, qT_eClB, qT_some, qT_x, z_nx_N, z_nx_B, z_nx_R, z_nx_X, z_bk_N, z_bk_B, z_bk_R, z_bk_X, oAdd, oSub, oMul, oNeg, cLt, cLe, cGt, cGe, cEq, cNe, Option.some.injEq, Sum.inl.injEq, Sum.inr.injEq, Prod.mk.injEq, exists_eq_left, exists_eq_left', exists_eq_right, exists_and_left, reduceCtorEq, and_true, true_and, and_false, false_and, List.getElem?_cons_zero, List.getElem?_cons_succ, List.set_cons_zero, List.set_cons_succ, List.replicate, List.length_cons, List.length_nil, List.cons_append, List.nil_append, Nat.reduceAdd, Nat.reduceSub, decide_eq_true_eq, decide_eq_false_iff_not, Bool.true_eq_false, Bool.false_eq_true, true_implies, false_implies, implies_true, Nat.reduceLT, exists_const, z_vB_inj, and_assoc, z_in_iff, oI2L, oL2I, Int.toNat_natCast, z_toNat0, Bool.not_eq_true', Bool.not_eq_false', ne_eq, Bool.not_true, Bool.not_false, Nat.add_zero, Int.add_zero, z_sl_s]
    · unfold m_X6_at
      rw [k_v85]
      apply q_body
      have b6 : INF = 1000000 := rfl
      simp only [b_X6_at, r0, rf_can1, z_vB1, z_vB0, if_true, if_false, not_true_eq_false, not_false_eq_true, k_t_n, k_t_1, exists_eq, k_v85, k_o85, k_r0, k_r1, k_r2, k_r3, k_r4, k_r5, k_r6, k_r7, k_r8, k_r9, k_r10, k_r11, k_r12, k_r13, k_r14, k_r15, k_r16, k_r17, k_r18, k_rl, k_sc, k_st, k_a86, k_s86, k_a87, k_s87, k_a88, k_s88, k_a89, k_s89, k_a90, k_s90, k_a91, k_s91, k_a92, k_s92, k_a93, k_s93, k_a94, k_s94, k_a95, k_s95, k_a96, k_s96, k_a97, k_s97, k_a98, k_s98, k_a99, k_s99, k_a100, k_s100, k_a101, k_s101, k_a102, k_s102, k_u_s, k_u_n, k_u_u, Nat.reduceEqDiff, not_false_eq_true, qS_nop, qS_seq, qS_set, qS_setJ, qS_if, qS_brk, qS_ret, qS_retV, qS_throw, qS_inc, qS_cl, qS_ast, qS_aop, qS_fst, qS_fop, qS_sw, qT_eC, qT_eCB, qT_eL, qT_eLJ, qT_eLR, qT_eLB, qT_e1, qT_e2, qT_bCmp, qT_bCmpJ, qT_bAnd, qT_bOr, qT_bNot, qT_eBI, qT_eIf, qT_eLd, qT_eLdR, qT_eLen, qT_eF, qT_eFR, qT_aN, qT_aS, qT_eCl, qT_eClR, qT_eClB, qT_some, qT_x, z_nx_N, z_nx_B, z_nx_R, z_nx_X, z_bk_N, z_bk_B, z_bk_R, z_bk_X, oAdd, oSub, oMul, oNeg, cLt, cLe, cGt, cGe, cEq, cNe, Option.some.injEq, Sum.inl.injEq, Sum.inr.injEq, Prod.mk.injEq, exists_eq_left, exists_eq_left', exists_eq_right, exists_and_left, reduceCtorEq, and_true, true_and, and_false, false_and, List.getElem?_cons_zero, List.getElem?_cons_succ, List.set_cons_zero, List.set_cons_succ, List.replicate, List.length_cons, List.length_nil, List.cons_append, List.nil_append, Nat.reduceAdd, Nat.reduceSub, decide_eq_true_eq, decide_eq_false_iff_not, Bool.true_eq_false, Bool.false_eq_true, true_implies, false_implies, implies_true, Nat.reduceLT, exists_const, z_vB_inj, and_assoc, z_in_iff, oI2L, oL2I, Int.toNat_natCast, z_toNat0, Bool.not_eq_true', Bool.not_eq_false', ne_eq, Bool.not_true, Bool.not_false, Nat.add_zero, Int.add_zero, z_sl_s]
  have c0 := s_nE1 I hm hx hy q0
  have r0 := fun g => rf_pl1 I hm hx hy q0 (T := k_u S 103 g) (k_u_n (by decide))
  have q0' := q0
  unfold kPl at q0'
  obtain ⟨n, a1, a2, a3, a4, a5, a6, a7⟩ := I.2.1 m.toNat (by omega)
  rw [a4] at q0'
  obtain ⟨i, rfl⟩ : ∃ i : Nat, m = i := ⟨m.toNat, by omega⟩
  have h_i : i < 4 := by omega
  obtain ⟨a, rfl⟩ : ∃ a : Nat, x = a := ⟨x.toNat, by omega⟩
  have h_a : a < 5 := by omega
  obtain ⟨b, rfl⟩ : ∃ b : Nat, y = b := ⟨y.toNat, by omega⟩
  have h_b : b < 5 := by omega
  rw [Int.toNat_natCast] at a3 a4 a5 a6 a7
  have e6 := a6 a b (by omega) (by omega)
  have hn : S (51 + 9 * i) 0 = (n : Int) := a3
  have r2 := k_2r h_i
  have r5 := k_5r (i := i) h_a
  refine kOp.ok (r := vI (S (53 + 9 * i + a) b)) (S1 := S) (S2 := fun g => k_t (k_u S 103 g) 0) ?_ (fun g => ?_) (fun g => I.t g 0) (fun g => k_t_103) (fun g => k_t_1)
  · unfold m_X5_at
    rw [k_v0]
    apply q_body
    have b6 : INF = 1000000 := rfl
    simp only [b_X5_at, c0, k_o0, k_a2, r2, k_mo h_i, k_me h_i, r5, k_mr h_i h_a, qS_nop, qS_seq, qS_set, qS_setJ, qS_if, qS_brk, qS_ret, qS_retV, qS_throw, qS_inc, qS_cl, qS_ast, qS_aop, qS_fst, qS_fop, qS_sw, qT_eC, qT_eCB, qT_eL, qT_eLJ, qT_eLR, qT_eLB, qT_e1, qT_e2, qT_bCmp, qT_bCmpJ, qT_bAnd, qT_bOr, qT_bNot, qT_eBI, qT_eIf, qT_eLd, qT_eLdR, qT_eLen, qT_eF, qT_eFR, qT_aN, qT_aS, qT_eCl, qT_eClR, qT_eClB, qT_some, qT_x, z_nx_N, z_nx_B, z_nx_R, z_nx_X, z_bk_N, z_bk_B, z_bk_R, z_bk_X, oAdd, oSub, oMul, oNeg, cLt, cLe, cGt, cGe, cEq, cNe, Option.some.injEq, Sum.inl.injEq, Sum.inr.injEq, Prod.mk.injEq, exists_eq_left, exists_eq_left', exists_eq_right, exists_and_left, reduceCtorEq, and_true, true_and, and_false, false_and, List.getElem?_cons_zero, List.getElem?_cons_succ, List.set_cons_zero, List.set_cons_succ, List.replicate, List.length_cons, List.length_nil, List.cons_append, List.nil_append, Nat.reduceAdd, Nat.reduceSub, decide_eq_true_eq, decide_eq_false_iff_not, Bool.true_eq_false, Bool.false_eq_true, true_implies, false_implies, implies_true, Nat.reduceLT, exists_const, z_vB_inj, and_assoc, z_in_iff, oI2L, oL2I, Int.toNat_natCast, z_toNat0, Bool.not_eq_true', Bool.not_eq_false', ne_eq, Bool.not_true, Bool.not_false, Nat.add_zero, Int.add_zero, z_sl_s]
    omega
  · have ri := rf_in (S := k_t (k_u S 103 g) 0) h_i h_a h_b
    have z1 : rM (k_t (k_u S 103 g) 0) i a b = S (53 + 9 * i + a) b := by
      unfold rM
      rw [k_t_n (by decide), k_u_n (by decide)]
      exact e6.1
    rw [z1] at ri
    unfold m_X6_at
    rw [k_v85]
    apply q_body
    have b6 : INF = 1000000 := rfl
    simp only [b_X6_at, r0, rf_can0, ri, z_vB1, z_vB0, if_true, if_false, not_true_eq_false, not_false_eq_true, k_t_n, k_t_1, exists_eq, k_v85, k_o85, k_r0, k_r1, k_r2, k_r3, k_r4, k_r5, k_r6, k_r7, k_r8, k_r9, k_r10, k_r11, k_r12, k_r13, k_r14, k_r15, k_r16, k_r17, k_r18, k_rl, k_sc, k_st, k_a86, k_s86, k_a87, k_s87, k_a88, k_s88, k_a89, k_s89, k_a90, k_s90, k_a91, k_s91, k_a92, k_s92, k_a93, k_s93, k_a94, k_s94, k_a95, k_s95, k_a96, k_s96, k_a97, k_s97, k_a98, k_s98, k_a99, k_s99, k_a100, k_s100, k_a101, k_s101, k_a102, k_s102, k_u_s, k_u_n, k_u_u, Nat.reduceEqDiff, not_false_eq_true, qS_nop, qS_seq, qS_set, qS_setJ, qS_if, qS_brk, qS_ret, qS_retV, qS_throw, qS_inc, qS_cl, qS_ast, qS_aop, qS_fst, qS_fop, qS_sw, qT_eC, qT_eCB, qT_eL, qT_eLJ, qT_eLR, qT_eLB, qT_e1, qT_e2, qT_bCmp, qT_bCmpJ, qT_bAnd, qT_bOr, qT_bNot, qT_eBI, qT_eIf, qT_eLd, qT_eLdR, qT_eLen, qT_eF, qT_eFR, qT_aN, qT_aS, qT_eCl, qT_eClR, qT_eClB, qT_some, qT_x, z_nx_N, z_nx_B, z_nx_R, z_nx_X, z_bk_N, z_bk_B, z_bk_R, z_bk_X, oAdd, oSub, oMul, oNeg, cLt, cLe, cGt, cGe, cEq, cNe, Option.some.injEq, Sum.inl.injEq, Sum.inr.injEq, Prod.mk.injEq, exists_eq_left, exists_eq_left', exists_eq_right, exists_and_left, reduceCtorEq, and_true, true_and, and_false, false_and, List.getElem?_cons_zero, List.getElem?_cons_succ, List.set_cons_zero, List.set_cons_succ, List.replicate, List.length_cons, List.length_nil, List.cons_append, List.nil_append, Nat.reduceAdd, Nat.reduceSub, decide_eq_true_eq, decide_eq_false_iff_not, Bool.true_eq_false, Bool.false_eq_true, true_implies, false_implies, implies_true, Nat.reduceLT, exists_const, z_vB_inj, and_assoc, z_in_iff, oI2L, oL2I, Int.toNat_natCast, z_toNat0, Bool.not_eq_true', Bool.not_eq_false', ne_eq, Bool.not_true, Bool.not_false, Nat.add_zero, Int.add_zero, z_sl_s]
theorem op_entry (I : kInv S) {m : Int} {x : Int} {y : Int} {k : Int} (hm : kR m) (hx : kR x) (hy : kR y) (hk : kR k) : kOp m_X5_entry m_X6_entry kIO kIA [vI m, vI x, vI y, vI k] S := by
  have b6 : INF = 1000000 := rfl
  by_cases q0 : kPl S m x y
  rotate_left
  · have c0 := s_nE0 I hm hx hy q0
    have r0 := fun g => rf_pl0 I hm hx hy q0 (T := k_u S 103 g) (k_u_n (by decide))
    refine kOp.x1 (r := vI 0) (S1 := S) (S2 := fun g => k_t (k_u S 103 g) 1) ?_ (fun g => ?_) (fun g => I.t g 1) (fun g => k_t_103) (fun g => k_t_1)
    · unfold m_X5_entry
      rw [k_v0]
      apply q_body
      have b6 : INF = 1000000 := rfl
      simp only [b_X5_entry, c0, qS_nop, qS_seq, qS_set, qS_setJ, qS_if, qS_brk, qS_ret, qS_retV, qS_throw, qS_inc, qS_cl, qS_ast, qS_aop, qS_fst, qS_fop, qS_sw, qT_eC, qT_eCB, qT_eL, qT_eLJ, qT_eLR, qT_eLB, qT_e1, qT_e2, qT_bCmp, qT_bCmpJ, qT_bAnd, qT_bOr, qT_bNot, qT_eBI, qT_eIf, qT_eLd, qT_eLdR, qT_eLen, qT_eF, qT_eFR, qT_aN, qT_aS, qT_eCl, qT_eClR, qT_eClB, qT_some, qT_x, z_nx_N, z_nx_B, z_nx_R, z_nx_X, z_bk_N, z_bk_B, z_bk_R, z_bk_X, oAdd, oSub, oMul, oNeg, cLt, cLe, cGt, cGe, cEq, cNe, Option.some.injEq, Sum.inl.injEq, Sum.inr.injEq, Prod.mk.injEq, exists_eq_left, exists_eq_left', exists_eq_right, exists_and_left, reduceCtorEq, and_true, true_and, and_false, false_and, List.getElem?_cons_zero, List.getElem?_cons_succ, List.set_cons_zero, List.set_cons_succ, List.replicate, List.length_cons, List.length_nil, List.cons_append, List.nil_append, Nat.reduceAdd, Nat.reduceSub, decide_eq_true_eq, decide_eq_false_iff_not, Bool.true_eq_false, Bool.false_eq_true, true_implies, false_implies, implies_true, Nat.reduceLT, exists_const, z_vB_inj, and_assoc, z_in_iff, oI2L, oL2I, Int.toNat_natCast, z_toNat0, Bool.not_eq_true', Bool.not_eq_false', ne_eq, Bool.not_true, Bool.not_false, Nat.add_zero, Int.add_zero, z_sl_s]
    · unfold m_X6_entry
      rw [k_v85]
      apply q_body
      have b6 : INF = 1000000 := rfl
      simp only [b_X6_entry, r0, rf_can1, z_vB1, z_vB0, if_true, if_false, not_true_eq_false, not_false_eq_true, k_t_n, k_t_1, exists_eq, k_v85, k_o85, k_r0, k_r1, k_r2, k_r3, k_r4, k_r5, k_r6, k_r7, k_r8, k_r9, k_r10, k_r11, k_r12, k_r13, k_r14, k_r15, k_r16, k_r17, k_r18, k_rl, k_sc, k_st, k_a86, k_s86, k_a87, k_s87, k_a88, k_s88, k_a89, k_s89, k_a90, k_s90, k_a91, k_s91, k_a92, k_s92, k_a93, k_s93, k_a94, k_s94, k_a95, k_s95, k_a96, k_s96, k_a97, k_s97, k_a98, k_s98, k_a99, k_s99, k_a100, k_s100, k_a101, k_s101, k_a102, k_s102, k_u_s, k_u_n, k_u_u, Nat.reduceEqDiff, not_false_eq_true, qS_nop, qS_seq, qS_set, qS_setJ, qS_if, qS_brk, qS_ret, qS_retV, qS_throw, qS_inc, qS_cl, qS_ast, qS_aop, qS_fst, qS_fop, qS_sw, qT_eC, qT_eCB, qT_eL, qT_eLJ, qT_eLR, qT_eLB, qT_e1, qT_e2, qT_bCmp, qT_bCmpJ, qT_bAnd, qT_bOr, qT_bNot, qT_eBI, qT_eIf, qT_eLd, qT_eLdR, qT_eLen, qT_eF, qT_eFR, qT_aN, qT_aS, qT_eCl, qT_eClR, qT_eClB, qT_some, qT_x, z_nx_N, z_nx_B, z_nx_R, z_nx_X, z_bk_N, z_bk_B, z_bk_R, z_bk_X, oAdd, oSub, oMul, oNeg, cLt, cLe, cGt, cGe, cEq, cNe, Option.some.injEq, Sum.inl.injEq, Sum.inr.injEq, Prod.mk.injEq, exists_eq_left, exists_eq_left', exists_eq_right, exists_and_left, reduceCtorEq, and_true, true_and, and_false, false_and, List.getElem?_cons_zero, List.getElem?_cons_succ, List.set_cons_zero, List.set_cons_succ, List.replicate, List.length_cons, List.length_nil, List.cons_append, List.nil_append, Nat.reduceAdd, Nat.reduceSub, decide_eq_true_eq, decide_eq_false_iff_not, Bool.true_eq_false, Bool.false_eq_true, true_implies, false_implies, implies_true, Nat.reduceLT, exists_const, z_vB_inj, and_assoc, z_in_iff, oI2L, oL2I, Int.toNat_natCast, z_toNat0, Bool.not_eq_true', Bool.not_eq_false', ne_eq, Bool.not_true, Bool.not_false, Nat.add_zero, Int.add_zero, z_sl_s]
  by_cases q1 : (-999 ≤ k ∧ k ≤ 999) ∨ k = INF
  rotate_left
  · have c0 := s_nE1 I hm hx hy q0
    have r0 := fun g => rf_pl1 I hm hx hy q0 (T := k_u S 103 g) (k_u_n (by decide))
    have c1 := s_nG0 hk q1
    have r1 := rf_num0 hk q1
    refine kOp.x2 (r := vI 0) (S1 := S) (S2 := fun g => k_t (k_u S 103 g) 2) ?_ (fun g => ?_) (fun g => I.t g 2) (fun g => k_t_103) (fun g => k_t_1)
    · unfold m_X5_entry
      rw [k_v0]
      apply q_body
      have b6 : INF = 1000000 := rfl
      simp only [b_X5_entry, c0, c1, qS_nop, qS_seq, qS_set, qS_setJ, qS_if, qS_brk, qS_ret, qS_retV, qS_throw, qS_inc, qS_cl, qS_ast, qS_aop, qS_fst, qS_fop, qS_sw, qT_eC, qT_eCB, qT_eL, qT_eLJ, qT_eLR, qT_eLB, qT_e1, qT_e2, qT_bCmp, qT_bCmpJ, qT_bAnd, qT_bOr, qT_bNot, qT_eBI, qT_eIf, qT_eLd, qT_eLdR, qT_eLen, qT_eF, qT_eFR, qT_aN, qT_aS, qT_eCl, qT_eClR, qT_eClB, qT_some, qT_x, z_nx_N, z_nx_B, z_nx_R, z_nx_X, z_bk_N, z_bk_B, z_bk_R, z_bk_X, oAdd, oSub, oMul, oNeg, cLt, cLe, cGt, cGe, cEq, cNe, Option.some.injEq, Sum.inl.injEq, Sum.inr.injEq, Prod.mk.injEq, exists_eq_left, exists_eq_left', exists_eq_right, exists_and_left, reduceCtorEq, and_true, true_and, and_false, false_and, List.getElem?_cons_zero, List.getElem?_cons_succ, List.set_cons_zero, List.set_cons_succ, List.replicate, List.length_cons, List.length_nil, List.cons_append, List.nil_append, Nat.reduceAdd, Nat.reduceSub, decide_eq_true_eq, decide_eq_false_iff_not, Bool.true_eq_false, Bool.false_eq_true, true_implies, false_implies, implies_true, Nat.reduceLT, exists_const, z_vB_inj, and_assoc, z_in_iff, oI2L, oL2I, Int.toNat_natCast, z_toNat0, Bool.not_eq_true', Bool.not_eq_false', ne_eq, Bool.not_true, Bool.not_false, Nat.add_zero, Int.add_zero, z_sl_s]
    · unfold m_X6_entry
      rw [k_v85]
      apply q_body
      have b6 : INF = 1000000 := rfl
      simp only [b_X6_entry, r0, r1, rf_can2, z_vB1, z_vB0, if_true, if_false, not_true_eq_false, not_false_eq_true, k_t_n, k_t_1, exists_eq, k_v85, k_o85, k_r0, k_r1, k_r2, k_r3, k_r4, k_r5, k_r6, k_r7, k_r8, k_r9, k_r10, k_r11, k_r12, k_r13, k_r14, k_r15, k_r16, k_r17, k_r18, k_rl, k_sc, k_st, k_a86, k_s86, k_a87, k_s87, k_a88, k_s88, k_a89, k_s89, k_a90, k_s90, k_a91, k_s91, k_a92, k_s92, k_a93, k_s93, k_a94, k_s94, k_a95, k_s95, k_a96, k_s96, k_a97, k_s97, k_a98, k_s98, k_a99, k_s99, k_a100, k_s100, k_a101, k_s101, k_a102, k_s102, k_u_s, k_u_n, k_u_u, Nat.reduceEqDiff, not_false_eq_true, qS_nop, qS_seq, qS_set, qS_setJ, qS_if, qS_brk, qS_ret, qS_retV, qS_throw, qS_inc, qS_cl, qS_ast, qS_aop, qS_fst, qS_fop, qS_sw, qT_eC, qT_eCB, qT_eL, qT_eLJ, qT_eLR, qT_eLB, qT_e1, qT_e2, qT_bCmp, qT_bCmpJ, qT_bAnd, qT_bOr, qT_bNot, qT_eBI, qT_eIf, qT_eLd, qT_eLdR, qT_eLen, qT_eF, qT_eFR, qT_aN, qT_aS, qT_eCl, qT_eClR, qT_eClB, qT_some, qT_x, z_nx_N, z_nx_B, z_nx_R, z_nx_X, z_bk_N, z_bk_B, z_bk_R, z_bk_X, oAdd, oSub, oMul, oNeg, cLt, cLe, cGt, cGe, cEq, cNe, Option.some.injEq, Sum.inl.injEq, Sum.inr.injEq, Prod.mk.injEq, exists_eq_left, exists_eq_left', exists_eq_right, exists_and_left, reduceCtorEq, and_true, true_and, and_false, false_and, List.getElem?_cons_zero, List.getElem?_cons_succ, List.set_cons_zero, List.set_cons_succ, List.replicate, List.length_cons, List.length_nil, List.cons_append, List.nil_append, Nat.reduceAdd, Nat.reduceSub, decide_eq_true_eq, decide_eq_false_iff_not, Bool.true_eq_false, Bool.false_eq_true, true_implies, false_implies, implies_true, Nat.reduceLT, exists_const, z_vB_inj, and_assoc, z_in_iff, oI2L, oL2I, Int.toNat_natCast, z_toNat0, Bool.not_eq_true', Bool.not_eq_false', ne_eq, Bool.not_true, Bool.not_false, Nat.add_zero, Int.add_zero, z_sl_s]
  have c0 := s_nE1 I hm hx hy q0
  have r0 := fun g => rf_pl1 I hm hx hy q0 (T := k_u S 103 g) (k_u_n (by decide))
  have c1 := s_nG1 (n := k) q1
  have r1 := rf_num1 (n := k) q1
  have q0' := q0
  unfold kPl at q0'
  obtain ⟨n, a1, a2, a3, a4, a5, a6, a7⟩ := I.2.1 m.toNat (by omega)
  rw [a4] at q0'
  obtain ⟨i, rfl⟩ : ∃ i : Nat, m = i := ⟨m.toNat, by omega⟩
  have h_i : i < 4 := by omega
  obtain ⟨a, rfl⟩ : ∃ a : Nat, x = a := ⟨x.toNat, by omega⟩
  have h_a : a < 5 := by omega
  obtain ⟨b, rfl⟩ : ∃ b : Nat, y = b := ⟨y.toNat, by omega⟩
  have h_b : b < 5 := by omega
  rw [Int.toNat_natCast] at a3 a4 a5 a6 a7
  have e6 := a6 a b (by omega) (by omega)
  have hn : S (51 + 9 * i) 0 = (n : Int) := a3
  have r2 := k_2r h_i
  have r5 := k_5r (i := i) h_a
  refine kOp.ok (r := vI (S (53 + 9 * i + a) b)) (S1 := k_u S (53 + 9 * i + a) (z_up (S (53 + 9 * i + a)) b k)) (S2 := fun g => k_u (k_t (k_u (k_u S (53 + 9 * i + a) (z_up (S (53 + 9 * i + a)) b k)) 103 g) 0) 90 (z_up (S 90) (25 * i + 5 * a + b) k)) ?_ (fun g => ?_) (fun g => ?_) (fun g => ?_) (fun g => ?_)
  · unfold m_X5_entry
    rw [k_v0]
    apply q_body
    have b6 : INF = 1000000 := rfl
    simp only [b_X5_entry, c0, c1, k_o0, k_a2, r2, k_mo h_i, k_me h_i, r5, k_mr h_i h_a, k_ms h_i h_a, qS_nop, qS_seq, qS_set, qS_setJ, qS_if, qS_brk, qS_ret, qS_retV, qS_throw, qS_inc, qS_cl, qS_ast, qS_aop, qS_fst, qS_fop, qS_sw, qT_eC, qT_eCB, qT_eL, qT_eLJ, qT_eLR, qT_eLB, qT_e1, qT_e2, qT_bCmp, qT_bCmpJ, qT_bAnd, qT_bOr, qT_bNot, qT_eBI, qT_eIf, qT_eLd, qT_eLdR, qT_eLen, qT_eF, qT_eFR, qT_aN, qT_aS, qT_eCl, qT_eClR, qT_eClB, qT_some, qT_x, z_nx_N, z_nx_B, z_nx_R, z_nx_X, z_bk_N, z_bk_B, z_bk_R, z_bk_X, oAdd, oSub, oMul, oNeg, cLt, cLe, cGt, cGe, cEq, cNe, Option.some.injEq, Sum.inl.injEq, Sum.inr.injEq, Prod.mk.injEq, exists_eq_left, exists_eq_left', exists_eq_right, exists_and_left, reduceCtorEq, and_true, true_and, and_false, false_and, List.getElem?_cons_zero, List.getElem?_cons_succ, List.set_cons_zero, List.set_cons_succ, List.replicate, List.length_cons, List.length_nil, List.cons_append, List.nil_append, Nat.reduceAdd, Nat.reduceSub, decide_eq_true_eq, decide_eq_false_iff_not, Bool.true_eq_false, Bool.false_eq_true, true_implies, false_implies, implies_true, Nat.reduceLT, exists_const, z_vB_inj, and_assoc, z_in_iff, oI2L, oL2I, Int.toNat_natCast, z_toNat0, Bool.not_eq_true', Bool.not_eq_false', ne_eq, Bool.not_true, Bool.not_false, Nat.add_zero, Int.add_zero, z_sl_s]
    omega
  · have ri := rf_in (S := k_t (k_u (k_u S (53 + 9 * i + a) (z_up (S (53 + 9 * i + a)) b k)) 103 g) 0) h_i h_a h_b
    have z1 : rM (k_t (k_u (k_u S (53 + 9 * i + a) (z_up (S (53 + 9 * i + a)) b k)) 103 g) 0) i a b = S (53 + 9 * i + a) b := by
      unfold rM
      rw [k_t_n (by decide), k_u_n (by decide), k_u_n (by omega)]
      exact e6.1
    rw [z1] at ri
    have s90 : (k_u S (53 + 9 * i + a) (z_up (S (53 + 9 * i + a)) b k)) 90 = S 90 := k_u_n (by omega)
    have rp := rf_pl1 I hm hx hy q0 (T := k_u (k_u S (53 + 9 * i + a) (z_up (S (53 + 9 * i + a)) b k)) 103 g) (by rw [k_u_n (by decide), k_u_n (by omega)])
    have t : (25 * (i : Int) + 5 * (a : Int) + (b : Int)).toNat = 25 * i + 5 * a + b := by omega
    unfold m_X6_entry
    rw [k_v85]
    apply q_body
    have b6 : INF = 1000000 := rfl
    simp only [b_X6_entry, r0, r1, rf_can0, ri, rp, t, s90, z_vB1, z_vB0, if_true, if_false, not_true_eq_false, not_false_eq_true, k_t_n, k_t_1, exists_eq, k_v85, k_o85, k_r0, k_r1, k_r2, k_r3, k_r4, k_r5, k_r6, k_r7, k_r8, k_r9, k_r10, k_r11, k_r12, k_r13, k_r14, k_r15, k_r16, k_r17, k_r18, k_rl, k_sc, k_st, k_a86, k_s86, k_a87, k_s87, k_a88, k_s88, k_a89, k_s89, k_a90, k_s90, k_a91, k_s91, k_a92, k_s92, k_a93, k_s93, k_a94, k_s94, k_a95, k_s95, k_a96, k_s96, k_a97, k_s97, k_a98, k_s98, k_a99, k_s99, k_a100, k_s100, k_a101, k_s101, k_a102, k_s102, k_u_s, k_u_n, k_u_u, Nat.reduceEqDiff, not_false_eq_true, qS_nop, qS_seq, qS_set, qS_setJ, qS_if, qS_brk, qS_ret, qS_retV, qS_throw, qS_inc, qS_cl, qS_ast, qS_aop, qS_fst, qS_fop, qS_sw, qT_eC, qT_eCB, qT_eL, qT_eLJ, qT_eLR, qT_eLB, qT_e1, qT_e2, qT_bCmp, qT_bCmpJ, qT_bAnd, qT_bOr, qT_bNot, qT_eBI, qT_eIf, qT_eLd, qT_eLdR, qT_eLen, qT_eF, qT_eFR, qT_aN, qT_aS, qT_eCl, qT_eClR, qT_eClB, qT_some, qT_x, z_nx_N, z_nx_B, z_nx_R, z_nx_X, z_bk_N, z_bk_B, z_bk_R, z_bk_X, oAdd, oSub, oMul, oNeg, cLt, cLe, cGt, cGe, cEq, cNe, Option.some.injEq, Sum.inl.injEq, Sum.inr.injEq, Prod.mk.injEq, exists_eq_left, exists_eq_left', exists_eq_right, exists_and_left, reduceCtorEq, and_true, true_and, and_false, false_and, List.getElem?_cons_zero, List.getElem?_cons_succ, List.set_cons_zero, List.set_cons_succ, List.replicate, List.length_cons, List.length_nil, List.cons_append, List.nil_append, Nat.reduceAdd, Nat.reduceSub, decide_eq_true_eq, decide_eq_false_iff_not, Bool.true_eq_false, Bool.false_eq_true, true_implies, false_implies, implies_true, Nat.reduceLT, exists_const, z_vB_inj, and_assoc, z_in_iff, oI2L, oL2I, Int.toNat_natCast, z_toNat0, Bool.not_eq_true', Bool.not_eq_false', ne_eq, Bool.not_true, Bool.not_false, Nat.add_zero, Int.add_zero, z_sl_s]
    omega
  · have z0 : ∀ c, c ≠ 85 → c ≠ 90 → c ≠ 103 → (k_u (k_t (k_u (k_u S (53 + 9 * i + a) (z_up (S (53 + 9 * i + a)) b k)) 103 g) 0) 90 (z_up (S 90) (25 * i + 5 * a + b) k)) c = (k_u S (53 + 9 * i + a) (z_up (S (53 + 9 * i + a)) b k)) c := fun c h1 h2 h3 => by rw [k_u_n h2, k_t_n h1, k_u_n h3]
    have z1 : ∀ x y, x < 5 → y < 5 → rM (k_u (k_t (k_u (k_u S (53 + 9 * i + a) (z_up (S (53 + 9 * i + a)) b k)) 103 g) 0) 90 (z_up (S 90) (25 * i + 5 * a + b) k)) i x y = if x = a ∧ y = b then k else rM S i x y := fun x y hx hy => by
      unfold rM
      rw [k_u_s]
      unfold z_up
      by_cases c : x = a ∧ y = b
      · rw [if_pos c, if_pos (by omega)]
      · rw [if_neg c, if_neg (by omega)]
    have z2 : ∀ x y, x < 5 → (k_u (k_t (k_u (k_u S (53 + 9 * i + a) (z_up (S (53 + 9 * i + a)) b k)) 103 g) 0) 90 (z_up (S 90) (25 * i + 5 * a + b) k)) (53 + 9 * i + x) y = if x = a ∧ y = b then k else S (53 + 9 * i + x) y := fun x y hx => by
      rw [z0 _ (by omega) (by omega) (by omega)]
      unfold k_u z_up
      by_cases c : x = a
      · rw [if_pos (by omega)]
        by_cases d : y = b
        · rw [if_pos d, if_pos ⟨c, d⟩]
        · rw [if_neg d, if_neg (by omega), c]
      · rw [if_neg (by omega), if_neg (by omega)]
    refine I.m h_i ⟨n, a1, a2, ?_, ?_, fun x y hx hy => ?_, fun x y hx hy => ?_, fun x y hx hy hn => ?_⟩ ?_ (fun c h1 h2 h3 h4 h5 => ?_) (fun j hj => ?_) (fun x hx => ?_)
    · rw [z0 _ (by omega) (by omega) (by omega), k_u_n (by omega)]
      exact a3
    · rw [z0 _ (by omega) (by omega) (by omega), k_u_n (by omega)]
      exact a4
    · rw [kF_l hx, z2 x y hx]
      have w := a5 x y hx hy
      rw [kF_l hx] at w
      split
      · omega
      · exact w
    · rw [z1 x y (by omega) (by omega), z2 x y (by omega)]
      have w := a6 x y hx hy
      split
      · omega
      · exact w
    · rw [z1 x y hx hy, if_neg (by omega)]
      exact a7 x y hx hy hn
    · exact I.2.2.2.2.eq (by rw [z0 _ (by omega) (by omega) (by omega), k_u_n (by omega)]) (by rw [z0 _ (by omega) (by omega) (by omega), k_u_n (by omega)]) (fun x hx => by rw [z0 _ (by omega) (by omega) (by omega), k_u_n (by omega)]) (fun x hx => by rw [z0 _ (by omega) (by omega) (by omega), k_u_n (by omega)])
    · rw [z0 _ (fun e => h1 (by subst e; unfold kFree; omega)) h3 (fun e => h1 (by subst e; unfold kFree; omega)), k_u_n (by omega)]
    · rw [z0 _ (by omega) (by omega) (by omega), k_u_n (by omega)]
    · rw [k_u_s]
      unfold z_up
      rw [if_neg (by omega)]
  · rw [k_u_n (by decide), k_t_103]
  · rw [k_u_n (by decide), k_t_1]
end FM
