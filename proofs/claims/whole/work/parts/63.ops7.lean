/-! THE FACE: sum -/
section FO
variable {S : Nat → Nat → Int}
def p9 (f d : Nat → Int) : Nat → Int := fun k => if k < 9 then f k else d k
def pMin (f g : Nat → Int) : Nat → Int := fun k => if g k < f k then g k else f k
def kLay (X : Nat → Nat → Int) (t : Nat) : Nat → Nat → Int := k_u X (50 + 9 * t) (p9 (X 29) (X (50 + 9 * t)))
theorem p9_l {f d : Nat → Int} {k : Nat} (h : k < 9) : p9 f d k = f k := if_pos h
theorem pMin_ok {f g : Nat → Int} (hf : pOk f) (hg : pOk g) : pOk (pMin f g) := fun k hk => by
  have a := hf k hk
  have b := hg k hk
  unfold pMin
  split
  · exact b
  · exact a
theorem s_cp29 {X : Nat → Nat → Int} {t : Nat} (ht : t < 4) : m_X4_becomeCopy [vR (49 + 9 * t), vR 28] (k_W X) = some (.inl none, k_W (kLay X t)) := by
  rw [s_copyP (k_po (S := X) ht) (k_pc (S := X) ht) (o1 := 28) (c1 := 29) (k_get (by decide)) (k_get (by decide)), k_cs ht]
  rfl
theorem s_ct {X : Nat → Nat → Int} {t : Nat} (ht : t < 4) (h : pOk (X 29)) : m_X4_countTerms [vR (49 + 9 * t)] (k_W (kLay X t)) = some (.inl (some (vI (z_cnt (fun k => z_dec (X 29 k ≠ INF)) 9))), k_W (kLay X t)) := by
  have e : kLay X t (50 + 9 * t) = p9 (X 29) (X (50 + 9 * t)) := k_u_s _ _ _
  rw [s_countTerms (k_po (S := kLay X t) ht) (k_pc (S := kLay X t) ht) (by rw [e]; exact fun k hk => by rw [p9_l hk]; exact h k hk)]
  have c : z_cnt (fun k => z_dec (kLay X t (50 + 9 * t) k ≠ INF)) 9 = z_cnt (fun k => z_dec (X 29 k ≠ INF)) 9 := z_cnt_cg 9 (fun k hk => by rw [e, p9_l hk])
  rw [c]
theorem z_ne (a : Int) : z_dec (a ≠ INF) = !decide (a = INF) := by
  by_cases h : a = INF
  · rw [(z_dec_f _).mpr (fun w => w h)]
    simp [h]
  · rw [(z_dec_iff _).mpr h]
    simp [h]
theorem z_cnt_ne {f g : Nat → Int} {n : Nat} (h : ∀ k, k < n → g k = f k) : z_cnt (fun k => !decide (g k = INF)) n = z_cnt (fun k => z_dec (f k ≠ INF)) n := z_cnt_cg n (fun k hk => by rw [z_ne, h k hk])
/-- what a call has made is laid in both -/
theorem kInv.lay (I : kInv S) {t : Nat} (ht : t < 4) {X : Nat → Nat → Int} (hX : ∀ a, a ≠ 29 → X a = S a) (h : pOk (X 29)) {T : Nat → Nat → Int} (hT : ∀ a, ¬ kFree a → T a = kLay X t a) (h88 : ∀ k, k < 9 → T 88 k = X 29 k) : kInv (k_u T 86 (z_at (9 * t) 9 (T 88) (T 86))) := by
  have eK : ∀ a, ¬ kFree a → a ≠ 50 + 9 * t → T a = S a := fun a ha h1 => by
    rw [hT a ha]
    unfold kLay
    rw [k_u_n h1, hX a (fun e => ha (by subst e; unfold kFree; omega))]
  refine I.p ht (f := p9 (X 29) (X (50 + 9 * t))) (fun k hk => by rw [p9_l hk]; exact h k hk) ?_ (fun k hk => ?_) (fun x hx => ?_) (fun a ha h1 h2 => ?_)
  · rw [k_u_n (by omega), hT _ (by unfold kFree; omega)]
    exact k_u_s _ _ _
  · rw [k_u_s, p9_l hk]
    unfold z_at
    rw [if_pos (by omega), Nat.add_sub_cancel_left]
    exact h88 k hk
  · rw [k_u_s]
    unfold z_at
    rw [if_neg (by omega), eK 86 (by unfold kFree; omega) (by omega)]
  · rw [k_u_n h2, eK a ha h1]
theorem op_sum (I : kInv S) {p : Int} {k : Int} {t : Int} (hp : kR p) (hk : kR k) (ht : kR t) : kOp m_X5_sum m_X6_sum kIO "" [vI p, vI k, vI t] S := by
  have b6 : INF = 1000000 := rfl
  by_cases q0 : 0 ≤ p ∧ p ≤ 3
  rotate_left
  · have c0 := s_nH0 hp q0
    have r0 := rf_one0 hp q0
    refine kOp.x1 (r := vI 0) (S1 := S) (S2 := fun g => k_t (k_u S 103 g) 1) ?_ (fun g => ?_) (fun g => I.t g 1) (fun g => k_t_103) (fun g => k_t_1)
    · unfold m_X5_sum
      rw [k_v0]
      apply q_body
      have b6 : INF = 1000000 := rfl
      simp only [b_X5_sum, c0, qS_nop, qS_seq, qS_set, qS_setJ, qS_if, qS_brk, qS_ret, qS_retV, qS_throw, qS_inc, qS_cl, qS_ast, qS_aop, qS_fst, qS_fop, qS_sw, qT_eC, qT_eCB, qT_eL, qT_eLJ, qT_eLR, qT_eLB, qT_e1, qT_e2, qT_bCmp, qT_bCmpJ, qT_bAnd, qT_bOr, qT_bNot, qT_eBI, qT_eIf, qT_eLd, qT_eLdR, qT_eLen, qT_eF, qT_eFR, qT_aN, qT_aS, qT_eCl, qT_eClR, qT_eClB, qT_some, qT_x, z_nx_N, z_nx_B, z_nx_R, z_nx_X, z_bk_N, z_bk_B, z_bk_R, z_bk_X, oAdd, oSub, oMul, oNeg, cLt, cLe, cGt, cGe, cEq, cNe, Option.some.injEq, Sum.inl.injEq, Sum.inr.injEq, Prod.mk.injEq, exists_eq_left, exists_eq_left', exists_eq_right, exists_and_left, reduceCtorEq, and_true, true_and, and_false, false_and, List.getElem?_cons_zero, List.getElem?_cons_succ, List.set_cons_zero, List.set_cons_succ, List.replicate, List.length_cons, List.length_nil, List.cons_append, List.nil_append, Nat.reduceAdd, Nat.reduceSub, decide_eq_true_eq, decide_eq_false_iff_not, Bool.true_eq_false, Bool.false_eq_true, true_implies, false_implies, implies_true, Nat.reduceLT, exists_const, z_vB_inj, and_assoc, z_in_iff, oI2L, oL2I, Int.toNat_natCast, z_toNat0, Bool.not_eq_true', Bool.not_eq_false', ne_eq, Bool.not_true, Bool.not_false, Nat.add_zero, Int.add_zero, z_sl_s]
    · unfold m_X6_sum
      rw [k_v85]
      apply q_body
      have b6 : INF = 1000000 := rfl
      simp only [b_X6_sum, r0, rf_can1, z_vB1, z_vB0, if_true, if_false, not_true_eq_false, not_false_eq_true, k_t_n, k_t_1, exists_eq, k_v85, k_o85, k_r0, k_r1, k_r2, k_r3, k_r4, k_r5, k_r6, k_r7, k_r8, k_r9, k_r10, k_r11, k_r12, k_r13, k_r14, k_r15, k_r16, k_r17, k_r18, k_rl, k_sc, k_st, k_a86, k_s86, k_a87, k_s87, k_a88, k_s88, k_a89, k_s89, k_a90, k_s90, k_a91, k_s91, k_a92, k_s92, k_a93, k_s93, k_a94, k_s94, k_a95, k_s95, k_a96, k_s96, k_a97, k_s97, k_a98, k_s98, k_a99, k_s99, k_a100, k_s100, k_a101, k_s101, k_a102, k_s102, k_u_s, k_u_n, k_u_u, Nat.reduceEqDiff, not_false_eq_true, qS_nop, qS_seq, qS_set, qS_setJ, qS_if, qS_brk, qS_ret, qS_retV, qS_throw, qS_inc, qS_cl, qS_ast, qS_aop, qS_fst, qS_fop, qS_sw, qT_eC, qT_eCB, qT_eL, qT_eLJ, qT_eLR, qT_eLB, qT_e1, qT_e2, qT_bCmp, qT_bCmpJ, qT_bAnd, qT_bOr, qT_bNot, qT_eBI, qT_eIf, qT_eLd, qT_eLdR, qT_eLen, qT_eF, qT_eFR, qT_aN, qT_aS, qT_eCl, qT_eClR, qT_eClB, qT_some, qT_x, z_nx_N, z_nx_B, z_nx_R, z_nx_X, z_bk_N, z_bk_B, z_bk_R, z_bk_X, oAdd, oSub, oMul, oNeg, cLt, cLe, cGt, cGe, cEq, cNe, Option.some.injEq, Sum.inl.injEq, Sum.inr.injEq, Prod.mk.injEq, exists_eq_left, exists_eq_left', exists_eq_right, exists_and_left, reduceCtorEq, and_true, true_and, and_false, false_and, List.getElem?_cons_zero, List.getElem?_cons_succ, List.set_cons_zero, List.set_cons_succ, List.replicate, List.length_cons, List.length_nil, List.cons_append, List.nil_append, Nat.reduceAdd, Nat.reduceSub, decide_eq_true_eq, decide_eq_false_iff_not, Bool.true_eq_false, Bool.false_eq_true, true_implies, false_implies, implies_true, Nat.reduceLT, exists_const, z_vB_inj, and_assoc, z_in_iff, oI2L, oL2I, Int.toNat_natCast, z_toNat0, Bool.not_eq_true', Bool.not_eq_false', ne_eq, Bool.not_true, Bool.not_false, Nat.add_zero, Int.add_zero, z_sl_s]
  by_cases q1 : 0 ≤ k ∧ k ≤ 3
  rotate_left
  · have c0 := s_nH1 (i := p) q0
    have r0 := rf_one1 (i := p) q0
    have c1 := s_nH0 hk q1
    have r1 := rf_one0 hk q1
    refine kOp.x1 (r := vI 0) (S1 := S) (S2 := fun g => k_t (k_u S 103 g) 1) ?_ (fun g => ?_) (fun g => I.t g 1) (fun g => k_t_103) (fun g => k_t_1)
    · unfold m_X5_sum
      rw [k_v0]
      apply q_body
      have b6 : INF = 1000000 := rfl
      simp only [b_X5_sum, c0, c1, qS_nop, qS_seq, qS_set, qS_setJ, qS_if, qS_brk, qS_ret, qS_retV, qS_throw, qS_inc, qS_cl, qS_ast, qS_aop, qS_fst, qS_fop, qS_sw, qT_eC, qT_eCB, qT_eL, qT_eLJ, qT_eLR, qT_eLB, qT_e1, qT_e2, qT_bCmp, qT_bCmpJ, qT_bAnd, qT_bOr, qT_bNot, qT_eBI, qT_eIf, qT_eLd, qT_eLdR, qT_eLen, qT_eF, qT_eFR, qT_aN, qT_aS, qT_eCl, qT_eClR, qT_eClB, qT_some, qT_x, z_nx_N, z_nx_B, z_nx_R, z_nx_X, z_bk_N, z_bk_B, z_bk_R, z_bk_X, oAdd, oSub, oMul, oNeg, cLt, cLe, cGt, cGe, cEq, cNe, Option.some.injEq, Sum.inl.injEq, Sum.inr.injEq, Prod.mk.injEq, exists_eq_left, exists_eq_left', exists_eq_right, exists_and_left, reduceCtorEq, and_true, true_and, and_false, false_and, List.getElem?_cons_zero, List.getElem?_cons_succ, List.set_cons_zero, List.set_cons_succ, List.replicate, List.length_cons, List.length_nil, List.cons_append, List.nil_append, Nat.reduceAdd, Nat.reduceSub, decide_eq_true_eq, decide_eq_false_iff_not, Bool.true_eq_false, Bool.false_eq_true, true_implies, false_implies, implies_true, Nat.reduceLT, exists_const, z_vB_inj, and_assoc, z_in_iff, oI2L, oL2I, Int.toNat_natCast, z_toNat0, Bool.not_eq_true', Bool.not_eq_false', ne_eq, Bool.not_true, Bool.not_false, Nat.add_zero, Int.add_zero, z_sl_s]
    · unfold m_X6_sum
      rw [k_v85]
      apply q_body
      have b6 : INF = 1000000 := rfl
      simp only [b_X6_sum, r0, r1, rf_can1, z_vB1, z_vB0, if_true, if_false, not_true_eq_false, not_false_eq_true, k_t_n, k_t_1, exists_eq, k_v85, k_o85, k_r0, k_r1, k_r2, k_r3, k_r4, k_r5, k_r6, k_r7, k_r8, k_r9, k_r10, k_r11, k_r12, k_r13, k_r14, k_r15, k_r16, k_r17, k_r18, k_rl, k_sc, k_st, k_a86, k_s86, k_a87, k_s87, k_a88, k_s88, k_a89, k_s89, k_a90, k_s90, k_a91, k_s91, k_a92, k_s92, k_a93, k_s93, k_a94, k_s94, k_a95, k_s95, k_a96, k_s96, k_a97, k_s97, k_a98, k_s98, k_a99, k_s99, k_a100, k_s100, k_a101, k_s101, k_a102, k_s102, k_u_s, k_u_n, k_u_u, Nat.reduceEqDiff, not_false_eq_true, qS_nop, qS_seq, qS_set, qS_setJ, qS_if, qS_brk, qS_ret, qS_retV, qS_throw, qS_inc, qS_cl, qS_ast, qS_aop, qS_fst, qS_fop, qS_sw, qT_eC, qT_eCB, qT_eL, qT_eLJ, qT_eLR, qT_eLB, qT_e1, qT_e2, qT_bCmp, qT_bCmpJ, qT_bAnd, qT_bOr, qT_bNot, qT_eBI, qT_eIf, qT_eLd, qT_eLdR, qT_eLen, qT_eF, qT_eFR, qT_aN, qT_aS, qT_eCl, qT_eClR, qT_eClB, qT_some, qT_x, z_nx_N, z_nx_B, z_nx_R, z_nx_X, z_bk_N, z_bk_B, z_bk_R, z_bk_X, oAdd, oSub, oMul, oNeg, cLt, cLe, cGt, cGe, cEq, cNe, Option.some.injEq, Sum.inl.injEq, Sum.inr.injEq, Prod.mk.injEq, exists_eq_left, exists_eq_left', exists_eq_right, exists_and_left, reduceCtorEq, and_true, true_and, and_false, false_and, List.getElem?_cons_zero, List.getElem?_cons_succ, List.set_cons_zero, List.set_cons_succ, List.replicate, List.length_cons, List.length_nil, List.cons_append, List.nil_append, Nat.reduceAdd, Nat.reduceSub, decide_eq_true_eq, decide_eq_false_iff_not, Bool.true_eq_false, Bool.false_eq_true, true_implies, false_implies, implies_true, Nat.reduceLT, exists_const, z_vB_inj, and_assoc, z_in_iff, oI2L, oL2I, Int.toNat_natCast, z_toNat0, Bool.not_eq_true', Bool.not_eq_false', ne_eq, Bool.not_true, Bool.not_false, Nat.add_zero, Int.add_zero, z_sl_s]
  by_cases q2 : 0 ≤ t ∧ t ≤ 3
  rotate_left
  · have c0 := s_nH1 (i := p) q0
    have r0 := rf_one1 (i := p) q0
    have c1 := s_nH1 (i := k) q1
    have r1 := rf_one1 (i := k) q1
    have c2 := s_nH0 ht q2
    have r2 := rf_one0 ht q2
    refine kOp.x1 (r := vI 0) (S1 := S) (S2 := fun g => k_t (k_u S 103 g) 1) ?_ (fun g => ?_) (fun g => I.t g 1) (fun g => k_t_103) (fun g => k_t_1)
    · unfold m_X5_sum
      rw [k_v0]
      apply q_body
      have b6 : INF = 1000000 := rfl
      simp only [b_X5_sum, c0, c1, c2, qS_nop, qS_seq, qS_set, qS_setJ, qS_if, qS_brk, qS_ret, qS_retV, qS_throw, qS_inc, qS_cl, qS_ast, qS_aop, qS_fst, qS_fop, qS_sw, qT_eC, qT_eCB, qT_eL, qT_eLJ, qT_eLR, qT_eLB, qT_e1, qT_e2, qT_bCmp, qT_bCmpJ, qT_bAnd, qT_bOr, qT_bNot, qT_eBI, qT_eIf, qT_eLd, qT_eLdR, qT_eLen, qT_eF, qT_eFR, qT_aN, qT_aS, qT_eCl, qT_eClR, qT_eClB, qT_some, qT_x, z_nx_N, z_nx_B, z_nx_R, z_nx_X, z_bk_N, z_bk_B, z_bk_R, z_bk_X, oAdd, oSub, oMul, oNeg, cLt, cLe, cGt, cGe, cEq, cNe, Option.some.injEq, Sum.inl.injEq, Sum.inr.injEq, Prod.mk.injEq, exists_eq_left, exists_eq_left', exists_eq_right, exists_and_left, reduceCtorEq, and_true, true_and, and_false, false_and, List.getElem?_cons_zero, List.getElem?_cons_succ, List.set_cons_zero, List.set_cons_succ, List.replicate, List.length_cons, List.length_nil, List.cons_append, List.nil_append, Nat.reduceAdd, Nat.reduceSub, decide_eq_true_eq, decide_eq_false_iff_not, Bool.true_eq_false, Bool.false_eq_true, true_implies, false_implies, implies_true, Nat.reduceLT, exists_const, z_vB_inj, and_assoc, z_in_iff, oI2L, oL2I, Int.toNat_natCast, z_toNat0, Bool.not_eq_true', Bool.not_eq_false', ne_eq, Bool.not_true, Bool.not_false, Nat.add_zero, Int.add_zero, z_sl_s]
    · unfold m_X6_sum
      rw [k_v85]
      apply q_body
      have b6 : INF = 1000000 := rfl
      simp only [b_X6_sum, r0, r1, r2, rf_can1, z_vB1, z_vB0, if_true, if_false, not_true_eq_false, not_false_eq_true, k_t_n, k_t_1, exists_eq, k_v85, k_o85, k_r0, k_r1, k_r2, k_r3, k_r4, k_r5, k_r6, k_r7, k_r8, k_r9, k_r10, k_r11, k_r12, k_r13, k_r14, k_r15, k_r16, k_r17, k_r18, k_rl, k_sc, k_st, k_a86, k_s86, k_a87, k_s87, k_a88, k_s88, k_a89, k_s89, k_a90, k_s90, k_a91, k_s91, k_a92, k_s92, k_a93, k_s93, k_a94, k_s94, k_a95, k_s95, k_a96, k_s96, k_a97, k_s97, k_a98, k_s98, k_a99, k_s99, k_a100, k_s100, k_a101, k_s101, k_a102, k_s102, k_u_s, k_u_n, k_u_u, Nat.reduceEqDiff, not_false_eq_true, qS_nop, qS_seq, qS_set, qS_setJ, qS_if, qS_brk, qS_ret, qS_retV, qS_throw, qS_inc, qS_cl, qS_ast, qS_aop, qS_fst, qS_fop, qS_sw, qT_eC, qT_eCB, qT_eL, qT_eLJ, qT_eLR, qT_eLB, qT_e1, qT_e2, qT_bCmp, qT_bCmpJ, qT_bAnd, qT_bOr, qT_bNot, qT_eBI, qT_eIf, qT_eLd, qT_eLdR, qT_eLen, qT_eF, qT_eFR, qT_aN, qT_aS, qT_eCl, qT_eClR, qT_eClB, qT_some, qT_x, z_nx_N, z_nx_B, z_nx_R, z_nx_X, z_bk_N, z_bk_B, z_bk_R, z_bk_X, oAdd, oSub, oMul, oNeg, cLt, cLe, cGt, cGe, cEq, cNe, Option.some.injEq, Sum.inl.injEq, Sum.inr.injEq, Prod.mk.injEq, exists_eq_left, exists_eq_left', exists_eq_right, exists_and_left, reduceCtorEq, and_true, true_and, and_false, false_and, List.getElem?_cons_zero, List.getElem?_cons_succ, List.set_cons_zero, List.set_cons_succ, List.replicate, List.length_cons, List.length_nil, List.cons_append, List.nil_append, Nat.reduceAdd, Nat.reduceSub, decide_eq_true_eq, decide_eq_false_iff_not, Bool.true_eq_false, Bool.false_eq_true, true_implies, false_implies, implies_true, Nat.reduceLT, exists_const, z_vB_inj, and_assoc, z_in_iff, oI2L, oL2I, Int.toNat_natCast, z_toNat0, Bool.not_eq_true', Bool.not_eq_false', ne_eq, Bool.not_true, Bool.not_false, Nat.add_zero, Int.add_zero, z_sl_s]
  have c0 := s_nH1 (i := p) q0
  have r0 := rf_one1 (i := p) q0
  have c1 := s_nH1 (i := k) q1
  have r1 := rf_one1 (i := k) q1
  have c2 := s_nH1 (i := t) q2
  have r2 := rf_one1 (i := t) q2
  obtain ⟨i, rfl⟩ : ∃ i : Nat, p = i := ⟨p.toNat, by omega⟩
  have h_i : i < 4 := by omega
  obtain ⟨j, rfl⟩ : ∃ j : Nat, k = j := ⟨k.toNat, by omega⟩
  have h_j : j < 4 := by omega
  obtain ⟨l, rfl⟩ : ∃ l : Nat, t = l := ⟨t.toNat, by omega⟩
  have h_l : l < 4 := by omega
  have a1 := k_1r h_i
  have a2 := k_1r h_j
  have a3 := k_1r h_l
  have pi := (I.1 i h_i).1
  have pj := (I.1 j h_j).1
  have pri := rP_S I h_i
  have prj := rP_S I h_j
  have x1 := s_becomeLesser (o := 28) (c := 29) (h := k_W S) (k_get (by decide)) (k_get (by decide)) (k_po h_i) (k_pc h_i) pi (k_po h_j) (k_pc h_j) pj (by omega) (by omega)
  have x1' : m_X4_becomeLesser [vR 28, vR (49 + 9 * i), vR (49 + 9 * j)] (k_W S) = some (.inl none, k_W (k_u S 29 (p9 (pMin (S (50 + 9 * i)) (S (50 + 9 * j))) (S 29)))) := by
    rw [x1, k_s29]
    rfl
  obtain ⟨X, hX⟩ : ∃ X, X = k_u S 29 (p9 (pMin (S (50 + 9 * i)) (S (50 + 9 * j))) (S 29)) := ⟨_, rfl⟩
  rw [← hX] at x1'
  have X29 : ∀ k, k < 9 → X 29 k = pMin (S (50 + 9 * i)) (S (50 + 9 * j)) k := fun k hk => by rw [hX, k_u_s, p9_l hk]
  have Xo : ∀ a, a ≠ 29 → X a = S a := fun a ha => by rw [hX, k_u_n ha]
  have Xok : pOk (X 29) := fun k hk => by
    rw [X29 k hk]
    exact pMin_ok pi pj k hk
  have x2 := s_cp29 (X := X) h_l
  have x3 := s_ct (X := X) h_l Xok
  have y86 : kLay X l 86 = S 86 := by
    unfold kLay
    rw [k_u_n (by omega), Xo _ (by omega)]
  obtain ⟨U, hU⟩ : ∃ U, U = fun g => k_t (k_u (kLay X l) 103 g) 0 := ⟨_, rfl⟩
  have U86 : ∀ g, U g 86 = S 86 := fun g => by rw [hU]; exact (k_t_n (by decide)).trans ((k_u_n (by decide)).trans y86)
  have UP : ∀ g x, rP (U g) x = rP S x := fun g x => by unfold rP; rw [U86]
  have UE : ∀ g, k_t (k_u (kLay X l) 103 g) 0 = U g := fun g => by rw [hU]
  let V := fun g => k_u (U g) 88 (z_to 9 (pMin (rP S i) (rP S j)) (U g 88))
  have V88 : ∀ g k, k < 9 → V g 88 k = X 29 k := fun g k hk => by
    show k_u (U g) 88 _ 88 k = _
    rw [k_u_s, z_to_lt hk, X29 k hk]
    unfold pMin
    rw [rP_e I h_i hk, rP_e I h_j hk]
  have VK : ∀ g a, ¬ kFree a → V g a = kLay X l a := fun g a ha => by
    show k_u (U g) 88 _ a = _
    rw [k_u_n (fun e => ha (by subst e; unfold kFree; omega)), hU]
    exact (k_t_n (fun e => ha (by subst e; unfold kFree; omega))).trans (k_u_n (fun e => ha (by subst e; unfold kFree; omega)))
  refine kOp.ok (r := vI (z_cnt (fun k => z_dec (X 29 k ≠ INF)) 9)) (S1 := kLay X l) (S2 := fun g => k_u (V g) 86 (z_at (9 * l) 9 (V g 88) (V g 86))) ?_ (fun g => ?_) (fun g => I.lay h_l Xo Xok (VK g) (V88 g)) (fun g => ?_) (fun g => ?_)
  · unfold m_X5_sum
    rw [k_v0]
    apply q_body
    have b6 : INF = 1000000 := rfl
    simp only [b_X5_sum, c0, c1, c2, k_o0, k_a1, a1, a2, a3, x1', x2, x3, qS_nop, qS_seq, qS_set, qS_setJ, qS_if, qS_brk, qS_ret, qS_retV, qS_throw, qS_inc, qS_cl, qS_ast, qS_aop, qS_fst, qS_fop, qS_sw, qT_eC, qT_eCB, qT_eL, qT_eLJ, qT_eLR, qT_eLB, qT_e1, qT_e2, qT_bCmp, qT_bCmpJ, qT_bAnd, qT_bOr, qT_bNot, qT_eBI, qT_eIf, qT_eLd, qT_eLdR, qT_eLen, qT_eF, qT_eFR, qT_aN, qT_aS, qT_eCl, qT_eClR, qT_eClB, qT_some, qT_x, z_nx_N, z_nx_B, z_nx_R, z_nx_X, z_bk_N, z_bk_B, z_bk_R, z_bk_X, oAdd, oSub, oMul, oNeg, cLt, cLe, cGt, cGe, cEq, cNe, Option.some.injEq, Sum.inl.injEq, Sum.inr.injEq, Prod.mk.injEq, exists_eq_left, exists_eq_left', exists_eq_right, exists_and_left, reduceCtorEq, and_true, true_and, and_false, false_and, List.getElem?_cons_zero, List.getElem?_cons_succ, List.set_cons_zero, List.set_cons_succ, List.replicate, List.length_cons, List.length_nil, List.cons_append, List.nil_append, Nat.reduceAdd, Nat.reduceSub, decide_eq_true_eq, decide_eq_false_iff_not, Bool.true_eq_false, Bool.false_eq_true, true_implies, false_implies, implies_true, Nat.reduceLT, exists_const, z_vB_inj, and_assoc, z_in_iff, oI2L, oL2I, Int.toNat_natCast, z_toNat0, Bool.not_eq_true', Bool.not_eq_false', ne_eq, Bool.not_true, Bool.not_false, Nat.add_zero, Int.add_zero, z_sl_s]
    omega
  · have r9 := rf_laysPoly (S := V g) h_l (fun k hk => by rw [V88 g k hk]; have := Xok k hk; omega)
    rw [z_cnt_ne (V88 g)] at r9
    unfold m_X6_sum
    rw [k_v85]
    apply q_body
    have b6 : INF = 1000000 := rfl
    simp only [b_X6_sum, r0, r1, r2, rf_can0, UE, z_vB1, z_vB0, if_true, if_false, not_true_eq_false, not_false_eq_true, k_t_n, k_t_1, exists_eq, qS_nop, qS_seq, qS_set, qS_setJ, qS_if, qS_brk, qS_ret, qS_retV, qS_throw, qS_inc, qS_cl, qS_ast, qS_aop, qS_fst, qS_fop, qS_sw, qT_eC, qT_eCB, qT_eL, qT_eLJ, qT_eLR, qT_eLB, qT_e1, qT_e2, qT_bCmp, qT_bCmpJ, qT_bAnd, qT_bOr, qT_bNot, qT_eBI, qT_eIf, qT_eLd, qT_eLdR, qT_eLen, qT_eF, qT_eFR, qT_aN, qT_aS, qT_eCl, qT_eClR, qT_eClB, qT_some, qT_x, z_nx_N, z_nx_B, z_nx_R, z_nx_X, z_bk_N, z_bk_B, z_bk_R, z_bk_X, oAdd, oSub, oMul, oNeg, cLt, cLe, cGt, cGe, cEq, cNe, Option.some.injEq, Sum.inl.injEq, Sum.inr.injEq, Prod.mk.injEq, exists_eq_left, exists_eq_left', exists_eq_right, exists_and_left, reduceCtorEq, and_true, true_and, and_false, false_and, List.getElem?_cons_zero, List.getElem?_cons_succ, List.set_cons_zero, List.set_cons_succ, List.replicate, List.length_cons, List.length_nil, List.cons_append, List.nil_append, Nat.reduceAdd, Nat.reduceSub, decide_eq_true_eq, decide_eq_false_iff_not, Bool.true_eq_false, Bool.false_eq_true, true_implies, false_implies, implies_true, Nat.reduceLT, exists_const, z_vB_inj, and_assoc, z_in_iff, oI2L, oL2I, Int.toNat_natCast, z_toNat0, Bool.not_eq_true', Bool.not_eq_false', ne_eq, Bool.not_true, Bool.not_false, Nat.add_zero, Int.add_zero, z_sl_s]
    repeat (refine And.intro (by omega) ?_)
    refine qS_for (fun k => [vR 85, vI (i : Int), vI (j : Int), vI (l : Int), vI (k : Int)]) (fun k => k_W (k_u (U g) 88 (z_to k (pMin (rP S i) (rP S j)) (U g 88)))) (fun _ => True) 9 rfl (by rw [z_to_0, k_u_id]) trivial (by decide) ?_ ?_
    · intro k hk _
      have b1 := pri k hk
      have b2 := prj k hk
      have o1 := rf_of (S := k_u (U g) 88 (z_to k (pMin (rP S i) (rP S j)) (U g 88))) h_i hk
      have o2 := rf_of (S := k_u (U g) 88 (z_to k (pMin (rP S i) (rP S j)) (U g 88))) h_j hk
      rw [rP_u (by decide), UP] at o1 o2
      have e1 := rf_lesser (h := k_W (k_u (U g) 88 (z_to k (pMin (rP S i) (rP S j)) (U g 88)))) (x := rP S i k) (y := rP S j k) ⟨by omega, by omega⟩ ⟨by omega, by omega⟩
      have z := z_to_s k (pMin (rP S i) (rP S j)) (U g 88)
      simp only [o1, o2, e1, k_v85, k_o85, k_r0, k_r1, k_r2, k_r3, k_r4, k_r5, k_r6, k_r7, k_r8, k_r9, k_r10, k_r11, k_r12, k_r13, k_r14, k_r15, k_r16, k_r17, k_r18, k_rl, k_sc, k_st, k_a86, k_s86, k_a87, k_s87, k_a88, k_s88, k_a89, k_s89, k_a90, k_s90, k_a91, k_s91, k_a92, k_s92, k_a93, k_s93, k_a94, k_s94, k_a95, k_s95, k_a96, k_s96, k_a97, k_s97, k_a98, k_s98, k_a99, k_s99, k_a100, k_s100, k_a101, k_s101, k_a102, k_s102, k_u_s, k_u_n, k_u_u, Nat.reduceEqDiff, not_false_eq_true, qS_nop, qS_seq, qS_set, qS_setJ, qS_if, qS_brk, qS_ret, qS_retV, qS_throw, qS_inc, qS_cl, qS_ast, qS_aop, qS_fst, qS_fop, qS_sw, qT_eC, qT_eCB, qT_eL, qT_eLJ, qT_eLR, qT_eLB, qT_e1, qT_e2, qT_bCmp, qT_bCmpJ, qT_bAnd, qT_bOr, qT_bNot, qT_eBI, qT_eIf, qT_eLd, qT_eLdR, qT_eLen, qT_eF, qT_eFR, qT_aN, qT_aS, qT_eCl, qT_eClR, qT_eClB, qT_some, qT_x, z_nx_N, z_nx_B, z_nx_R, z_nx_X, z_bk_N, z_bk_B, z_bk_R, z_bk_X, oAdd, oSub, oMul, oNeg, cLt, cLe, cGt, cGe, cEq, cNe, Option.some.injEq, Sum.inl.injEq, Sum.inr.injEq, Prod.mk.injEq, exists_eq_left, exists_eq_left', exists_eq_right, exists_and_left, reduceCtorEq, and_true, true_and, and_false, false_and, List.getElem?_cons_zero, List.getElem?_cons_succ, List.set_cons_zero, List.set_cons_succ, List.replicate, List.length_cons, List.length_nil, List.cons_append, List.nil_append, Nat.reduceAdd, Nat.reduceSub, decide_eq_true_eq, decide_eq_false_iff_not, Bool.true_eq_false, Bool.false_eq_true, true_implies, false_implies, implies_true, Nat.reduceLT, exists_const, z_vB_inj, and_assoc, z_in_iff, oI2L, oL2I, Int.toNat_natCast, z_toNat0, Bool.not_eq_true', Bool.not_eq_false', ne_eq, Bool.not_true, Bool.not_false, Nat.add_zero, Int.add_zero, z_sl_s]
      repeat (refine And.intro (by omega) ?_)
      refine ⟨rfl, ?_⟩
      rw [← z]
      rfl
    · intro _
      have r9' : m_X6_laysPoly [vR 85, vI (l : Int)] (k_W (k_u (U g) 88 (z_to 9 (pMin (rP S i) (rP S j)) (U g 88)))) = _ := r9
      simp only [r9', qS_nop, qS_seq, qS_set, qS_setJ, qS_if, qS_brk, qS_ret, qS_retV, qS_throw, qS_inc, qS_cl, qS_ast, qS_aop, qS_fst, qS_fop, qS_sw, qT_eC, qT_eCB, qT_eL, qT_eLJ, qT_eLR, qT_eLB, qT_e1, qT_e2, qT_bCmp, qT_bCmpJ, qT_bAnd, qT_bOr, qT_bNot, qT_eBI, qT_eIf, qT_eLd, qT_eLdR, qT_eLen, qT_eF, qT_eFR, qT_aN, qT_aS, qT_eCl, qT_eClR, qT_eClB, qT_some, qT_x, z_nx_N, z_nx_B, z_nx_R, z_nx_X, z_bk_N, z_bk_B, z_bk_R, z_bk_X, oAdd, oSub, oMul, oNeg, cLt, cLe, cGt, cGe, cEq, cNe, Option.some.injEq, Sum.inl.injEq, Sum.inr.injEq, Prod.mk.injEq, exists_eq_left, exists_eq_left', exists_eq_right, exists_and_left, reduceCtorEq, and_true, true_and, and_false, false_and, List.getElem?_cons_zero, List.getElem?_cons_succ, List.set_cons_zero, List.set_cons_succ, List.replicate, List.length_cons, List.length_nil, List.cons_append, List.nil_append, Nat.reduceAdd, Nat.reduceSub, decide_eq_true_eq, decide_eq_false_iff_not, Bool.true_eq_false, Bool.false_eq_true, true_implies, false_implies, implies_true, Nat.reduceLT, exists_const, z_vB_inj, and_assoc, z_in_iff, oI2L, oL2I, Int.toNat_natCast, z_toNat0, Bool.not_eq_true', Bool.not_eq_false', ne_eq, Bool.not_true, Bool.not_false, Nat.add_zero, Int.add_zero, z_sl_s]
      omega
  · show k_u (k_u (U g) 88 _) 86 _ 103 = g
    rw [k_u_n (by decide), k_u_n (by decide), ← UE, k_t_103]
  · show k_u (k_u (U g) 88 _) 86 _ 85 1 = 0
    rw [k_u_n (by decide), k_u_n (by decide), ← UE, k_t_1]
end FO
