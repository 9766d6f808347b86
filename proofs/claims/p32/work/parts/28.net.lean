/-! Net: counting -/
def gAt (h : z_Hp) (e r w : Nat) (G : Nat → Nat → Int) : Prop := (∃ fo, h[e]? = some (.inr (4, w, fo)) ∧ ∀ i, i < w → fo i = ((r + i : Nat) : Int)) ∧ ∀ i, i < w → h[r + i]? = some (.inr (0, w, G i))
theorem gAt.row {h : z_Hp} {e r w : Nat} {G : Nat → Nat → Int} (a : gAt h e r w G) (hw : w < 1000) : ∃ fo, z_arr h e 4 = some (w, fo) ∧ ∀ i, i < w → 0 ≤ fo i ∧ (fo i).toNat = r + i ∧ z_arr h (r + i) 0 = some (w, G i) := by
  obtain ⟨⟨fo, a2, a3⟩, a4⟩ := a
  refine ⟨fo, q_arr a2 (by omega), fun i hi => ⟨?_, ?_, q_arr (a4 i hi) (by omega)⟩⟩
  · rw [a3 i hi]; omega
  · rw [a3 i hi]; omega
theorem gAt.kept {h h' : z_Hp} {e r w : Nat} {G : Nat → Nat → Int} (a : gAt h e r w G) (he : h'[e]? = h[e]?) (hr : ∀ i, i < w → h'[r + i]? = h[r + i]?) : gAt h' e r w G := by
  obtain ⟨⟨fo, a2, a3⟩, a4⟩ := a
  exact ⟨⟨fo, he.trans a2, a3⟩, fun i hi => (hr i hi).trans (a4 i hi)⟩
theorem gAt.fr {h h' : z_Hp} {S : Nat → Prop} {e r w : Nat} {G : Nat → Nat → Int} (a : gAt h e r w G) (f : z_fr S h h') (he : ¬ S e) (hr : ∀ i, i < w → ¬ S (r + i)) : gAt h' e r w G := a.kept (f e he) (fun i hi => f _ (hr i hi))
theorem gAt.set {h : z_Hp} {e r w : Nat} {G : Nat → Nat → Int} (a : gAt h e r w G) (ne : e < r ∨ r + w ≤ e) {i : Nat} (hi : i < w) (g : Nat → Int) : gAt (h.set (r + i) (.inr (0, w, g))) e r w (fun x => if x = i then g else G x) := by
  obtain ⟨⟨fo, a2, a3⟩, a4⟩ := a
  refine ⟨⟨fo, (z_set_ne (by omega)).trans a2, a3⟩, fun x hx => ?_⟩
  by_cases e : x = i
  · subst e
    simp only [if_true]
    exact z_set_get (a4 x hx)
  · simp only [e, if_false]
    exact (z_set_ne (by omega)).trans (a4 x hx)
/-- the class's net: its cells -/
def nAt (h : z_Hp) (B : Nat → Nat → Int) (C N : Nat → Int) (P D : Nat → Nat → Int) : Prop := h[8]? = some (.inl (3, [vR 9, vR 15, vR 16, vR 17, vR 23])) ∧ gAt h 9 10 5 B ∧ h[15]? = some (.inr (0, 5, C)) ∧ h[16]? = some (.inr (0, 5, N)) ∧ gAt h 17 18 5 P ∧ gAt h 23 24 4 D
/-- a bit of a set or of its complement -/
abbrev iB (s : Int) (v : Nat) : Prop := s / 2 ^ v % 2 = 1
theorem i_shr : ∀ (s : Fin 64) (c : Fin 5), oShr ((s.val : Int) - 32) (c.val : Int) = some (((s.val : Int) - 32) / 2 ^ c.val) := by decide
theorem i_and : ∀ (s : Fin 64), oAnd ((s.val : Int) - 32) 1 = some (((s.val : Int) - 32) % 2) := by decide
theorem i_rng : ∀ (s : Fin 64) (c : Fin 5), -32 ≤ ((s.val : Int) - 32) / 2 ^ c.val ∧ ((s.val : Int) - 32) / 2 ^ c.val < 32 := by decide
theorem i_bits {s : Int} (h0 : -32 ≤ s ∧ s < 32) {v : Nat} (hv : v < 5) : ∃ x, oShr s (v : Int) = some x ∧ oAnd x 1 = some (s / 2 ^ v % 2) := by
  have e : ((s + 32).toNat : Int) - 32 = s := by omega
  have a := i_shr ⟨(s + 32).toNat, by omega⟩ ⟨v, hv⟩
  have b := i_rng ⟨(s + 32).toNat, by omega⟩ ⟨v, hv⟩
  simp only [e] at a b
  refine ⟨_, a, ?_⟩
  generalize s / 2 ^ v = y at b
  have e : ((y + 32).toNat : Int) - 32 = y := by omega
  have c := i_and ⟨(y + 32).toNat, by omega⟩
  simp only [e] at c
  exact c
def nBd (B : Nat → Nat → Int) : Prop := ∀ i j, i < 5 → j < 5 → 0 ≤ B i j ∧ B i j ≤ 1000
/-- edges from a vertex into a set -/
def nCe (B : Nat → Nat → Int) (v : Nat) (s : Int) : Nat → Int
  | 0 => 0
  | u + 1 => if iB s u then nCe B v s u + B v u else nCe B v s u
theorem nCe_b {B : Nat → Nat → Int} (hB : nBd B) {v : Nat} (hv : v < 5) {s : Int} : ∀ u, u ≤ 5 → 0 ≤ nCe B v s u ∧ nCe B v s u ≤ 1000 * (u : Int)
  | 0, _ => by simp [nCe]
  | u + 1, hu => by
    have := nCe_b hB hv (s := s) u (by omega)
    have := hB v u hv (by omega)
    unfold nCe
    split <;> omega
section NT
variable {h : z_Hp} {B P D : Nat → Nat → Int} {C N : Nat → Int}
theorem s_all (a : nAt h B C N P D) : m_X3_allVertices [vR 8] h = some (.inl (some (vI 31)), h) := by
  unfold m_X3_allVertices
  rw [q_vm a.1]
  apply q_body
  simp only [b_X3_allVertices, qS_nop, qS_seq, qS_set, qS_setJ, qS_if, qS_brk, qS_ret, qS_retV, qS_throw, qS_inc, qS_cl, qS_ast, qS_aop, qS_fst, qS_fop, qS_sw, qT_eC, qT_eCB, qT_eL, qT_eLJ, qT_eLR, qT_eLB, qT_e1, qT_e2, qT_bCmp, qT_bCmpJ, qT_bAnd, qT_bOr, qT_bNot, qT_eBI, qT_eIf, qT_eLd, qT_eLdR, qT_eLen, qT_eF, qT_eFR, qT_aN, qT_aS, qT_eCl, qT_eClR, qT_eClB, qT_some, qT_x, z_nx_N, z_nx_B, z_nx_R, z_nx_X, z_bk_N, z_bk_B, z_bk_R, z_bk_X, oAdd, oSub, oMul, oNeg, cLt, cLe, cGt, cGe, cEq, cNe, Option.some.injEq, Sum.inl.injEq, Sum.inr.injEq, Prod.mk.injEq, exists_eq_left, exists_eq_left', exists_eq_right, exists_and_left, reduceCtorEq, and_true, true_and, and_false, false_and, List.getElem?_cons_zero, List.getElem?_cons_succ, List.set_cons_zero, List.set_cons_succ, List.replicate, List.length_cons, List.length_nil, List.cons_append, List.nil_append, Nat.reduceAdd, Nat.reduceSub, decide_eq_true_eq, decide_eq_false_iff_not, Bool.true_eq_false, Bool.false_eq_true, true_implies, false_implies, implies_true, Nat.reduceLT, exists_const, z_vB_inj, and_assoc, z_in_iff, oI2L, oL2I, Int.toNat_natCast, z_toNat0, Bool.not_eq_true', Bool.not_eq_false', ne_eq, Bool.not_true, Bool.not_false, Nat.add_zero, Int.add_zero, z_sl_s]
theorem s_has (a : nAt h B C N P D) {s : Int} (hs : -32 ≤ s ∧ s < 32) {v : Nat} (hv : v < 5) : m_X3_has [vR 8, vI s, vI (v : Int)] h = some (.inl (some (vB (z_dec (iB s v)))), h) := by
  unfold m_X3_has
  rw [q_vm a.1]
  apply q_body
  obtain ⟨x, e1, e2⟩ := i_bits hs hv
  simp only [b_X3_has, e1, e2, qS_nop, qS_seq, qS_set, qS_setJ, qS_if, qS_brk, qS_ret, qS_retV, qS_throw, qS_inc, qS_cl, qS_ast, qS_aop, qS_fst, qS_fop, qS_sw, qT_eC, qT_eCB, qT_eL, qT_eLJ, qT_eLR, qT_eLB, qT_e1, qT_e2, qT_bCmp, qT_bCmpJ, qT_bAnd, qT_bOr, qT_bNot, qT_eBI, qT_eIf, qT_eLd, qT_eLdR, qT_eLen, qT_eF, qT_eFR, qT_aN, qT_aS, qT_eCl, qT_eClR, qT_eClB, qT_some, qT_x, z_nx_N, z_nx_B, z_nx_R, z_nx_X, z_bk_N, z_bk_B, z_bk_R, z_bk_X, oAdd, oSub, oMul, oNeg, cLt, cLe, cGt, cGe, cEq, cNe, Option.some.injEq, Sum.inl.injEq, Sum.inr.injEq, Prod.mk.injEq, exists_eq_left, exists_eq_left', exists_eq_right, exists_and_left, reduceCtorEq, and_true, true_and, and_false, false_and, List.getElem?_cons_zero, List.getElem?_cons_succ, List.set_cons_zero, List.set_cons_succ, List.replicate, List.length_cons, List.length_nil, List.cons_append, List.nil_append, Nat.reduceAdd, Nat.reduceSub, decide_eq_true_eq, decide_eq_false_iff_not, Bool.true_eq_false, Bool.false_eq_true, true_implies, false_implies, implies_true, Nat.reduceLT, exists_const, z_vB_inj, and_assoc, z_in_iff, oI2L, oL2I, Int.toNat_natCast, z_toNat0, Bool.not_eq_true', Bool.not_eq_false', ne_eq, Bool.not_true, Bool.not_false, Nat.add_zero, Int.add_zero, z_sl_s]
  refine ⟨by omega, by omega, by omega, by omega, ?_⟩
  exact z_dec_eq decide_eq_true_iff
theorem s_ce (a : nAt h B C N P D) (hB : nBd B) {s : Int} (hs : -32 ≤ s ∧ s < 32) {v : Nat} (hv : v < 5) : m_X3_countEdgesInto [vR 8, vI (v : Int), vI s] h = some (.inl (some (vI (nCe B v s 5))), h) := by
  unfold m_X3_countEdgesInto
  rw [q_vm a.1]
  apply q_body
  simp only [b_X3_countEdgesInto, qS_nop, qS_seq, qS_set, qS_setJ, qS_if, qS_brk, qS_ret, qS_retV, qS_throw, qS_inc, qS_cl, qS_ast, qS_aop, qS_fst, qS_fop, qS_sw, qT_eC, qT_eCB, qT_eL, qT_eLJ, qT_eLR, qT_eLB, qT_e1, qT_e2, qT_bCmp, qT_bCmpJ, qT_bAnd, qT_bOr, qT_bNot, qT_eBI, qT_eIf, qT_eLd, qT_eLdR, qT_eLen, qT_eF, qT_eFR, qT_aN, qT_aS, qT_eCl, qT_eClR, qT_eClB, qT_some, qT_x, z_nx_N, z_nx_B, z_nx_R, z_nx_X, z_bk_N, z_bk_B, z_bk_R, z_bk_X, oAdd, oSub, oMul, oNeg, cLt, cLe, cGt, cGe, cEq, cNe, Option.some.injEq, Sum.inl.injEq, Sum.inr.injEq, Prod.mk.injEq, exists_eq_left, exists_eq_left', exists_eq_right, exists_and_left, reduceCtorEq, and_true, true_and, and_false, false_and, List.getElem?_cons_zero, List.getElem?_cons_succ, List.set_cons_zero, List.set_cons_succ, List.replicate, List.length_cons, List.length_nil, List.cons_append, List.nil_append, Nat.reduceAdd, Nat.reduceSub, decide_eq_true_eq, decide_eq_false_iff_not, Bool.true_eq_false, Bool.false_eq_true, true_implies, false_implies, implies_true, Nat.reduceLT, exists_const, z_vB_inj, and_assoc, z_in_iff, oI2L, oL2I, Int.toNat_natCast, z_toNat0, Bool.not_eq_true', Bool.not_eq_false', ne_eq, Bool.not_true, Bool.not_false, Nat.add_zero, Int.add_zero, z_sl_s]
  refine qS_for (fun k => [vR 8, vI (v : Int), vI s, vI (nCe B v s k), vI (k : Int)]) (fun _ => h) (fun _ => True) 5 rfl rfl trivial (by omega) ?_ ?_
  · intro k hk _
    have w := i_bits hs hk
    generalize hx : Classical.choose w = x
    have w2 := Classical.choose_spec w
    rw [hx] at w2
    have g := a.2.1.row (by omega)
    have g2 := Classical.choose_spec g
    have g3 := g2.2 v hv
    have b1 := hB v k hv hk
    have b2 := nCe_b hB hv (s := s) k (by omega)
    have hq : iB s k ↔ s / 2 ^ k % 2 = 1 := Iff.rfl
    have hr : 0 ≤ s / 2 ^ k % 2 ∧ s / 2 ^ k % 2 < 2 := ⟨by omega, by omega⟩
    have c1 := g2.1
    have c2 := g3.1
    have c3 := g3.2.1
    have c4 := g3.2.2
    have w3 := w2.1
    have w4 := w2.2
    generalize s / 2 ^ k % 2 = y at w4 hq hr
    generalize Classical.choose g = fo at c1 c2 c3
    simp only [w3, w4, q_obj a.1, qS_nop, qS_seq, qS_set, qS_setJ, qS_if, qS_brk, qS_ret, qS_retV, qS_throw, qS_inc, qS_cl, qS_ast, qS_aop, qS_fst, qS_fop, qS_sw, qT_eC, qT_eCB, qT_eL, qT_eLJ, qT_eLR, qT_eLB, qT_e1, qT_e2, qT_bCmp, qT_bCmpJ, qT_bAnd, qT_bOr, qT_bNot, qT_eBI, qT_eIf, qT_eLd, qT_eLdR, qT_eLen, qT_eF, qT_eFR, qT_aN, qT_aS, qT_eCl, qT_eClR, qT_eClB, qT_some, qT_x, z_nx_N, z_nx_B, z_nx_R, z_nx_X, z_bk_N, z_bk_B, z_bk_R, z_bk_X, oAdd, oSub, oMul, oNeg, cLt, cLe, cGt, cGe, cEq, cNe, Option.some.injEq, Sum.inl.injEq, Sum.inr.injEq, Prod.mk.injEq, exists_eq_left, exists_eq_left', exists_eq_right, exists_and_left, reduceCtorEq, and_true, true_and, and_false, false_and, List.getElem?_cons_zero, List.getElem?_cons_succ, List.set_cons_zero, List.set_cons_succ, List.replicate, List.length_cons, List.length_nil, List.cons_append, List.nil_append, Nat.reduceAdd, Nat.reduceSub, decide_eq_true_eq, decide_eq_false_iff_not, Bool.true_eq_false, Bool.false_eq_true, true_implies, false_implies, implies_true, Nat.reduceLT, exists_const, z_vB_inj, and_assoc, z_in_iff, oI2L, oL2I, Int.toNat_natCast, z_toNat0, Bool.not_eq_true', Bool.not_eq_false', ne_eq, Bool.not_true, Bool.not_false, Nat.add_zero, Int.add_zero, z_sl_s]
    simp only [c1, c3, c4, qS_nop, qS_seq, qS_set, qS_setJ, qS_if, qS_brk, qS_ret, qS_retV, qS_throw, qS_inc, qS_cl, qS_ast, qS_aop, qS_fst, qS_fop, qS_sw, qT_eC, qT_eCB, qT_eL, qT_eLJ, qT_eLR, qT_eLB, qT_e1, qT_e2, qT_bCmp, qT_bCmpJ, qT_bAnd, qT_bOr, qT_bNot, qT_eBI, qT_eIf, qT_eLd, qT_eLdR, qT_eLen, qT_eF, qT_eFR, qT_aN, qT_aS, qT_eCl, qT_eClR, qT_eClB, qT_some, qT_x, z_nx_N, z_nx_B, z_nx_R, z_nx_X, z_bk_N, z_bk_B, z_bk_R, z_bk_X, oAdd, oSub, oMul, oNeg, cLt, cLe, cGt, cGe, cEq, cNe, Option.some.injEq, Sum.inl.injEq, Sum.inr.injEq, Prod.mk.injEq, exists_eq_left, exists_eq_left', exists_eq_right, exists_and_left, reduceCtorEq, and_true, true_and, and_false, false_and, List.getElem?_cons_zero, List.getElem?_cons_succ, List.set_cons_zero, List.set_cons_succ, List.replicate, List.length_cons, List.length_nil, List.cons_append, List.nil_append, Nat.reduceAdd, Nat.reduceSub, decide_eq_true_eq, decide_eq_false_iff_not, Bool.true_eq_false, Bool.false_eq_true, true_implies, false_implies, implies_true, Nat.reduceLT, exists_const, z_vB_inj, and_assoc, z_in_iff, oI2L, oL2I, Int.toNat_natCast, z_toNat0, Bool.not_eq_true', Bool.not_eq_false', ne_eq, Bool.not_true, Bool.not_false, Nat.add_zero, Int.add_zero, z_sl_s]
    refine ⟨by omega, by omega, by omega, by omega, by omega, by omega, by omega, by omega, by omega, fun q => ?_, fun q => ?_⟩
    · refine ⟨by omega, by omega, c2, by omega, by omega, ?_⟩
      rw [nCe, if_pos (hq.mpr q)]
      rfl
    · rw [nCe, if_neg (fun w => q (hq.mp w))]
      rfl
  · intro _
    have b2 := nCe_b hB hv (s := s) 5 (by omega)
    generalize nCe B v s 5 = X at b2 ⊢
    simp only [qS_nop, qS_seq, qS_set, qS_setJ, qS_if, qS_brk, qS_ret, qS_retV, qS_throw, qS_inc, qS_cl, qS_ast, qS_aop, qS_fst, qS_fop, qS_sw, qT_eC, qT_eCB, qT_eL, qT_eLJ, qT_eLR, qT_eLB, qT_e1, qT_e2, qT_bCmp, qT_bCmpJ, qT_bAnd, qT_bOr, qT_bNot, qT_eBI, qT_eIf, qT_eLd, qT_eLdR, qT_eLen, qT_eF, qT_eFR, qT_aN, qT_aS, qT_eCl, qT_eClR, qT_eClB, qT_some, qT_x, z_nx_N, z_nx_B, z_nx_R, z_nx_X, z_bk_N, z_bk_B, z_bk_R, z_bk_X, oAdd, oSub, oMul, oNeg, cLt, cLe, cGt, cGe, cEq, cNe, Option.some.injEq, Sum.inl.injEq, Sum.inr.injEq, Prod.mk.injEq, exists_eq_left, exists_eq_left', exists_eq_right, exists_and_left, reduceCtorEq, and_true, true_and, and_false, false_and, List.getElem?_cons_zero, List.getElem?_cons_succ, List.set_cons_zero, List.set_cons_succ, List.replicate, List.length_cons, List.length_nil, List.cons_append, List.nil_append, Nat.reduceAdd, Nat.reduceSub, decide_eq_true_eq, decide_eq_false_iff_not, Bool.true_eq_false, Bool.false_eq_true, true_implies, false_implies, implies_true, Nat.reduceLT, exists_const, z_vB_inj, and_assoc, z_in_iff, oI2L, oL2I, Int.toNat_natCast, z_toNat0, Bool.not_eq_true', Bool.not_eq_false', ne_eq, Bool.not_true, Bool.not_false, Nat.add_zero, Int.add_zero, z_sl_s]
    omega
abbrev nAll (B : Nat → Nat → Int) (v : Nat) : Int := nCe B v 31 5
def nHv (B : Nat → Nat → Int) (v : Nat) : Prop := v = 0 ∨ 0 < nAll B v
theorem s_hv (a : nAt h B C N P D) (hB : nBd B) {v : Nat} (hv : v < 5) : m_X3_hasVertex [vR 8, vI (v : Int)] h = some (.inl (some (vB (z_dec (nHv B v)))), h) := by
  unfold m_X3_hasVertex
  rw [q_vm a.1]
  apply q_body
  have b := nCe_b hB hv (s := 31) 5 (by omega)
  have e := s_ce a hB (s := 31) ⟨by decide, by decide⟩ hv
  have d := z_dec_eq (b := decide (0 < nCe B v 31 5)) (P := 0 < nCe B v 31 5) decide_eq_true_iff
  have w : nHv B v ↔ v = 0 ∨ 0 < nCe B v 31 5 := Iff.rfl
  generalize nCe B v 31 5 = X at b e d w
  simp only [b_X3_hasVertex, s_all a, e, qS_nop, qS_seq, qS_set, qS_setJ, qS_if, qS_brk, qS_ret, qS_retV, qS_throw, qS_inc, qS_cl, qS_ast, qS_aop, qS_fst, qS_fop, qS_sw, qT_eC, qT_eCB, qT_eL, qT_eLJ, qT_eLR, qT_eLB, qT_e1, qT_e2, qT_bCmp, qT_bCmpJ, qT_bAnd, qT_bOr, qT_bNot, qT_eBI, qT_eIf, qT_eLd, qT_eLdR, qT_eLen, qT_eF, qT_eFR, qT_aN, qT_aS, qT_eCl, qT_eClR, qT_eClB, qT_some, qT_x, z_nx_N, z_nx_B, z_nx_R, z_nx_X, z_bk_N, z_bk_B, z_bk_R, z_bk_X, oAdd, oSub, oMul, oNeg, cLt, cLe, cGt, cGe, cEq, cNe, Option.some.injEq, Sum.inl.injEq, Sum.inr.injEq, Prod.mk.injEq, exists_eq_left, exists_eq_left', exists_eq_right, exists_and_left, reduceCtorEq, and_true, true_and, and_false, false_and, List.getElem?_cons_zero, List.getElem?_cons_succ, List.set_cons_zero, List.set_cons_succ, List.replicate, List.length_cons, List.length_nil, List.cons_append, List.nil_append, Nat.reduceAdd, Nat.reduceSub, decide_eq_true_eq, decide_eq_false_iff_not, Bool.true_eq_false, Bool.false_eq_true, true_implies, false_implies, implies_true, Nat.reduceLT, exists_const, z_vB_inj, and_assoc, z_in_iff, oI2L, oL2I, Int.toNat_natCast, z_toNat0, Bool.not_eq_true', Bool.not_eq_false', ne_eq, Bool.not_true, Bool.not_false, Nat.add_zero, Int.add_zero, z_sl_s]
  refine ⟨by omega, by omega, by omega, by omega, fun q => ?_, fun q => ⟨by omega, by omega, by omega, by omega, ?_⟩⟩
  · exact ((z_dec_iff _).mpr (w.mpr (Or.inl (by omega)))).symm
  · refine z_dec_eq (decide_eq_true_iff.trans ⟨fun p => w.mpr (Or.inr p), fun p => ?_⟩)
    rcases w.mp p with p | p
    · exact absurd (by omega) q
    · exact p
theorem s_cv (a : nAt h B C N P D) (hB : nBd B) : m_X3_countVertices [vR 8] h = some (.inl (some (vI (z_cnt (fun v => z_dec (nHv B v)) 5))), h) := by
  unfold m_X3_countVertices
  rw [q_vm a.1]
  apply q_body
  simp only [b_X3_countVertices, qS_nop, qS_seq, qS_set, qS_setJ, qS_if, qS_brk, qS_ret, qS_retV, qS_throw, qS_inc, qS_cl, qS_ast, qS_aop, qS_fst, qS_fop, qS_sw, qT_eC, qT_eCB, qT_eL, qT_eLJ, qT_eLR, qT_eLB, qT_e1, qT_e2, qT_bCmp, qT_bCmpJ, qT_bAnd, qT_bOr, qT_bNot, qT_eBI, qT_eIf, qT_eLd, qT_eLdR, qT_eLen, qT_eF, qT_eFR, qT_aN, qT_aS, qT_eCl, qT_eClR, qT_eClB, qT_some, qT_x, z_nx_N, z_nx_B, z_nx_R, z_nx_X, z_bk_N, z_bk_B, z_bk_R, z_bk_X, oAdd, oSub, oMul, oNeg, cLt, cLe, cGt, cGe, cEq, cNe, Option.some.injEq, Sum.inl.injEq, Sum.inr.injEq, Prod.mk.injEq, exists_eq_left, exists_eq_left', exists_eq_right, exists_and_left, reduceCtorEq, and_true, true_and, and_false, false_and, List.getElem?_cons_zero, List.getElem?_cons_succ, List.set_cons_zero, List.set_cons_succ, List.replicate, List.length_cons, List.length_nil, List.cons_append, List.nil_append, Nat.reduceAdd, Nat.reduceSub, decide_eq_true_eq, decide_eq_false_iff_not, Bool.true_eq_false, Bool.false_eq_true, true_implies, false_implies, implies_true, Nat.reduceLT, exists_const, z_vB_inj, and_assoc, z_in_iff, oI2L, oL2I, Int.toNat_natCast, z_toNat0, Bool.not_eq_true', Bool.not_eq_false', ne_eq, Bool.not_true, Bool.not_false, Nat.add_zero, Int.add_zero, z_sl_s]
  refine qS_for (fun k => [vR 8, vI (z_cnt (fun v => z_dec (nHv B v)) k), vI (k : Int)]) (fun _ => h) (fun _ => True) 5 rfl rfl trivial (by omega) ?_ ?_
  · intro k hk _
    have b := z_cnt_b (fun v => z_dec (nHv B v)) k
    have e := s_hv a hB hk
    simp only [e, qS_nop, qS_seq, qS_set, qS_setJ, qS_if, qS_brk, qS_ret, qS_retV, qS_throw, qS_inc, qS_cl, qS_ast, qS_aop, qS_fst, qS_fop, qS_sw, qT_eC, qT_eCB, qT_eL, qT_eLJ, qT_eLR, qT_eLB, qT_e1, qT_e2, qT_bCmp, qT_bCmpJ, qT_bAnd, qT_bOr, qT_bNot, qT_eBI, qT_eIf, qT_eLd, qT_eLdR, qT_eLen, qT_eF, qT_eFR, qT_aN, qT_aS, qT_eCl, qT_eClR, qT_eClB, qT_some, qT_x, z_nx_N, z_nx_B, z_nx_R, z_nx_X, z_bk_N, z_bk_B, z_bk_R, z_bk_X, oAdd, oSub, oMul, oNeg, cLt, cLe, cGt, cGe, cEq, cNe, Option.some.injEq, Sum.inl.injEq, Sum.inr.injEq, Prod.mk.injEq, exists_eq_left, exists_eq_left', exists_eq_right, exists_and_left, reduceCtorEq, and_true, true_and, and_false, false_and, List.getElem?_cons_zero, List.getElem?_cons_succ, List.set_cons_zero, List.set_cons_succ, List.replicate, List.length_cons, List.length_nil, List.cons_append, List.nil_append, Nat.reduceAdd, Nat.reduceSub, decide_eq_true_eq, decide_eq_false_iff_not, Bool.true_eq_false, Bool.false_eq_true, true_implies, false_implies, implies_true, Nat.reduceLT, exists_const, z_vB_inj, and_assoc, z_in_iff, oI2L, oL2I, Int.toNat_natCast, z_toNat0, Bool.not_eq_true', Bool.not_eq_false', ne_eq, Bool.not_true, Bool.not_false, Nat.add_zero, Int.add_zero, z_sl_s]
    refine ⟨by omega, by omega, by omega, by omega, by omega, fun q => ?_, fun q => ?_⟩
    · simp [z_cnt, q]
    · simp [z_cnt, q]
  · intro _
    have b := z_cnt_b (fun v => z_dec (nHv B v)) 5
    generalize z_cnt (fun v => z_dec (nHv B v)) 5 = X at b ⊢
    simp only [qS_nop, qS_seq, qS_set, qS_setJ, qS_if, qS_brk, qS_ret, qS_retV, qS_throw, qS_inc, qS_cl, qS_ast, qS_aop, qS_fst, qS_fop, qS_sw, qT_eC, qT_eCB, qT_eL, qT_eLJ, qT_eLR, qT_eLB, qT_e1, qT_e2, qT_bCmp, qT_bCmpJ, qT_bAnd, qT_bOr, qT_bNot, qT_eBI, qT_eIf, qT_eLd, qT_eLdR, qT_eLen, qT_eF, qT_eFR, qT_aN, qT_aS, qT_eCl, qT_eClR, qT_eClB, qT_some, qT_x, z_nx_N, z_nx_B, z_nx_R, z_nx_X, z_bk_N, z_bk_B, z_bk_R, z_bk_X, oAdd, oSub, oMul, oNeg, cLt, cLe, cGt, cGe, cEq, cNe, Option.some.injEq, Sum.inl.injEq, Sum.inr.injEq, Prod.mk.injEq, exists_eq_left, exists_eq_left', exists_eq_right, exists_and_left, reduceCtorEq, and_true, true_and, and_false, false_and, List.getElem?_cons_zero, List.getElem?_cons_succ, List.set_cons_zero, List.set_cons_succ, List.replicate, List.length_cons, List.length_nil, List.cons_append, List.nil_append, Nat.reduceAdd, Nat.reduceSub, decide_eq_true_eq, decide_eq_false_iff_not, Bool.true_eq_false, Bool.false_eq_true, true_implies, false_implies, implies_true, Nat.reduceLT, exists_const, z_vB_inj, and_assoc, z_in_iff, oI2L, oL2I, Int.toNat_natCast, z_toNat0, Bool.not_eq_true', Bool.not_eq_false', ne_eq, Bool.not_true, Bool.not_false, Nat.add_zero, Int.add_zero, z_sl_s]
    omega
def nSm (B : Nat → Nat → Int) : Nat → Int
  | 0 => 0
  | v + 1 => nSm B v + nAll B v
theorem nSm_b (hB : nBd B) : ∀ v, v ≤ 5 → 0 ≤ nSm B v ∧ nSm B v ≤ 5000 * (v : Int)
  | 0, _ => by simp [nSm]
  | v + 1, hv => by
    have := nSm_b hB v (by omega)
    have b := nCe_b hB (show v < 5 by omega) (s := 31) 5 (by omega)
    unfold nSm nAll
    omega
def nEd (B : Nat → Nat → Int) : Int := (nSm B 5).tdiv 2
theorem s_ne (a : nAt h B C N P D) (hB : nBd B) : m_X3_countEdges [vR 8] h = some (.inl (some (vI (nEd B))), h) := by
  unfold m_X3_countEdges
  rw [q_vm a.1]
  apply q_body
  simp only [b_X3_countEdges, qS_nop, qS_seq, qS_set, qS_setJ, qS_if, qS_brk, qS_ret, qS_retV, qS_throw, qS_inc, qS_cl, qS_ast, qS_aop, qS_fst, qS_fop, qS_sw, qT_eC, qT_eCB, qT_eL, qT_eLJ, qT_eLR, qT_eLB, qT_e1, qT_e2, qT_bCmp, qT_bCmpJ, qT_bAnd, qT_bOr, qT_bNot, qT_eBI, qT_eIf, qT_eLd, qT_eLdR, qT_eLen, qT_eF, qT_eFR, qT_aN, qT_aS, qT_eCl, qT_eClR, qT_eClB, qT_some, qT_x, z_nx_N, z_nx_B, z_nx_R, z_nx_X, z_bk_N, z_bk_B, z_bk_R, z_bk_X, oAdd, oSub, oMul, oNeg, cLt, cLe, cGt, cGe, cEq, cNe, Option.some.injEq, Sum.inl.injEq, Sum.inr.injEq, Prod.mk.injEq, exists_eq_left, exists_eq_left', exists_eq_right, exists_and_left, reduceCtorEq, and_true, true_and, and_false, false_and, List.getElem?_cons_zero, List.getElem?_cons_succ, List.set_cons_zero, List.set_cons_succ, List.replicate, List.length_cons, List.length_nil, List.cons_append, List.nil_append, Nat.reduceAdd, Nat.reduceSub, decide_eq_true_eq, decide_eq_false_iff_not, Bool.true_eq_false, Bool.false_eq_true, true_implies, false_implies, implies_true, Nat.reduceLT, exists_const, z_vB_inj, and_assoc, z_in_iff, oI2L, oL2I, Int.toNat_natCast, z_toNat0, Bool.not_eq_true', Bool.not_eq_false', ne_eq, Bool.not_true, Bool.not_false, Nat.add_zero, Int.add_zero, z_sl_s]
  refine qS_for (fun k => [vR 8, vI (nSm B k), vI (k : Int)]) (fun _ => h) (fun _ => True) 5 rfl rfl trivial (by omega) ?_ ?_
  · intro k hk _
    have b := nSm_b hB k (by omega)
    have e := s_ce a hB (s := 31) ⟨by decide, by decide⟩ hk
    have b2 := nCe_b hB hk (s := 31) 5 (by omega)
    have w : nSm B (k + 1) = nSm B k + nCe B k 31 5 := rfl
    generalize nCe B k 31 5 = X at b2 e w
    simp only [s_all a, e, qS_nop, qS_seq, qS_set, qS_setJ, qS_if, qS_brk, qS_ret, qS_retV, qS_throw, qS_inc, qS_cl, qS_ast, qS_aop, qS_fst, qS_fop, qS_sw, qT_eC, qT_eCB, qT_eL, qT_eLJ, qT_eLR, qT_eLB, qT_e1, qT_e2, qT_bCmp, qT_bCmpJ, qT_bAnd, qT_bOr, qT_bNot, qT_eBI, qT_eIf, qT_eLd, qT_eLdR, qT_eLen, qT_eF, qT_eFR, qT_aN, qT_aS, qT_eCl, qT_eClR, qT_eClB, qT_some, qT_x, z_nx_N, z_nx_B, z_nx_R, z_nx_X, z_bk_N, z_bk_B, z_bk_R, z_bk_X, oAdd, oSub, oMul, oNeg, cLt, cLe, cGt, cGe, cEq, cNe, Option.some.injEq, Sum.inl.injEq, Sum.inr.injEq, Prod.mk.injEq, exists_eq_left, exists_eq_left', exists_eq_right, exists_and_left, reduceCtorEq, and_true, true_and, and_false, false_and, List.getElem?_cons_zero, List.getElem?_cons_succ, List.set_cons_zero, List.set_cons_succ, List.replicate, List.length_cons, List.length_nil, List.cons_append, List.nil_append, Nat.reduceAdd, Nat.reduceSub, decide_eq_true_eq, decide_eq_false_iff_not, Bool.true_eq_false, Bool.false_eq_true, true_implies, false_implies, implies_true, Nat.reduceLT, exists_const, z_vB_inj, and_assoc, z_in_iff, oI2L, oL2I, Int.toNat_natCast, z_toNat0, Bool.not_eq_true', Bool.not_eq_false', ne_eq, Bool.not_true, Bool.not_false, Nat.add_zero, Int.add_zero, z_sl_s]
    refine ⟨by omega, by omega, by omega, by omega, by omega, ?_⟩
    rw [w]
    rfl
  · intro _
    have b := nSm_b hB 5 (by omega)
    have w : nEd B = (nSm B 5).tdiv 2 := rfl
    have e : oDiv (nSm B 5) 2 = some (nEd B) := by
      rw [w]
      generalize nSm B 5 = X at b
      unfold oDiv
      rw [if_pos]
      simp only [Bool.and_eq_true, z_in_iff, decide_eq_true_eq]
      omega
    generalize nSm B 5 = X at b e
    simp only [e, qS_nop, qS_seq, qS_set, qS_setJ, qS_if, qS_brk, qS_ret, qS_retV, qS_throw, qS_inc, qS_cl, qS_ast, qS_aop, qS_fst, qS_fop, qS_sw, qT_eC, qT_eCB, qT_eL, qT_eLJ, qT_eLR, qT_eLB, qT_e1, qT_e2, qT_bCmp, qT_bCmpJ, qT_bAnd, qT_bOr, qT_bNot, qT_eBI, qT_eIf, qT_eLd, qT_eLdR, qT_eLen, qT_eF, qT_eFR, qT_aN, qT_aS, qT_eCl, qT_eClR, qT_eClB, qT_some, qT_x, z_nx_N, z_nx_B, z_nx_R, z_nx_X, z_bk_N, z_bk_B, z_bk_R, z_bk_X, oAdd, oSub, oMul, oNeg, cLt, cLe, cGt, cGe, cEq, cNe, Option.some.injEq, Sum.inl.injEq, Sum.inr.injEq, Prod.mk.injEq, exists_eq_left, exists_eq_left', exists_eq_right, exists_and_left, reduceCtorEq, and_true, true_and, and_false, false_and, List.getElem?_cons_zero, List.getElem?_cons_succ, List.set_cons_zero, List.set_cons_succ, List.replicate, List.length_cons, List.length_nil, List.cons_append, List.nil_append, Nat.reduceAdd, Nat.reduceSub, decide_eq_true_eq, decide_eq_false_iff_not, Bool.true_eq_false, Bool.false_eq_true, true_implies, false_implies, implies_true, Nat.reduceLT, exists_const, z_vB_inj, and_assoc, z_in_iff, oI2L, oL2I, Int.toNat_natCast, z_toNat0, Bool.not_eq_true', Bool.not_eq_false', ne_eq, Bool.not_true, Bool.not_false, Nat.add_zero, Int.add_zero, z_sl_s]
    omega
theorem nEd_b (hB : nBd B) : 0 ≤ nEd B ∧ nEd B ≤ 25000 := by
  have b := nSm_b hB 5 (by omega)
  unfold nEd
  have := z_tdiv_b (A := nSm B 5) (m := 2) (b := 25000) ⟨by omega, by omega⟩ (by decide)
  have := Int.tdiv_nonneg (a := nSm B 5) (b := 2) b.1 (by decide)
  omega
noncomputable def nGn (B : Nat → Nat → Int) : Int := nEd B - z_cnt (fun v => z_dec (nHv B v)) 5 + 1
theorem s_gn (a : nAt h B C N P D) (hB : nBd B) : m_X3_genus [vR 8] h = some (.inl (some (vI (nGn B))), h) := by
  unfold m_X3_genus
  rw [q_vm a.1]
  apply q_body
  have e1 := s_ne a hB
  have e2 := s_cv a hB
  have b1 := nEd_b hB
  have b2 := z_cnt_b (fun v => z_dec (nHv B v)) 5
  have w : nGn B = nEd B - z_cnt (fun v => z_dec (nHv B v)) 5 + 1 := rfl
  generalize z_cnt (fun v => z_dec (nHv B v)) 5 = X at e2 b2 w
  generalize nEd B = Y at e1 b1 w
  simp only [b_X3_genus, e1, e2, qS_nop, qS_seq, qS_set, qS_setJ, qS_if, qS_brk, qS_ret, qS_retV, qS_throw, qS_inc, qS_cl, qS_ast, qS_aop, qS_fst, qS_fop, qS_sw, qT_eC, qT_eCB, qT_eL, qT_eLJ, qT_eLR, qT_eLB, qT_e1, qT_e2, qT_bCmp, qT_bCmpJ, qT_bAnd, qT_bOr, qT_bNot, qT_eBI, qT_eIf, qT_eLd, qT_eLdR, qT_eLen, qT_eF, qT_eFR, qT_aN, qT_aS, qT_eCl, qT_eClR, qT_eClB, qT_some, qT_x, z_nx_N, z_nx_B, z_nx_R, z_nx_X, z_bk_N, z_bk_B, z_bk_R, z_bk_X, oAdd, oSub, oMul, oNeg, cLt, cLe, cGt, cGe, cEq, cNe, Option.some.injEq, Sum.inl.injEq, Sum.inr.injEq, Prod.mk.injEq, exists_eq_left, exists_eq_left', exists_eq_right, exists_and_left, reduceCtorEq, and_true, true_and, and_false, false_and, List.getElem?_cons_zero, List.getElem?_cons_succ, List.set_cons_zero, List.set_cons_succ, List.replicate, List.length_cons, List.length_nil, List.cons_append, List.nil_append, Nat.reduceAdd, Nat.reduceSub, decide_eq_true_eq, decide_eq_false_iff_not, Bool.true_eq_false, Bool.false_eq_true, true_implies, false_implies, implies_true, Nat.reduceLT, exists_const, z_vB_inj, and_assoc, z_in_iff, oI2L, oL2I, Int.toNat_natCast, z_toNat0, Bool.not_eq_true', Bool.not_eq_false', ne_eq, Bool.not_true, Bool.not_false, Nat.add_zero, Int.add_zero, z_sl_s]
  omega
noncomputable def nDg (B : Nat → Nat → Int) (V : Nat → Int) : Nat → Int
  | 0 => 0
  | v + 1 => if z_dec (nHv B v) = true then nDg B V v + V v else nDg B V v
def nVb (V : Nat → Int) (b : Int) : Prop := ∀ v, v < 5 → -b ≤ V v ∧ V v ≤ b
theorem nDg_b {V : Nat → Int} {b : Int} (hb : 0 ≤ b) (hV : nVb V b) : ∀ v : Nat, v ≤ 5 → -(b * (v : Int)) ≤ nDg B V v ∧ nDg B V v ≤ b * (v : Int)
  | 0, _ => by simp [nDg]
  | v + 1, hv => by
    have := nDg_b hb hV v (by omega)
    have b := hV v (by omega)
    rw [Int.natCast_add, Int.mul_add, Int.natCast_one, Int.mul_one]
    unfold nDg
    split <;> omega
theorem s_dg (a : nAt h B C N P D) (hB : nBd B) {p : Nat} {V : Nat → Int} (hp : h[p]? = some (.inr (0, 5, V))) (hV : nVb V 100000000) : m_X3_degree [vR 8, vR p] h = some (.inl (some (vI (nDg B V 5))), h) := by
  unfold m_X3_degree
  rw [q_vm a.1]
  apply q_body
  simp only [b_X3_degree, qS_nop, qS_seq, qS_set, qS_setJ, qS_if, qS_brk, qS_ret, qS_retV, qS_throw, qS_inc, qS_cl, qS_ast, qS_aop, qS_fst, qS_fop, qS_sw, qT_eC, qT_eCB, qT_eL, qT_eLJ, qT_eLR, qT_eLB, qT_e1, qT_e2, qT_bCmp, qT_bCmpJ, qT_bAnd, qT_bOr, qT_bNot, qT_eBI, qT_eIf, qT_eLd, qT_eLdR, qT_eLen, qT_eF, qT_eFR, qT_aN, qT_aS, qT_eCl, qT_eClR, qT_eClB, qT_some, qT_x, z_nx_N, z_nx_B, z_nx_R, z_nx_X, z_bk_N, z_bk_B, z_bk_R, z_bk_X, oAdd, oSub, oMul, oNeg, cLt, cLe, cGt, cGe, cEq, cNe, Option.some.injEq, Sum.inl.injEq, Sum.inr.injEq, Prod.mk.injEq, exists_eq_left, exists_eq_left', exists_eq_right, exists_and_left, reduceCtorEq, and_true, true_and, and_false, false_and, List.getElem?_cons_zero, List.getElem?_cons_succ, List.set_cons_zero, List.set_cons_succ, List.replicate, List.length_cons, List.length_nil, List.cons_append, List.nil_append, Nat.reduceAdd, Nat.reduceSub, decide_eq_true_eq, decide_eq_false_iff_not, Bool.true_eq_false, Bool.false_eq_true, true_implies, false_implies, implies_true, Nat.reduceLT, exists_const, z_vB_inj, and_assoc, z_in_iff, oI2L, oL2I, Int.toNat_natCast, z_toNat0, Bool.not_eq_true', Bool.not_eq_false', ne_eq, Bool.not_true, Bool.not_false, Nat.add_zero, Int.add_zero, z_sl_s]
  refine qS_for (fun k => [vR 8, vR p, vI (nDg B V k), vI (k : Int)]) (fun _ => h) (fun _ => True) 5 rfl rfl trivial (by omega) ?_ ?_
  · intro k hk _
    have b := nDg_b (B := B) (by decide) hV k (by omega)
    have b2 := hV k hk
    have e := s_hv a hB hk
    simp only [e, q_arr hp (by decide), qS_nop, qS_seq, qS_set, qS_setJ, qS_if, qS_brk, qS_ret, qS_retV, qS_throw, qS_inc, qS_cl, qS_ast, qS_aop, qS_fst, qS_fop, qS_sw, qT_eC, qT_eCB, qT_eL, qT_eLJ, qT_eLR, qT_eLB, qT_e1, qT_e2, qT_bCmp, qT_bCmpJ, qT_bAnd, qT_bOr, qT_bNot, qT_eBI, qT_eIf, qT_eLd, qT_eLdR, qT_eLen, qT_eF, qT_eFR, qT_aN, qT_aS, qT_eCl, qT_eClR, qT_eClB, qT_some, qT_x, z_nx_N, z_nx_B, z_nx_R, z_nx_X, z_bk_N, z_bk_B, z_bk_R, z_bk_X, oAdd, oSub, oMul, oNeg, cLt, cLe, cGt, cGe, cEq, cNe, Option.some.injEq, Sum.inl.injEq, Sum.inr.injEq, Prod.mk.injEq, exists_eq_left, exists_eq_left', exists_eq_right, exists_and_left, reduceCtorEq, and_true, true_and, and_false, false_and, List.getElem?_cons_zero, List.getElem?_cons_succ, List.set_cons_zero, List.set_cons_succ, List.replicate, List.length_cons, List.length_nil, List.cons_append, List.nil_append, Nat.reduceAdd, Nat.reduceSub, decide_eq_true_eq, decide_eq_false_iff_not, Bool.true_eq_false, Bool.false_eq_true, true_implies, false_implies, implies_true, Nat.reduceLT, exists_const, z_vB_inj, and_assoc, z_in_iff, oI2L, oL2I, Int.toNat_natCast, z_toNat0, Bool.not_eq_true', Bool.not_eq_false', ne_eq, Bool.not_true, Bool.not_false, Nat.add_zero, Int.add_zero, z_sl_s]
    refine ⟨by omega, by omega, by omega, by omega, by omega, fun q => ?_, fun q => ?_⟩
    · refine ⟨by omega, by omega, ?_⟩
      simp [nDg, q]
    · simp [nDg, q]
  · intro _
    have b := nDg_b (B := B) (by decide) hV 5 (by omega)
    generalize nDg B V 5 = X at b ⊢
    simp only [qS_nop, qS_seq, qS_set, qS_setJ, qS_if, qS_brk, qS_ret, qS_retV, qS_throw, qS_inc, qS_cl, qS_ast, qS_aop, qS_fst, qS_fop, qS_sw, qT_eC, qT_eCB, qT_eL, qT_eLJ, qT_eLR, qT_eLB, qT_e1, qT_e2, qT_bCmp, qT_bCmpJ, qT_bAnd, qT_bOr, qT_bNot, qT_eBI, qT_eIf, qT_eLd, qT_eLdR, qT_eLen, qT_eF, qT_eFR, qT_aN, qT_aS, qT_eCl, qT_eClR, qT_eClB, qT_some, qT_x, z_nx_N, z_nx_B, z_nx_R, z_nx_X, z_bk_N, z_bk_B, z_bk_R, z_bk_X, oAdd, oSub, oMul, oNeg, cLt, cLe, cGt, cGe, cEq, cNe, Option.some.injEq, Sum.inl.injEq, Sum.inr.injEq, Prod.mk.injEq, exists_eq_left, exists_eq_left', exists_eq_right, exists_and_left, reduceCtorEq, and_true, true_and, and_false, false_and, List.getElem?_cons_zero, List.getElem?_cons_succ, List.set_cons_zero, List.set_cons_succ, List.replicate, List.length_cons, List.length_nil, List.cons_append, List.nil_append, Nat.reduceAdd, Nat.reduceSub, decide_eq_true_eq, decide_eq_false_iff_not, Bool.true_eq_false, Bool.false_eq_true, true_implies, false_implies, implies_true, Nat.reduceLT, exists_const, z_vB_inj, and_assoc, z_in_iff, oI2L, oL2I, Int.toNat_natCast, z_toNat0, Bool.not_eq_true', Bool.not_eq_false', ne_eq, Bool.not_true, Bool.not_false, Nat.add_zero, Int.add_zero, z_sl_s]
    omega
theorem nAt.setP (a : nAt h B C N P D) {i : Nat} (hi : i < 5) (g : Nat → Int) : nAt (h.set (18 + i) (.inr (0, 5, g))) B C N (fun x => if x = i then g else P x) D := by
  obtain ⟨a1, a2, a3, a4, a5, a6⟩ := a
  exact ⟨(z_set_ne (by omega)).trans a1, a2.kept (z_set_ne (by omega)) (fun j hj => z_set_ne (by omega)), (z_set_ne (by omega)).trans a3, (z_set_ne (by omega)).trans a4, a5.set (by omega) hi g, a6.kept (z_set_ne (by omega)) (fun j hj => z_set_ne (by omega))⟩
theorem nAt.pile (a : nAt h B C N P D) {i : Nat} (hi : i < 5) : h[18 + i]? = some (.inr (0, 5, P i)) := a.2.2.2.2.1.2 i hi
theorem s_startPile (a : nAt h B C N P D) : m_X3_startPile [vR 8] h = some (.inl (some (vR 18)), h) := by
  unfold m_X3_startPile
  rw [q_vm a.1]
  apply q_body
  obtain ⟨fo, c1, cc⟩ := a.2.2.2.2.1.row (by omega)
  obtain ⟨c3, c4, c5⟩ := cc 0 (by omega)
  simp only [b_X3_startPile, q_obj a.1, c1, c4, qS_nop, qS_seq, qS_set, qS_setJ, qS_if, qS_brk, qS_ret, qS_retV, qS_throw, qS_inc, qS_cl, qS_ast, qS_aop, qS_fst, qS_fop, qS_sw, qT_eC, qT_eCB, qT_eL, qT_eLJ, qT_eLR, qT_eLB, qT_e1, qT_e2, qT_bCmp, qT_bCmpJ, qT_bAnd, qT_bOr, qT_bNot, qT_eBI, qT_eIf, qT_eLd, qT_eLdR, qT_eLen, qT_eF, qT_eFR, qT_aN, qT_aS, qT_eCl, qT_eClR, qT_eClB, qT_some, qT_x, z_nx_N, z_nx_B, z_nx_R, z_nx_X, z_bk_N, z_bk_B, z_bk_R, z_bk_X, oAdd, oSub, oMul, oNeg, cLt, cLe, cGt, cGe, cEq, cNe, Option.some.injEq, Sum.inl.injEq, Sum.inr.injEq, Prod.mk.injEq, exists_eq_left, exists_eq_left', exists_eq_right, exists_and_left, reduceCtorEq, and_true, true_and, and_false, false_and, List.getElem?_cons_zero, List.getElem?_cons_succ, List.set_cons_zero, List.set_cons_succ, List.replicate, List.length_cons, List.length_nil, List.cons_append, List.nil_append, Nat.reduceAdd, Nat.reduceSub, decide_eq_true_eq, decide_eq_false_iff_not, Bool.true_eq_false, Bool.false_eq_true, true_implies, false_implies, implies_true, Nat.reduceLT, exists_const, z_vB_inj, and_assoc, z_in_iff, oI2L, oL2I, Int.toNat_natCast, z_toNat0, Bool.not_eq_true', Bool.not_eq_false', ne_eq, Bool.not_true, Bool.not_false, Nat.add_zero, Int.add_zero, z_sl_s]
  exact ⟨by omega, by omega, c3⟩
theorem s_copyChips (a : nAt h B C N P D) : m_X3_copyChips [vR 8] h = some (.inl none, h.set 18 (.inr (0, 5, fun k => if k < 5 then C k else P 0 k))) := by
  unfold m_X3_copyChips
  rw [q_vm a.1]
  apply q_body
  obtain ⟨fo, c1, cc⟩ := a.2.2.2.2.1.row (by omega)
  obtain ⟨c3, c4, c5⟩ := cc 0 (by omega)
  have e1 := s_copy (sp := 0) (dp := 0) (n := 5) a.2.2.1 (a.pile (i := 0) (by omega)) (by decide) (by decide) (by decide) (by decide) (by decide) (by decide) (by decide)
  have e2 : z_cp C (P 0) (0 : Int).toNat (0 : Int).toNat (5 : Int).toNat = fun k => if k < 5 then C k else P 0 k := by
    funext k
    unfold z_cp
    simp
  rw [e2] at e1
  simp only [b_X3_copyChips, q_obj a.1, c1, c4, e1, qS_nop, qS_seq, qS_set, qS_setJ, qS_if, qS_brk, qS_ret, qS_retV, qS_throw, qS_inc, qS_cl, qS_ast, qS_aop, qS_fst, qS_fop, qS_sw, qT_eC, qT_eCB, qT_eL, qT_eLJ, qT_eLR, qT_eLB, qT_e1, qT_e2, qT_bCmp, qT_bCmpJ, qT_bAnd, qT_bOr, qT_bNot, qT_eBI, qT_eIf, qT_eLd, qT_eLdR, qT_eLen, qT_eF, qT_eFR, qT_aN, qT_aS, qT_eCl, qT_eClR, qT_eClB, qT_some, qT_x, z_nx_N, z_nx_B, z_nx_R, z_nx_X, z_bk_N, z_bk_B, z_bk_R, z_bk_X, oAdd, oSub, oMul, oNeg, cLt, cLe, cGt, cGe, cEq, cNe, Option.some.injEq, Sum.inl.injEq, Sum.inr.injEq, Prod.mk.injEq, exists_eq_left, exists_eq_left', exists_eq_right, exists_and_left, reduceCtorEq, and_true, true_and, and_false, false_and, List.getElem?_cons_zero, List.getElem?_cons_succ, List.set_cons_zero, List.set_cons_succ, List.replicate, List.length_cons, List.length_nil, List.cons_append, List.nil_append, Nat.reduceAdd, Nat.reduceSub, decide_eq_true_eq, decide_eq_false_iff_not, Bool.true_eq_false, Bool.false_eq_true, true_implies, false_implies, implies_true, Nat.reduceLT, exists_const, z_vB_inj, and_assoc, z_in_iff, oI2L, oL2I, Int.toNat_natCast, z_toNat0, Bool.not_eq_true', Bool.not_eq_false', ne_eq, Bool.not_true, Bool.not_false, Nat.add_zero, Int.add_zero, z_sl_s]
  exact ⟨by omega, by omega, c3⟩
theorem s_copyRest (a : nAt h B C N P D) (hB : nBd B) (hC : nVb C 1000000) : m_X3_copyRest [vR 8] h = some (.inl none, h.set 18 (.inr (0, 5, fun k => if k < 5 then nAll B k - 2 - C k else P 0 k))) := by
  unfold m_X3_copyRest
  rw [q_vm a.1]
  apply q_body
  have ap := a.pile (i := 0) (by omega)
  rw [Nat.add_zero] at ap
  simp only [b_X3_copyRest, qS_nop, qS_seq, qS_set, qS_setJ, qS_if, qS_brk, qS_ret, qS_retV, qS_throw, qS_inc, qS_cl, qS_ast, qS_aop, qS_fst, qS_fop, qS_sw, qT_eC, qT_eCB, qT_eL, qT_eLJ, qT_eLR, qT_eLB, qT_e1, qT_e2, qT_bCmp, qT_bCmpJ, qT_bAnd, qT_bOr, qT_bNot, qT_eBI, qT_eIf, qT_eLd, qT_eLdR, qT_eLen, qT_eF, qT_eFR, qT_aN, qT_aS, qT_eCl, qT_eClR, qT_eClB, qT_some, qT_x, z_nx_N, z_nx_B, z_nx_R, z_nx_X, z_bk_N, z_bk_B, z_bk_R, z_bk_X, oAdd, oSub, oMul, oNeg, cLt, cLe, cGt, cGe, cEq, cNe, Option.some.injEq, Sum.inl.injEq, Sum.inr.injEq, Prod.mk.injEq, exists_eq_left, exists_eq_left', exists_eq_right, exists_and_left, reduceCtorEq, and_true, true_and, and_false, false_and, List.getElem?_cons_zero, List.getElem?_cons_succ, List.set_cons_zero, List.set_cons_succ, List.replicate, List.length_cons, List.length_nil, List.cons_append, List.nil_append, Nat.reduceAdd, Nat.reduceSub, decide_eq_true_eq, decide_eq_false_iff_not, Bool.true_eq_false, Bool.false_eq_true, true_implies, false_implies, implies_true, Nat.reduceLT, exists_const, z_vB_inj, and_assoc, z_in_iff, oI2L, oL2I, Int.toNat_natCast, z_toNat0, Bool.not_eq_true', Bool.not_eq_false', ne_eq, Bool.not_true, Bool.not_false, Nat.add_zero, Int.add_zero, z_sl_s]
  refine qS_for (fun k => [vR 8, vI (k : Int)]) (fun m => h.set 18 (.inr (0, 5, fun k => if k < m then nAll B k - 2 - C k else P 0 k))) (fun _ => True) 5 rfl ?_ trivial (by omega) ?_ ?_
  · simp [z_set_id ap]
  · intro k hk _
    have a' := a.setP (i := 0) (by omega) (fun x => if x < k then nAll B x - 2 - C x else P 0 x)
    rw [Nat.add_zero] at a'
    have es : ∀ x : z_Cl, (h.set 18 (.inr (0, 5, fun x => if x < k then nAll B x - 2 - C x else P 0 x))).set 18 x = h.set 18 x := fun x => List.set_set _
    have d := q_arr (a'.pile (i := 0) (by omega)) (by decide)
    simp only [if_true] at d
    have w := a'.2.2.2.2.1.row (by omega)
    have w2 := Classical.choose_spec w
    have c1 := w2.1
    have c3 := (w2.2 0 (by omega)).1
    have c4 := (w2.2 0 (by omega)).2.1
    generalize Classical.choose w = fo at c1 c3 c4
    have e := s_ce a' hB (s := 31) ⟨by decide, by decide⟩ hk
    have e0 := s_all a'
    have o1 := q_obj a'.1
    have d2 := q_arr a'.2.2.1 (by decide)
    have b := nCe_b hB hk (s := 31) 5 (by omega)
    have b2 := hC k hk
    have u := z_upto (fun x => P 0 x) (fun x => nAll B x - 2 - C x) k
    generalize h.set 18 (.inr (0, 5, fun x => if x < k then nAll B x - 2 - C x else P 0 x)) = h1 at c1 d e e0 o1 es d2 ⊢
    simp only [o1, c1, c4, e0, e, d2, d, qS_nop, qS_seq, qS_set, qS_setJ, qS_if, qS_brk, qS_ret, qS_retV, qS_throw, qS_inc, qS_cl, qS_ast, qS_aop, qS_fst, qS_fop, qS_sw, qT_eC, qT_eCB, qT_eL, qT_eLJ, qT_eLR, qT_eLB, qT_e1, qT_e2, qT_bCmp, qT_bCmpJ, qT_bAnd, qT_bOr, qT_bNot, qT_eBI, qT_eIf, qT_eLd, qT_eLdR, qT_eLen, qT_eF, qT_eFR, qT_aN, qT_aS, qT_eCl, qT_eClR, qT_eClB, qT_some, qT_x, z_nx_N, z_nx_B, z_nx_R, z_nx_X, z_bk_N, z_bk_B, z_bk_R, z_bk_X, oAdd, oSub, oMul, oNeg, cLt, cLe, cGt, cGe, cEq, cNe, Option.some.injEq, Sum.inl.injEq, Sum.inr.injEq, Prod.mk.injEq, exists_eq_left, exists_eq_left', exists_eq_right, exists_and_left, reduceCtorEq, and_true, true_and, and_false, false_and, List.getElem?_cons_zero, List.getElem?_cons_succ, List.set_cons_zero, List.set_cons_succ, List.replicate, List.length_cons, List.length_nil, List.cons_append, List.nil_append, Nat.reduceAdd, Nat.reduceSub, decide_eq_true_eq, decide_eq_false_iff_not, Bool.true_eq_false, Bool.false_eq_true, true_implies, false_implies, implies_true, Nat.reduceLT, exists_const, z_vB_inj, and_assoc, z_in_iff, oI2L, oL2I, Int.toNat_natCast, z_toNat0, Bool.not_eq_true', Bool.not_eq_false', ne_eq, Bool.not_true, Bool.not_false, Nat.add_zero, Int.add_zero, z_sl_s]
    refine ⟨by omega, by omega, by omega, by omega, by omega, by omega, by omega, c3, by omega, by omega, by omega, by omega, rfl, ?_⟩
    rw [es, ← u]
  · intro _
    simp only [qS_nop, qS_seq, qS_set, qS_setJ, qS_if, qS_brk, qS_ret, qS_retV, qS_throw, qS_inc, qS_cl, qS_ast, qS_aop, qS_fst, qS_fop, qS_sw, qT_eC, qT_eCB, qT_eL, qT_eLJ, qT_eLR, qT_eLB, qT_e1, qT_e2, qT_bCmp, qT_bCmpJ, qT_bAnd, qT_bOr, qT_bNot, qT_eBI, qT_eIf, qT_eLd, qT_eLdR, qT_eLen, qT_eF, qT_eFR, qT_aN, qT_aS, qT_eCl, qT_eClR, qT_eClB, qT_some, qT_x, z_nx_N, z_nx_B, z_nx_R, z_nx_X, z_bk_N, z_bk_B, z_bk_R, z_bk_X, oAdd, oSub, oMul, oNeg, cLt, cLe, cGt, cGe, cEq, cNe, Option.some.injEq, Sum.inl.injEq, Sum.inr.injEq, Prod.mk.injEq, exists_eq_left, exists_eq_left', exists_eq_right, exists_and_left, reduceCtorEq, and_true, true_and, and_false, false_and, List.getElem?_cons_zero, List.getElem?_cons_succ, List.set_cons_zero, List.set_cons_succ, List.replicate, List.length_cons, List.length_nil, List.cons_append, List.nil_append, Nat.reduceAdd, Nat.reduceSub, decide_eq_true_eq, decide_eq_false_iff_not, Bool.true_eq_false, Bool.false_eq_true, true_implies, false_implies, implies_true, Nat.reduceLT, exists_const, z_vB_inj, and_assoc, z_in_iff, oI2L, oL2I, Int.toNat_natCast, z_toNat0, Bool.not_eq_true', Bool.not_eq_false', ne_eq, Bool.not_true, Bool.not_false, Nat.add_zero, Int.add_zero, z_sl_s]
    omega
theorem s_wl (a : nAt h B C N P D) {p : Nat} {V : Nat → Int} (hp : h[p]? = some (.inr (0, 5, V))) (hV : nVb V 2000000000) : m_X3_isWithinLimit [vR 8, vR p] h = some (.inl (some (vB (z_dec (∀ v, v < 5 → ¬ (V v ≠ INF ∧ (V v < -99 ∨ 99 < V v)))))), h) := by
  unfold m_X3_isWithinLimit
  rw [q_vm a.1]
  apply q_body
  simp only [b_X3_isWithinLimit, qS_nop, qS_seq, qS_set, qS_setJ, qS_if, qS_brk, qS_ret, qS_retV, qS_throw, qS_inc, qS_cl, qS_ast, qS_aop, qS_fst, qS_fop, qS_sw, qT_eC, qT_eCB, qT_eL, qT_eLJ, qT_eLR, qT_eLB, qT_e1, qT_e2, qT_bCmp, qT_bCmpJ, qT_bAnd, qT_bOr, qT_bNot, qT_eBI, qT_eIf, qT_eLd, qT_eLdR, qT_eLen, qT_eF, qT_eFR, qT_aN, qT_aS, qT_eCl, qT_eClR, qT_eClB, qT_some, qT_x, z_nx_N, z_nx_B, z_nx_R, z_nx_X, z_bk_N, z_bk_B, z_bk_R, z_bk_X, oAdd, oSub, oMul, oNeg, cLt, cLe, cGt, cGe, cEq, cNe, Option.some.injEq, Sum.inl.injEq, Sum.inr.injEq, Prod.mk.injEq, exists_eq_left, exists_eq_left', exists_eq_right, exists_and_left, reduceCtorEq, and_true, true_and, and_false, false_and, List.getElem?_cons_zero, List.getElem?_cons_succ, List.set_cons_zero, List.set_cons_succ, List.replicate, List.length_cons, List.length_nil, List.cons_append, List.nil_append, Nat.reduceAdd, Nat.reduceSub, decide_eq_true_eq, decide_eq_false_iff_not, Bool.true_eq_false, Bool.false_eq_true, true_implies, false_implies, implies_true, Nat.reduceLT, exists_const, z_vB_inj, and_assoc, z_in_iff, oI2L, oL2I, Int.toNat_natCast, z_toNat0, Bool.not_eq_true', Bool.not_eq_false', ne_eq, Bool.not_true, Bool.not_false, Nat.add_zero, Int.add_zero, z_sl_s]
  refine qS_for (fun k => [vR 8, vR p, vI (k : Int)]) (fun _ => h) (fun k => ∀ v, v < k → ¬ (V v ≠ INF ∧ (V v < -99 ∨ 99 < V v))) 5 rfl rfl (fun i hi => absurd hi (Nat.not_lt_zero i)) (by omega) ?_ ?_
  · intro k hk hP
    have b := hV k hk
    have e := s_isBeyond (x := V k) (y := 99) (h := h) ⟨by omega, by omega⟩ ⟨by decide, by decide⟩
    simp only [q_arr hp (by decide), e, qS_nop, qS_seq, qS_set, qS_setJ, qS_if, qS_brk, qS_ret, qS_retV, qS_throw, qS_inc, qS_cl, qS_ast, qS_aop, qS_fst, qS_fop, qS_sw, qT_eC, qT_eCB, qT_eL, qT_eLJ, qT_eLR, qT_eLB, qT_e1, qT_e2, qT_bCmp, qT_bCmpJ, qT_bAnd, qT_bOr, qT_bNot, qT_eBI, qT_eIf, qT_eLd, qT_eLdR, qT_eLen, qT_eF, qT_eFR, qT_aN, qT_aS, qT_eCl, qT_eClR, qT_eClB, qT_some, qT_x, z_nx_N, z_nx_B, z_nx_R, z_nx_X, z_bk_N, z_bk_B, z_bk_R, z_bk_X, oAdd, oSub, oMul, oNeg, cLt, cLe, cGt, cGe, cEq, cNe, Option.some.injEq, Sum.inl.injEq, Sum.inr.injEq, Prod.mk.injEq, exists_eq_left, exists_eq_left', exists_eq_right, exists_and_left, reduceCtorEq, and_true, true_and, and_false, false_and, List.getElem?_cons_zero, List.getElem?_cons_succ, List.set_cons_zero, List.set_cons_succ, List.replicate, List.length_cons, List.length_nil, List.cons_append, List.nil_append, Nat.reduceAdd, Nat.reduceSub, decide_eq_true_eq, decide_eq_false_iff_not, Bool.true_eq_false, Bool.false_eq_true, true_implies, false_implies, implies_true, Nat.reduceLT, exists_const, z_vB_inj, and_assoc, z_in_iff, oI2L, oL2I, Int.toNat_natCast, z_toNat0, Bool.not_eq_true', Bool.not_eq_false', ne_eq, Bool.not_true, Bool.not_false, Nat.add_zero, Int.add_zero, z_sl_s]
    refine ⟨by omega, by omega, by omega, by omega, by omega, by omega, by omega, fun q => ?_, fun q => ⟨rfl, fun x hx => ?_⟩⟩
    · exact ((z_dec_f _).mpr (fun w => w k hk ((z_dec_iff _).mp q))).symm
    · rcases Nat.lt_succ_iff_lt_or_eq.mp hx with hx | rfl
      · exact hP x hx
      · exact (z_dec_f _).mp q
  · intro hP
    simp only [qS_nop, qS_seq, qS_set, qS_setJ, qS_if, qS_brk, qS_ret, qS_retV, qS_throw, qS_inc, qS_cl, qS_ast, qS_aop, qS_fst, qS_fop, qS_sw, qT_eC, qT_eCB, qT_eL, qT_eLJ, qT_eLR, qT_eLB, qT_e1, qT_e2, qT_bCmp, qT_bCmpJ, qT_bAnd, qT_bOr, qT_bNot, qT_eBI, qT_eIf, qT_eLd, qT_eLdR, qT_eLen, qT_eF, qT_eFR, qT_aN, qT_aS, qT_eCl, qT_eClR, qT_eClB, qT_some, qT_x, z_nx_N, z_nx_B, z_nx_R, z_nx_X, z_bk_N, z_bk_B, z_bk_R, z_bk_X, oAdd, oSub, oMul, oNeg, cLt, cLe, cGt, cGe, cEq, cNe, Option.some.injEq, Sum.inl.injEq, Sum.inr.injEq, Prod.mk.injEq, exists_eq_left, exists_eq_left', exists_eq_right, exists_and_left, reduceCtorEq, and_true, true_and, and_false, false_and, List.getElem?_cons_zero, List.getElem?_cons_succ, List.set_cons_zero, List.set_cons_succ, List.replicate, List.length_cons, List.length_nil, List.cons_append, List.nil_append, Nat.reduceAdd, Nat.reduceSub, decide_eq_true_eq, decide_eq_false_iff_not, Bool.true_eq_false, Bool.false_eq_true, true_implies, false_implies, implies_true, Nat.reduceLT, exists_const, z_vB_inj, and_assoc, z_in_iff, oI2L, oL2I, Int.toNat_natCast, z_toNat0, Bool.not_eq_true', Bool.not_eq_false', ne_eq, Bool.not_true, Bool.not_false, Nat.add_zero, Int.add_zero, z_sl_s]
    exact ⟨by omega, by omega, by omega, by omega, by omega, ((z_dec_iff _).mpr hP).symm⟩
end NT
