/-! Matrix: solutions, projections, distances, trees -/
def vBd (V : Nat → Int) (b : Int) : Prop := ∀ i, i < 5 → -b ≤ V i ∧ V i ≤ 1000000
section MT
variable {h : z_Hp} {o e r n v w : Nat} {M : Nat → Nat → Int} {V W : Nat → Int}
theorem mRow.ar (a : mAt h o e r n M) {q m : Nat} {f : Nat → Int} (hq : h[q]? = some (.inr (0, m, f))) : q ≠ o ∧ q ≠ e := by
  obtain ⟨a1, ⟨fo, a2, a3⟩, a4⟩ := a
  constructor
  · rintro rfl
    rw [a1] at hq
    cases hq
  · rintro rfl
    rw [a2] at hq
    cases hq
theorem mAt.out (a : mAt h o e r n M) {q : Nat} (hq : h[q]? = some (.inr (0, 5, W))) (hr : ¬ mRow r q) (x : z_Cl) : mAt (h.set q x) o e r n M := by
  have ne := mRow.ar a hq
  refine a.kept (z_set_ne ne.1) (z_set_ne ne.2) (fun i hi => z_set_ne (fun w => hr ⟨by omega, by omega⟩))
/-- the greatest difference in a column, among the numbers -/
def mGr (M : Nat → Nat → Int) (V : Nat → Int) (j : Nat) : Nat → Int
  | 0 => INF
  | i + 1 => if M i j = INF then mGr M V j i else if mGr M V j i = INF then V i - M i j else if mGr M V j i < V i - M i j then V i - M i j else mGr M V j i
theorem mGr_b (hM : mBd M 1000000000) (hV : vBd V 1000000000) {j : Nat} (hj : j < 5) : ∀ i, i ≤ 5 → -1001000000 ≤ mGr M V j i ∧ mGr M V j i ≤ 1001000000
  | 0, _ => by simp [mGr, INF]
  | i + 1, hi => by
    have ih := mGr_b hM hV hj i (by omega)
    have b1 := hM i j (by omega) hj
    have b2 := hV i (by omega)
    unfold mGr
    split
    · exact ih
    · split
      · omega
      · split <;> omega
theorem s_putSolution (a : mAt h o e r n M) (hn : n ≤ 5) (hb : mBd M 1000000000) (hv : h[v]? = some (.inr (0, 5, V))) (hw : h[w]? = some (.inr (0, 5, W))) (hvw : w ≠ v) (hr : ¬ mRow r w) (hV : vBd V 1000000000) :
    m_X2_putSolution [vR o, vR v, vR w] h = some (.inl none, h.set w (.inr (0, 5, fun k => if k < n then mGr M V k n else W k))) := by
  unfold m_X2_putSolution
  rw [q_vm a.1]
  apply q_body
  simp only [b_X2_putSolution, qS_nop, qS_seq, qS_set, qS_setJ, qS_if, qS_brk, qS_ret, qS_retV, qS_throw, qS_inc, qS_cl, qS_ast, qS_aop, qS_fst, qS_fop, qS_sw, qT_eC, qT_eCB, qT_eL, qT_eLJ, qT_eLR, qT_eLB, qT_e1, qT_e2, qT_bCmp, qT_bCmpJ, qT_bAnd, qT_bOr, qT_bNot, qT_eBI, qT_eIf, qT_eLd, qT_eLdR, qT_eLen, qT_eF, qT_eFR, qT_aN, qT_aS, qT_eCl, qT_eClR, qT_eClB, qT_some, qT_x, z_nx_N, z_nx_B, z_nx_R, z_nx_X, z_bk_N, z_bk_B, z_bk_R, z_bk_X, oAdd, oSub, oMul, oNeg, cLt, cLe, cGt, cGe, cEq, cNe, Option.some.injEq, Sum.inl.injEq, Sum.inr.injEq, Prod.mk.injEq, exists_eq_left, exists_eq_left', exists_eq_right, exists_and_left, reduceCtorEq, and_true, true_and, and_false, false_and, List.getElem?_cons_zero, List.getElem?_cons_succ, List.set_cons_zero, List.set_cons_succ, List.replicate, List.length_cons, List.length_nil, List.cons_append, List.nil_append, Nat.reduceAdd, Nat.reduceSub, decide_eq_true_eq, decide_eq_false_iff_not, Bool.true_eq_false, Bool.false_eq_true, true_implies, false_implies, implies_true, Nat.reduceLT, exists_const, z_vB_inj, and_assoc, z_in_iff, oI2L, oL2I, Int.toNat_natCast, z_toNat0, Bool.not_eq_true', Bool.not_eq_false', ne_eq, Bool.not_true, Bool.not_false, Nat.add_zero, Int.add_zero, z_sl_s]
  refine qS_loop (fun j ρ h' => h' = h.set w (.inr (0, 5, fun k => if k < j then mGr M V k n else W k)) ∧ ∃ x y z, ρ = [vR o, vR v, vR w, vI (j : Int), x, y, z]) n ?_ ?_ n 0 z_fuel _ _ (by omega) (z_fuel_lt (by omega)) ⟨by simp [z_set_id hw], _, _, _, rfl⟩
  · rintro j ρ h' hj ⟨rfl, x, y, z, rfl⟩
    have a' := a.out hw hr (.inr (0, 5, fun k => if k < j then mGr M V k n else W k))
    have hv' : (h.set w (.inr (0, 5, fun k => if k < j then mGr M V k n else W k)))[v]? = some (.inr (0, 5, V)) := (z_set_ne hvw).trans hv
    have hw' : (h.set w (.inr (0, 5, fun k => if k < j then mGr M V k n else W k)))[w]? = some (.inr (0, 5, fun k => if k < j then mGr M V k n else W k)) := z_set_get hw
    have es : ∀ x : z_Cl, (h.set w (.inr (0, 5, fun k => if k < j then mGr M V k n else W k))).set w x = h.set w x := fun x => List.set_set _
    generalize h.set w (.inr (0, 5, fun k => if k < j then mGr M V k n else W k)) = h1 at a' hv' hw' es ⊢
    simp only [q_obj a'.1, qS_nop, qS_seq, qS_set, qS_setJ, qS_if, qS_brk, qS_ret, qS_retV, qS_throw, qS_inc, qS_cl, qS_ast, qS_aop, qS_fst, qS_fop, qS_sw, qT_eC, qT_eCB, qT_eL, qT_eLJ, qT_eLR, qT_eLB, qT_e1, qT_e2, qT_bCmp, qT_bCmpJ, qT_bAnd, qT_bOr, qT_bNot, qT_eBI, qT_eIf, qT_eLd, qT_eLdR, qT_eLen, qT_eF, qT_eFR, qT_aN, qT_aS, qT_eCl, qT_eClR, qT_eClB, qT_some, qT_x, z_nx_N, z_nx_B, z_nx_R, z_nx_X, z_bk_N, z_bk_B, z_bk_R, z_bk_X, oAdd, oSub, oMul, oNeg, cLt, cLe, cGt, cGe, cEq, cNe, Option.some.injEq, Sum.inl.injEq, Sum.inr.injEq, Prod.mk.injEq, exists_eq_left, exists_eq_left', exists_eq_right, exists_and_left, reduceCtorEq, and_true, true_and, and_false, false_and, List.getElem?_cons_zero, List.getElem?_cons_succ, List.set_cons_zero, List.set_cons_succ, List.replicate, List.length_cons, List.length_nil, List.cons_append, List.nil_append, Nat.reduceAdd, Nat.reduceSub, decide_eq_true_eq, decide_eq_false_iff_not, Bool.true_eq_false, Bool.false_eq_true, true_implies, false_implies, implies_true, Nat.reduceLT, exists_const, z_vB_inj, and_assoc, z_in_iff, oI2L, oL2I, Int.toNat_natCast, z_toNat0, Bool.not_eq_true', Bool.not_eq_false', ne_eq, Bool.not_true, Bool.not_false, Nat.add_zero, Int.add_zero, z_sl_s]
    refine ⟨by omega, by omega, by omega, by omega, by omega, ?_⟩
    refine qS_loop (fun i ρ h' => h' = h1 ∧ ∃ z, ρ = [vR o, vR v, vR w, vI (j : Int), vI (mGr M V j i), vI (i : Int), z]) n ?_ ?_ n 0 z_fuel _ _ (by omega) (z_fuel_lt (by omega)) ⟨rfl, _, rfl⟩
    · rintro i ρ h' hi ⟨rfl, z, rfl⟩
      obtain ⟨fo, c1, c2, cc⟩ := a'.row2
      obtain ⟨c3, c4, c5⟩ := cc i (by omega)
      have g1 := mGr_b hb hV (show j < 5 by omega) i (by omega)
      have g2 := hb i j (by omega) (by omega)
      have g3 := hV i (by omega)
      have e1 := s_max (x := mGr M V j i) (y := V i - M i j) (h := h') ⟨by omega, by omega⟩ ⟨by omega, by omega⟩
      simp only [c1, c2, c4, c5, q_arr hv' (by decide), e1, qS_nop, qS_seq, qS_set, qS_setJ, qS_if, qS_brk, qS_ret, qS_retV, qS_throw, qS_inc, qS_cl, qS_ast, qS_aop, qS_fst, qS_fop, qS_sw, qT_eC, qT_eCB, qT_eL, qT_eLJ, qT_eLR, qT_eLB, qT_e1, qT_e2, qT_bCmp, qT_bCmpJ, qT_bAnd, qT_bOr, qT_bNot, qT_eBI, qT_eIf, qT_eLd, qT_eLdR, qT_eLen, qT_eF, qT_eFR, qT_aN, qT_aS, qT_eCl, qT_eClR, qT_eClB, qT_some, qT_x, z_nx_N, z_nx_B, z_nx_R, z_nx_X, z_bk_N, z_bk_B, z_bk_R, z_bk_X, oAdd, oSub, oMul, oNeg, cLt, cLe, cGt, cGe, cEq, cNe, Option.some.injEq, Sum.inl.injEq, Sum.inr.injEq, Prod.mk.injEq, exists_eq_left, exists_eq_left', exists_eq_right, exists_and_left, reduceCtorEq, and_true, true_and, and_false, false_and, List.getElem?_cons_zero, List.getElem?_cons_succ, List.set_cons_zero, List.set_cons_succ, List.replicate, List.length_cons, List.length_nil, List.cons_append, List.nil_append, Nat.reduceAdd, Nat.reduceSub, decide_eq_true_eq, decide_eq_false_iff_not, Bool.true_eq_false, Bool.false_eq_true, true_implies, false_implies, implies_true, Nat.reduceLT, exists_const, z_vB_inj, and_assoc, z_in_iff, oI2L, oL2I, Int.toNat_natCast, z_toNat0, Bool.not_eq_true', Bool.not_eq_false', ne_eq, Bool.not_true, Bool.not_false, Nat.add_zero, Int.add_zero, z_sl_s]
      refine ⟨by omega, by omega, by omega, by omega, by omega, by omega, by omega, c3, by omega, by omega, by omega, by omega, by omega, by omega, fun q => ⟨by omega, by omega, by omega, by omega, c3, by omega, by omega, by omega, by omega, by omega, by omega, fun q2 => ⟨vI (V i - M i j), ?_⟩, fun q2 => ⟨vI (V i - M i j), ?_⟩⟩, fun q => ⟨z, ?_⟩⟩
      · simp [mGr, q, q2, INF]
      · simp [mGr, q, q2, INF]
      · simp [mGr, q, INF]
    · rintro ρ h' ⟨rfl, z, rfl⟩
      simp only [q_obj a'.1, q_arr hw' (by decide), qS_nop, qS_seq, qS_set, qS_setJ, qS_if, qS_brk, qS_ret, qS_retV, qS_throw, qS_inc, qS_cl, qS_ast, qS_aop, qS_fst, qS_fop, qS_sw, qT_eC, qT_eCB, qT_eL, qT_eLJ, qT_eLR, qT_eLB, qT_e1, qT_e2, qT_bCmp, qT_bCmpJ, qT_bAnd, qT_bOr, qT_bNot, qT_eBI, qT_eIf, qT_eLd, qT_eLdR, qT_eLen, qT_eF, qT_eFR, qT_aN, qT_aS, qT_eCl, qT_eClR, qT_eClB, qT_some, qT_x, z_nx_N, z_nx_B, z_nx_R, z_nx_X, z_bk_N, z_bk_B, z_bk_R, z_bk_X, oAdd, oSub, oMul, oNeg, cLt, cLe, cGt, cGe, cEq, cNe, Option.some.injEq, Sum.inl.injEq, Sum.inr.injEq, Prod.mk.injEq, exists_eq_left, exists_eq_left', exists_eq_right, exists_and_left, reduceCtorEq, and_true, true_and, and_false, false_and, List.getElem?_cons_zero, List.getElem?_cons_succ, List.set_cons_zero, List.set_cons_succ, List.replicate, List.length_cons, List.length_nil, List.cons_append, List.nil_append, Nat.reduceAdd, Nat.reduceSub, decide_eq_true_eq, decide_eq_false_iff_not, Bool.true_eq_false, Bool.false_eq_true, true_implies, false_implies, implies_true, Nat.reduceLT, exists_const, z_vB_inj, and_assoc, z_in_iff, oI2L, oL2I, Int.toNat_natCast, z_toNat0, Bool.not_eq_true', Bool.not_eq_false', ne_eq, Bool.not_true, Bool.not_false, Nat.add_zero, Int.add_zero, z_sl_s]
      refine ⟨by omega, by omega, by omega, by omega, by omega, by omega, by omega, ?_, _, _, _, rfl⟩
      rw [es, z_upto (fun k => W k) (fun k => mGr M V k n) j]
  · rintro ρ h' ⟨rfl, x, y, z, rfl⟩
    have a' := a.out hw hr (.inr (0, 5, fun k => if k < n then mGr M V k n else W k))
    simp only [q_obj a'.1, qS_nop, qS_seq, qS_set, qS_setJ, qS_if, qS_brk, qS_ret, qS_retV, qS_throw, qS_inc, qS_cl, qS_ast, qS_aop, qS_fst, qS_fop, qS_sw, qT_eC, qT_eCB, qT_eL, qT_eLJ, qT_eLR, qT_eLB, qT_e1, qT_e2, qT_bCmp, qT_bCmpJ, qT_bAnd, qT_bOr, qT_bNot, qT_eBI, qT_eIf, qT_eLd, qT_eLdR, qT_eLen, qT_eF, qT_eFR, qT_aN, qT_aS, qT_eCl, qT_eClR, qT_eClB, qT_some, qT_x, z_nx_N, z_nx_B, z_nx_R, z_nx_X, z_bk_N, z_bk_B, z_bk_R, z_bk_X, oAdd, oSub, oMul, oNeg, cLt, cLe, cGt, cGe, cEq, cNe, Option.some.injEq, Sum.inl.injEq, Sum.inr.injEq, Prod.mk.injEq, exists_eq_left, exists_eq_left', exists_eq_right, exists_and_left, reduceCtorEq, and_true, true_and, and_false, false_and, List.getElem?_cons_zero, List.getElem?_cons_succ, List.set_cons_zero, List.set_cons_succ, List.replicate, List.length_cons, List.length_nil, List.cons_append, List.nil_append, Nat.reduceAdd, Nat.reduceSub, decide_eq_true_eq, decide_eq_false_iff_not, Bool.true_eq_false, Bool.false_eq_true, true_implies, false_implies, implies_true, Nat.reduceLT, exists_const, z_vB_inj, and_assoc, z_in_iff, oI2L, oL2I, Int.toNat_natCast, z_toNat0, Bool.not_eq_true', Bool.not_eq_false', ne_eq, Bool.not_true, Bool.not_false, Nat.add_zero, Int.add_zero, z_sl_s]
    exact ⟨by omega, by omega, by omega, by omega, by omega⟩
def mLd (M : Nat → Nat → Int) (S : Nat → Int) (n i : Nat) : Int := z_mn (fun j => z_plus (M i j) (S j)) n
theorem s_leadsTo (a : mAt h o e r n M) (hn : n ≤ 5) (hb : mBd M 1000000000) (hv : h[v]? = some (.inr (0, 5, V))) (hw : h[w]? = some (.inr (0, 5, W))) (hV : vBd V 1000000000) (hW : vBd W 1000000000) :
    m_X2_leadsTo [vR o, vR v, vR w] h = some (.inl (some (vB (z_dec (∀ i, i < n → mLd M V n i = W i)))), h) := by
  unfold m_X2_leadsTo
  rw [q_vm a.1]
  apply q_body
  simp only [b_X2_leadsTo, qS_nop, qS_seq, qS_set, qS_setJ, qS_if, qS_brk, qS_ret, qS_retV, qS_throw, qS_inc, qS_cl, qS_ast, qS_aop, qS_fst, qS_fop, qS_sw, qT_eC, qT_eCB, qT_eL, qT_eLJ, qT_eLR, qT_eLB, qT_e1, qT_e2, qT_bCmp, qT_bCmpJ, qT_bAnd, qT_bOr, qT_bNot, qT_eBI, qT_eIf, qT_eLd, qT_eLdR, qT_eLen, qT_eF, qT_eFR, qT_aN, qT_aS, qT_eCl, qT_eClR, qT_eClB, qT_some, qT_x, z_nx_N, z_nx_B, z_nx_R, z_nx_X, z_bk_N, z_bk_B, z_bk_R, z_bk_X, oAdd, oSub, oMul, oNeg, cLt, cLe, cGt, cGe, cEq, cNe, Option.some.injEq, Sum.inl.injEq, Sum.inr.injEq, Prod.mk.injEq, exists_eq_left, exists_eq_left', exists_eq_right, exists_and_left, reduceCtorEq, and_true, true_and, and_false, false_and, List.getElem?_cons_zero, List.getElem?_cons_succ, List.set_cons_zero, List.set_cons_succ, List.replicate, List.length_cons, List.length_nil, List.cons_append, List.nil_append, Nat.reduceAdd, Nat.reduceSub, decide_eq_true_eq, decide_eq_false_iff_not, Bool.true_eq_false, Bool.false_eq_true, true_implies, false_implies, implies_true, Nat.reduceLT, exists_const, z_vB_inj, and_assoc, z_in_iff, oI2L, oL2I, Int.toNat_natCast, z_toNat0, Bool.not_eq_true', Bool.not_eq_false', ne_eq, Bool.not_true, Bool.not_false, Nat.add_zero, Int.add_zero, z_sl_s]
  refine qS_for (fun k => [vR o, vR v, vR w, vI (k : Int), z_sl k (vI (mLd M V n (k - 1))), z_sl k (vI (n : Int))]) (fun _ => h) (fun k => ∀ i, i < k → mLd M V n i = W i) n rfl rfl (fun i hi => absurd hi (Nat.not_lt_zero i)) (by omega) ?_ ?_
  · intro i hi hP
    simp only [q_obj a.1, qS_nop, qS_seq, qS_set, qS_setJ, qS_if, qS_brk, qS_ret, qS_retV, qS_throw, qS_inc, qS_cl, qS_ast, qS_aop, qS_fst, qS_fop, qS_sw, qT_eC, qT_eCB, qT_eL, qT_eLJ, qT_eLR, qT_eLB, qT_e1, qT_e2, qT_bCmp, qT_bCmpJ, qT_bAnd, qT_bOr, qT_bNot, qT_eBI, qT_eIf, qT_eLd, qT_eLdR, qT_eLen, qT_eF, qT_eFR, qT_aN, qT_aS, qT_eCl, qT_eClR, qT_eClB, qT_some, qT_x, z_nx_N, z_nx_B, z_nx_R, z_nx_X, z_bk_N, z_bk_B, z_bk_R, z_bk_X, oAdd, oSub, oMul, oNeg, cLt, cLe, cGt, cGe, cEq, cNe, Option.some.injEq, Sum.inl.injEq, Sum.inr.injEq, Prod.mk.injEq, exists_eq_left, exists_eq_left', exists_eq_right, exists_and_left, reduceCtorEq, and_true, true_and, and_false, false_and, List.getElem?_cons_zero, List.getElem?_cons_succ, List.set_cons_zero, List.set_cons_succ, List.replicate, List.length_cons, List.length_nil, List.cons_append, List.nil_append, Nat.reduceAdd, Nat.reduceSub, decide_eq_true_eq, decide_eq_false_iff_not, Bool.true_eq_false, Bool.false_eq_true, true_implies, false_implies, implies_true, Nat.reduceLT, exists_const, z_vB_inj, and_assoc, z_in_iff, oI2L, oL2I, Int.toNat_natCast, z_toNat0, Bool.not_eq_true', Bool.not_eq_false', ne_eq, Bool.not_true, Bool.not_false, Nat.add_zero, Int.add_zero, z_sl_s]
    refine ⟨by omega, by omega, by omega, by omega, by omega, ?_⟩
    obtain ⟨fo, c1, c2, cc⟩ := a.row2
    obtain ⟨c3, c4, c5⟩ := cc i (by omega)
    refine qS_for (fun k => [vR o, vR v, vR w, vI (i : Int), vI (z_mn (fun j => z_plus (M i j) (V j)) k), vI (k : Int)]) (fun _ => h) (fun _ => True) n rfl rfl trivial (by omega) ?_ ?_
    · intro k hk _
      have v1 := hb i k (by omega) (by omega)
      have v2 := hV k (by omega)
      have v3 := z_plus_b (x := M i k) (y := V k) (a := -1000000000) (b := -1000000000) v1 v2 (by decide) (by decide)
      have v4 := z_mn_le (fun k => z_plus (M i k) (V k)) k
      have v5 := z_mn_b (fun k => z_plus (M i k) (V k)) (-2000000000) (by decide) k (fun x hx => (z_plus_b (a := -1000000000) (b := -1000000000) (hb i x (by omega) (by omega)) (hV x (by omega)) (by decide) (by decide)).1)
      simp only [INF] at v4
      have e1 := s_together (x := M i k) (y := V k) (h := h) ⟨by omega, by omega⟩ ⟨by omega, by omega⟩
      rw [show (if M i k = INF ∨ V k = INF then INF else M i k + V k) = z_plus (M i k) (V k) from rfl] at e1
      have e2 := s_min (x := z_mn (fun k => z_plus (M i k) (V k)) k) (y := z_plus (M i k) (V k)) (h := h) ⟨by omega, by omega⟩ ⟨by omega, by omega⟩
      simp only [c1, c2, c4, c5, q_arr hv (by decide), e1, e2, qS_nop, qS_seq, qS_set, qS_setJ, qS_if, qS_brk, qS_ret, qS_retV, qS_throw, qS_inc, qS_cl, qS_ast, qS_aop, qS_fst, qS_fop, qS_sw, qT_eC, qT_eCB, qT_eL, qT_eLJ, qT_eLR, qT_eLB, qT_e1, qT_e2, qT_bCmp, qT_bCmpJ, qT_bAnd, qT_bOr, qT_bNot, qT_eBI, qT_eIf, qT_eLd, qT_eLdR, qT_eLen, qT_eF, qT_eFR, qT_aN, qT_aS, qT_eCl, qT_eClR, qT_eClB, qT_some, qT_x, z_nx_N, z_nx_B, z_nx_R, z_nx_X, z_bk_N, z_bk_B, z_bk_R, z_bk_X, oAdd, oSub, oMul, oNeg, cLt, cLe, cGt, cGe, cEq, cNe, Option.some.injEq, Sum.inl.injEq, Sum.inr.injEq, Prod.mk.injEq, exists_eq_left, exists_eq_left', exists_eq_right, exists_and_left, reduceCtorEq, and_true, true_and, and_false, false_and, List.getElem?_cons_zero, List.getElem?_cons_succ, List.set_cons_zero, List.set_cons_succ, List.replicate, List.length_cons, List.length_nil, List.cons_append, List.nil_append, Nat.reduceAdd, Nat.reduceSub, decide_eq_true_eq, decide_eq_false_iff_not, Bool.true_eq_false, Bool.false_eq_true, true_implies, false_implies, implies_true, Nat.reduceLT, exists_const, z_vB_inj, and_assoc, z_in_iff, oI2L, oL2I, Int.toNat_natCast, z_toNat0, Bool.not_eq_true', Bool.not_eq_false', ne_eq, Bool.not_true, Bool.not_false, Nat.add_zero, Int.add_zero, z_sl_s]
      exact ⟨by omega, by omega, by omega, by omega, by omega, by omega, by omega, c3, by omega, by omega, by omega, by omega, rfl⟩
    · intro _
      have v4 := z_mn_le (fun k => z_plus (M i k) (V k)) n
      have v5 := z_mn_b (fun k => z_plus (M i k) (V k)) (-2000000000) (by decide) n (fun x hx => (z_plus_b (a := -1000000000) (b := -1000000000) (hb i x (by omega) (by omega)) (hV x (by omega)) (by decide) (by decide)).1)
      simp only [INF] at v4
      have v6 := hW i (by omega)
      simp only [q_obj a.1, q_arr hw (by decide), qS_nop, qS_seq, qS_set, qS_setJ, qS_if, qS_brk, qS_ret, qS_retV, qS_throw, qS_inc, qS_cl, qS_ast, qS_aop, qS_fst, qS_fop, qS_sw, qT_eC, qT_eCB, qT_eL, qT_eLJ, qT_eLR, qT_eLB, qT_e1, qT_e2, qT_bCmp, qT_bCmpJ, qT_bAnd, qT_bOr, qT_bNot, qT_eBI, qT_eIf, qT_eLd, qT_eLdR, qT_eLen, qT_eF, qT_eFR, qT_aN, qT_aS, qT_eCl, qT_eClR, qT_eClB, qT_some, qT_x, z_nx_N, z_nx_B, z_nx_R, z_nx_X, z_bk_N, z_bk_B, z_bk_R, z_bk_X, oAdd, oSub, oMul, oNeg, cLt, cLe, cGt, cGe, cEq, cNe, Option.some.injEq, Sum.inl.injEq, Sum.inr.injEq, Prod.mk.injEq, exists_eq_left, exists_eq_left', exists_eq_right, exists_and_left, reduceCtorEq, and_true, true_and, and_false, false_and, List.getElem?_cons_zero, List.getElem?_cons_succ, List.set_cons_zero, List.set_cons_succ, List.replicate, List.length_cons, List.length_nil, List.cons_append, List.nil_append, Nat.reduceAdd, Nat.reduceSub, decide_eq_true_eq, decide_eq_false_iff_not, Bool.true_eq_false, Bool.false_eq_true, true_implies, false_implies, implies_true, Nat.reduceLT, exists_const, z_vB_inj, and_assoc, z_in_iff, oI2L, oL2I, Int.toNat_natCast, z_toNat0, Bool.not_eq_true', Bool.not_eq_false', ne_eq, Bool.not_true, Bool.not_false, Nat.add_zero, Int.add_zero, z_sl_s]
      refine ⟨by omega, by omega, by omega, by omega, by omega, by omega, by omega, by omega, by omega, by omega, by omega, fun q => ?_, fun q => ⟨rfl, fun x hx => ?_⟩⟩
      · exact ((z_dec_f _).mpr (fun w => q (w i hi))).symm
      · rcases Nat.lt_succ_iff_lt_or_eq.mp hx with hx | rfl
        · exact hP x hx
        · exact Classical.not_not.mp q
  · intro hP
    simp only [q_obj a.1, qS_nop, qS_seq, qS_set, qS_setJ, qS_if, qS_brk, qS_ret, qS_retV, qS_throw, qS_inc, qS_cl, qS_ast, qS_aop, qS_fst, qS_fop, qS_sw, qT_eC, qT_eCB, qT_eL, qT_eLJ, qT_eLR, qT_eLB, qT_e1, qT_e2, qT_bCmp, qT_bCmpJ, qT_bAnd, qT_bOr, qT_bNot, qT_eBI, qT_eIf, qT_eLd, qT_eLdR, qT_eLen, qT_eF, qT_eFR, qT_aN, qT_aS, qT_eCl, qT_eClR, qT_eClB, qT_some, qT_x, z_nx_N, z_nx_B, z_nx_R, z_nx_X, z_bk_N, z_bk_B, z_bk_R, z_bk_X, oAdd, oSub, oMul, oNeg, cLt, cLe, cGt, cGe, cEq, cNe, Option.some.injEq, Sum.inl.injEq, Sum.inr.injEq, Prod.mk.injEq, exists_eq_left, exists_eq_left', exists_eq_right, exists_and_left, reduceCtorEq, and_true, true_and, and_false, false_and, List.getElem?_cons_zero, List.getElem?_cons_succ, List.set_cons_zero, List.set_cons_succ, List.replicate, List.length_cons, List.length_nil, List.cons_append, List.nil_append, Nat.reduceAdd, Nat.reduceSub, decide_eq_true_eq, decide_eq_false_iff_not, Bool.true_eq_false, Bool.false_eq_true, true_implies, false_implies, implies_true, Nat.reduceLT, exists_const, z_vB_inj, and_assoc, z_in_iff, oI2L, oL2I, Int.toNat_natCast, z_toNat0, Bool.not_eq_true', Bool.not_eq_false', ne_eq, Bool.not_true, Bool.not_false, Nat.add_zero, Int.add_zero, z_sl_s]
    exact ⟨by omega, by omega, by omega, by omega, by omega, ((z_dec_iff _).mpr hP).symm⟩
def mSh (M : Nat → Nat → Int) (V : Nat → Int) (r : Nat) : Nat → Int
  | 0 => V 0 - M r 0
  | k + 1 => if mSh M V r k < V (k + 1) - M r (k + 1) then V (k + 1) - M r (k + 1) else mSh M V r k
theorem mSh_b (hM : mBd M 1000000000) (hV : vBd V 1000000000) {j : Nat} (hj : j < 5) : ∀ i, i < 5 → -1001000000 ≤ mSh M V j i ∧ mSh M V j i ≤ 1001000000
  | 0, _ => by
    have b1 := hM j 0 hj (by omega)
    have b2 := hV 0 (by omega)
    simp only [mSh]
    omega
  | i + 1, hi => by
    have ih := mSh_b hM hV hj i (by omega)
    have b1 := hM j (i + 1) hj (by omega)
    have b2 := hV (i + 1) (by omega)
    unfold mSh
    split <;> omega
theorem s_shiftOf (a : mAt h o e r n M) (hn : 1 ≤ n ∧ n ≤ 5) (hb : mBd M 1000000000) (hv : h[v]? = some (.inr (0, 5, V))) (hV : vBd V 1000000000) {x : Nat} (hx : x < 5) :
    m_X2_shiftOf [vR o, vI (x : Int), vR v] h = some (.inl (some (vI (mSh M V x (n - 1)))), h) := by
  unfold m_X2_shiftOf
  rw [q_vm a.1]
  apply q_body
  obtain ⟨fo, c1, c2, cc⟩ := a.row2
  obtain ⟨c3, c4, c5⟩ := cc x hx
  have b1 := hb x 0 (by omega) (by omega)
  have b2 := hV 0 (by omega)
  simp only [b_X2_shiftOf, c1, c2, c4, c5, q_arr hv (by decide), qS_nop, qS_seq, qS_set, qS_setJ, qS_if, qS_brk, qS_ret, qS_retV, qS_throw, qS_inc, qS_cl, qS_ast, qS_aop, qS_fst, qS_fop, qS_sw, qT_eC, qT_eCB, qT_eL, qT_eLJ, qT_eLR, qT_eLB, qT_e1, qT_e2, qT_bCmp, qT_bCmpJ, qT_bAnd, qT_bOr, qT_bNot, qT_eBI, qT_eIf, qT_eLd, qT_eLdR, qT_eLen, qT_eF, qT_eFR, qT_aN, qT_aS, qT_eCl, qT_eClR, qT_eClB, qT_some, qT_x, z_nx_N, z_nx_B, z_nx_R, z_nx_X, z_bk_N, z_bk_B, z_bk_R, z_bk_X, oAdd, oSub, oMul, oNeg, cLt, cLe, cGt, cGe, cEq, cNe, Option.some.injEq, Sum.inl.injEq, Sum.inr.injEq, Prod.mk.injEq, exists_eq_left, exists_eq_left', exists_eq_right, exists_and_left, reduceCtorEq, and_true, true_and, and_false, false_and, List.getElem?_cons_zero, List.getElem?_cons_succ, List.set_cons_zero, List.set_cons_succ, List.replicate, List.length_cons, List.length_nil, List.cons_append, List.nil_append, Nat.reduceAdd, Nat.reduceSub, decide_eq_true_eq, decide_eq_false_iff_not, Bool.true_eq_false, Bool.false_eq_true, true_implies, false_implies, implies_true, Nat.reduceLT, exists_const, z_vB_inj, and_assoc, z_in_iff, oI2L, oL2I, Int.toNat_natCast, z_toNat0, Bool.not_eq_true', Bool.not_eq_false', ne_eq, Bool.not_true, Bool.not_false, Nat.add_zero, Int.add_zero, z_sl_s]
  refine ⟨by omega, by omega, by omega, by omega, c3, by omega, by omega, ?_⟩
  refine qS_for (fun k => [vR o, vI (x : Int), vR v, vI (mSh M V x k), vI ((k : Int) + 1)]) (fun _ => h) (fun _ => True) (n - 1) rfl rfl trivial (by omega) ?_ ?_
  · intro k hk _
    have b1 := hb x (k + 1) (by omega) (by omega)
    have b2 := hV (k + 1) (by omega)
    have b3 := mSh_b hb hV hx k (by omega)
    have e1 := s_max (x := mSh M V x k) (y := V (k + 1) - M x (k + 1)) (h := h) ⟨by omega, by omega⟩ ⟨by omega, by omega⟩
    have ek : ((k : Int) + 1).toNat = k + 1 := by omega
    simp only [c1, c2, c4, c5, q_arr hv (by decide), ek, e1, qS_nop, qS_seq, qS_set, qS_setJ, qS_if, qS_brk, qS_ret, qS_retV, qS_throw, qS_inc, qS_cl, qS_ast, qS_aop, qS_fst, qS_fop, qS_sw, qT_eC, qT_eCB, qT_eL, qT_eLJ, qT_eLR, qT_eLB, qT_e1, qT_e2, qT_bCmp, qT_bCmpJ, qT_bAnd, qT_bOr, qT_bNot, qT_eBI, qT_eIf, qT_eLd, qT_eLdR, qT_eLen, qT_eF, qT_eFR, qT_aN, qT_aS, qT_eCl, qT_eClR, qT_eClB, qT_some, qT_x, z_nx_N, z_nx_B, z_nx_R, z_nx_X, z_bk_N, z_bk_B, z_bk_R, z_bk_X, oAdd, oSub, oMul, oNeg, cLt, cLe, cGt, cGe, cEq, cNe, Option.some.injEq, Sum.inl.injEq, Sum.inr.injEq, Prod.mk.injEq, exists_eq_left, exists_eq_left', exists_eq_right, exists_and_left, reduceCtorEq, and_true, true_and, and_false, false_and, List.getElem?_cons_zero, List.getElem?_cons_succ, List.set_cons_zero, List.set_cons_succ, List.replicate, List.length_cons, List.length_nil, List.cons_append, List.nil_append, Nat.reduceAdd, Nat.reduceSub, decide_eq_true_eq, decide_eq_false_iff_not, Bool.true_eq_false, Bool.false_eq_true, true_implies, false_implies, implies_true, Nat.reduceLT, exists_const, z_vB_inj, and_assoc, z_in_iff, oI2L, oL2I, Int.toNat_natCast, z_toNat0, Bool.not_eq_true', Bool.not_eq_false', ne_eq, Bool.not_true, Bool.not_false, Nat.add_zero, Int.add_zero, z_sl_s]
    exact ⟨by omega, by omega, by omega, by omega, by omega, by omega, by omega, by omega, by omega, c3, by omega, by omega, rfl⟩
  · intro _
    have b3 := mSh_b hb hV hx (n - 1) (by omega)
    simp only [q_obj a.1, qS_nop, qS_seq, qS_set, qS_setJ, qS_if, qS_brk, qS_ret, qS_retV, qS_throw, qS_inc, qS_cl, qS_ast, qS_aop, qS_fst, qS_fop, qS_sw, qT_eC, qT_eCB, qT_eL, qT_eLJ, qT_eLR, qT_eLB, qT_e1, qT_e2, qT_bCmp, qT_bCmpJ, qT_bAnd, qT_bOr, qT_bNot, qT_eBI, qT_eIf, qT_eLd, qT_eLdR, qT_eLen, qT_eF, qT_eFR, qT_aN, qT_aS, qT_eCl, qT_eClR, qT_eClB, qT_some, qT_x, z_nx_N, z_nx_B, z_nx_R, z_nx_X, z_bk_N, z_bk_B, z_bk_R, z_bk_X, oAdd, oSub, oMul, oNeg, cLt, cLe, cGt, cGe, cEq, cNe, Option.some.injEq, Sum.inl.injEq, Sum.inr.injEq, Prod.mk.injEq, exists_eq_left, exists_eq_left', exists_eq_right, exists_and_left, reduceCtorEq, and_true, true_and, and_false, false_and, List.getElem?_cons_zero, List.getElem?_cons_succ, List.set_cons_zero, List.set_cons_succ, List.replicate, List.length_cons, List.length_nil, List.cons_append, List.nil_append, Nat.reduceAdd, Nat.reduceSub, decide_eq_true_eq, decide_eq_false_iff_not, Bool.true_eq_false, Bool.false_eq_true, true_implies, false_implies, implies_true, Nat.reduceLT, exists_const, z_vB_inj, and_assoc, z_in_iff, oI2L, oL2I, Int.toNat_natCast, z_toNat0, Bool.not_eq_true', Bool.not_eq_false', ne_eq, Bool.not_true, Bool.not_false, Nat.add_zero, Int.add_zero, z_sl_s]
    refine ⟨by omega, by omega, by omega, by omega, by omega⟩
/-- a projection's part, behind some rows -/
def mPr (M : Nat → Nat → Int) (V : Nat → Int) (n i : Nat) : Nat → Int
  | 0 => 0
  | x + 1 => if x = 0 then mSh M V x (n - 1) + M x i else if mSh M V x (n - 1) + M x i < mPr M V n i x then mSh M V x (n - 1) + M x i else mPr M V n i x
theorem mPr_b (hM : mBd M 1000000000) (hV : vBd V 1000000000) {n i : Nat} (hn : 1 ≤ n ∧ n ≤ 5) (hi : i < 5) : ∀ x, x ≤ 5 → -2001000000 ≤ mPr M V n i x ∧ mPr M V n i x ≤ 1002000000
  | 0, _ => by simp [mPr]
  | x + 1, hx => by
    have ih := mPr_b hM hV hn hi x (by omega)
    have b1 := hM x i (by omega) hi
    have b2 := mSh_b hM hV (show x < 5 by omega) (n - 1) (by omega)
    unfold mPr
    split
    · omega
    · split <;> omega
theorem s_putProjection (a : mAt h o e r n M) (hn : 1 ≤ n ∧ n ≤ 5) (hb : mBd M 1000000000) (hv : h[v]? = some (.inr (0, 5, V))) (hw : h[w]? = some (.inr (0, 5, W))) (hvw : w ≠ v) (hr : ¬ mRow r w) (hV : vBd V 1000000000) :
    m_X2_putProjection [vR o, vR v, vR w] h = some (.inl none, h.set w (.inr (0, 5, fun k => if k < n then mPr M V n k n else W k))) := by
  unfold m_X2_putProjection
  rw [q_vm a.1]
  apply q_body
  simp only [b_X2_putProjection, qS_nop, qS_seq, qS_set, qS_setJ, qS_if, qS_brk, qS_ret, qS_retV, qS_throw, qS_inc, qS_cl, qS_ast, qS_aop, qS_fst, qS_fop, qS_sw, qT_eC, qT_eCB, qT_eL, qT_eLJ, qT_eLR, qT_eLB, qT_e1, qT_e2, qT_bCmp, qT_bCmpJ, qT_bAnd, qT_bOr, qT_bNot, qT_eBI, qT_eIf, qT_eLd, qT_eLdR, qT_eLen, qT_eF, qT_eFR, qT_aN, qT_aS, qT_eCl, qT_eClR, qT_eClB, qT_some, qT_x, z_nx_N, z_nx_B, z_nx_R, z_nx_X, z_bk_N, z_bk_B, z_bk_R, z_bk_X, oAdd, oSub, oMul, oNeg, cLt, cLe, cGt, cGe, cEq, cNe, Option.some.injEq, Sum.inl.injEq, Sum.inr.injEq, Prod.mk.injEq, exists_eq_left, exists_eq_left', exists_eq_right, exists_and_left, reduceCtorEq, and_true, true_and, and_false, false_and, List.getElem?_cons_zero, List.getElem?_cons_succ, List.set_cons_zero, List.set_cons_succ, List.replicate, List.length_cons, List.length_nil, List.cons_append, List.nil_append, Nat.reduceAdd, Nat.reduceSub, decide_eq_true_eq, decide_eq_false_iff_not, Bool.true_eq_false, Bool.false_eq_true, true_implies, false_implies, implies_true, Nat.reduceLT, exists_const, z_vB_inj, and_assoc, z_in_iff, oI2L, oL2I, Int.toNat_natCast, z_toNat0, Bool.not_eq_true', Bool.not_eq_false', ne_eq, Bool.not_true, Bool.not_false, Nat.add_zero, Int.add_zero, z_sl_s]
  refine qS_loop (fun x ρ h' => h' = h.set w (.inr (0, 5, fun k => if 0 < x ∧ k < n then mPr M V n k x else W k)) ∧ ∃ y z u, ρ = [vR o, vR v, vR w, vI (x : Int), y, z, u]) n ?_ ?_ n 0 z_fuel _ _ (by omega) (z_fuel_lt (by omega)) ⟨by simp [z_set_id hw], _, _, _, rfl⟩
  · rintro x ρ h' hx ⟨rfl, y, z, u, rfl⟩
    have es : ∀ (g : Nat → Int) (x : z_Cl), (h.set w (.inr (0, 5, g))).set w x = h.set w x := fun g x => List.set_set _
    have a' := fun g => a.out hw hr (.inr (0, 5, g))
    have hv' : ∀ g : Nat → Int, (h.set w (.inr (0, 5, g)))[v]? = some (.inr (0, 5, V)) := fun g => (z_set_ne hvw).trans hv
    have hw' : ∀ g : Nat → Int, (h.set w (.inr (0, 5, g)))[w]? = some (.inr (0, 5, g)) := fun g => z_set_get hw
    simp only [q_obj (a' _).1, s_shiftOf (a' _) hn hb (hv' _) hV (show x < 5 by omega), qS_nop, qS_seq, qS_set, qS_setJ, qS_if, qS_brk, qS_ret, qS_retV, qS_throw, qS_inc, qS_cl, qS_ast, qS_aop, qS_fst, qS_fop, qS_sw, qT_eC, qT_eCB, qT_eL, qT_eLJ, qT_eLR, qT_eLB, qT_e1, qT_e2, qT_bCmp, qT_bCmpJ, qT_bAnd, qT_bOr, qT_bNot, qT_eBI, qT_eIf, qT_eLd, qT_eLdR, qT_eLen, qT_eF, qT_eFR, qT_aN, qT_aS, qT_eCl, qT_eClR, qT_eClB, qT_some, qT_x, z_nx_N, z_nx_B, z_nx_R, z_nx_X, z_bk_N, z_bk_B, z_bk_R, z_bk_X, oAdd, oSub, oMul, oNeg, cLt, cLe, cGt, cGe, cEq, cNe, Option.some.injEq, Sum.inl.injEq, Sum.inr.injEq, Prod.mk.injEq, exists_eq_left, exists_eq_left', exists_eq_right, exists_and_left, reduceCtorEq, and_true, true_and, and_false, false_and, List.getElem?_cons_zero, List.getElem?_cons_succ, List.set_cons_zero, List.set_cons_succ, List.replicate, List.length_cons, List.length_nil, List.cons_append, List.nil_append, Nat.reduceAdd, Nat.reduceSub, decide_eq_true_eq, decide_eq_false_iff_not, Bool.true_eq_false, Bool.false_eq_true, true_implies, false_implies, implies_true, Nat.reduceLT, exists_const, z_vB_inj, and_assoc, z_in_iff, oI2L, oL2I, Int.toNat_natCast, z_toNat0, Bool.not_eq_true', Bool.not_eq_false', ne_eq, Bool.not_true, Bool.not_false, Nat.add_zero, Int.add_zero, z_sl_s]
    refine ⟨by omega, by omega, by omega, by omega, by omega, ?_⟩
    refine qS_loop (fun i ρ h' => h' = h.set w (.inr (0, 5, fun k => if k < i then mPr M V n k (x + 1) else if 0 < x ∧ k < n then mPr M V n k x else W k)) ∧ ∃ u, ρ = [vR o, vR v, vR w, vI (x : Int), vI (mSh M V x (n - 1)), vI (i : Int), u]) n ?_ ?_ n 0 z_fuel _ _ (by omega) (z_fuel_lt (by omega)) ⟨by simp, _, rfl⟩
    · rintro i ρ h' hi ⟨rfl, u, rfl⟩
      obtain ⟨fo, c1, c2, cc⟩ := (a' (fun k => if k < i then mPr M V n k (x + 1) else if 0 < x ∧ k < n then mPr M V n k x else W k)).row2
      obtain ⟨c3, c4, c5⟩ := cc x (by omega)
      have d1 := hv' (fun k => if k < i then mPr M V n k (x + 1) else if 0 < x ∧ k < n then mPr M V n k x else W k)
      have d2 := hw' (fun k => if k < i then mPr M V n k (x + 1) else if 0 < x ∧ k < n then mPr M V n k x else W k)
      have d3 := es (fun k => if k < i then mPr M V n k (x + 1) else if 0 < x ∧ k < n then mPr M V n k x else W k)
      generalize h.set w (.inr (0, 5, fun k => if k < i then mPr M V n k (x + 1) else if 0 < x ∧ k < n then mPr M V n k x else W k)) = h1 at c1 c2 c5 d1 d2 d3 ⊢
      have g1 := hb x i (by omega) (by omega)
      have g2 := mSh_b hb hV (show x < 5 by omega) (n - 1) (by omega)
      have g3 := mPr_b hb hV hn (show i < 5 by omega) x (by omega)
      have e1 := s_min (x := mPr M V n i x) (y := mSh M V x (n - 1) + M x i) (h := h1) ⟨by omega, by omega⟩ ⟨by omega, by omega⟩
      have e2 : 0 < x → (if i < i then mPr M V n i (x + 1) else if 0 < x ∧ i < n then mPr M V n i x else W i) = mPr M V n i x := fun q => by simp [q, hi]
      simp only [c1, c2, c4, c5, q_arr d1 (by decide), q_arr d2 (by decide), qS_nop, qS_seq, qS_set, qS_setJ, qS_if, qS_brk, qS_ret, qS_retV, qS_throw, qS_inc, qS_cl, qS_ast, qS_aop, qS_fst, qS_fop, qS_sw, qT_eC, qT_eCB, qT_eL, qT_eLJ, qT_eLR, qT_eLB, qT_e1, qT_e2, qT_bCmp, qT_bCmpJ, qT_bAnd, qT_bOr, qT_bNot, qT_eBI, qT_eIf, qT_eLd, qT_eLdR, qT_eLen, qT_eF, qT_eFR, qT_aN, qT_aS, qT_eCl, qT_eClR, qT_eClB, qT_some, qT_x, z_nx_N, z_nx_B, z_nx_R, z_nx_X, z_bk_N, z_bk_B, z_bk_R, z_bk_X, oAdd, oSub, oMul, oNeg, cLt, cLe, cGt, cGe, cEq, cNe, Option.some.injEq, Sum.inl.injEq, Sum.inr.injEq, Prod.mk.injEq, exists_eq_left, exists_eq_left', exists_eq_right, exists_and_left, reduceCtorEq, and_true, true_and, and_false, false_and, List.getElem?_cons_zero, List.getElem?_cons_succ, List.set_cons_zero, List.set_cons_succ, List.replicate, List.length_cons, List.length_nil, List.cons_append, List.nil_append, Nat.reduceAdd, Nat.reduceSub, decide_eq_true_eq, decide_eq_false_iff_not, Bool.true_eq_false, Bool.false_eq_true, true_implies, false_implies, implies_true, Nat.reduceLT, exists_const, z_vB_inj, and_assoc, z_in_iff, oI2L, oL2I, Int.toNat_natCast, z_toNat0, Bool.not_eq_true', Bool.not_eq_false', ne_eq, Bool.not_true, Bool.not_false, Nat.add_zero, Int.add_zero, z_sl_s]
      refine ⟨by omega, by omega, by omega, by omega, by omega, by omega, by omega, c3, by omega, by omega, by omega, by omega, by omega, by omega, fun q => ⟨by omega, by omega, ?_, _, rfl⟩, fun q => ?_⟩
      · rw [d3, show mSh M V x (n - 1) + M x i = mPr M V n i (x + 1) by rw [mPr, if_pos (show x = 0 by omega)]]
        rw [z_upto (fun k => if 0 < x ∧ k < n then mPr M V n k x else W k) (fun k => mPr M V n k (x + 1)) i]
      · refine ⟨by omega, by omega, ?_⟩
        rw [e2 (by omega)]
        simp only [e1, q_arr d2 (by decide), qS_nop, qS_seq, qS_set, qS_setJ, qS_if, qS_brk, qS_ret, qS_retV, qS_throw, qS_inc, qS_cl, qS_ast, qS_aop, qS_fst, qS_fop, qS_sw, qT_eC, qT_eCB, qT_eL, qT_eLJ, qT_eLR, qT_eLB, qT_e1, qT_e2, qT_bCmp, qT_bCmpJ, qT_bAnd, qT_bOr, qT_bNot, qT_eBI, qT_eIf, qT_eLd, qT_eLdR, qT_eLen, qT_eF, qT_eFR, qT_aN, qT_aS, qT_eCl, qT_eClR, qT_eClB, qT_some, qT_x, z_nx_N, z_nx_B, z_nx_R, z_nx_X, z_bk_N, z_bk_B, z_bk_R, z_bk_X, oAdd, oSub, oMul, oNeg, cLt, cLe, cGt, cGe, cEq, cNe, Option.some.injEq, Sum.inl.injEq, Sum.inr.injEq, Prod.mk.injEq, exists_eq_left, exists_eq_left', exists_eq_right, exists_and_left, reduceCtorEq, and_true, true_and, and_false, false_and, List.getElem?_cons_zero, List.getElem?_cons_succ, List.set_cons_zero, List.set_cons_succ, List.replicate, List.length_cons, List.length_nil, List.cons_append, List.nil_append, Nat.reduceAdd, Nat.reduceSub, decide_eq_true_eq, decide_eq_false_iff_not, Bool.true_eq_false, Bool.false_eq_true, true_implies, false_implies, implies_true, Nat.reduceLT, exists_const, z_vB_inj, and_assoc, z_in_iff, oI2L, oL2I, Int.toNat_natCast, z_toNat0, Bool.not_eq_true', Bool.not_eq_false', ne_eq, Bool.not_true, Bool.not_false, Nat.add_zero, Int.add_zero, z_sl_s]
        refine ⟨by omega, by omega, ?_, _, rfl⟩
        rw [d3, show (if mSh M V x (n - 1) + M x i < mPr M V n i x then mSh M V x (n - 1) + M x i else mPr M V n i x) = mPr M V n i (x + 1) by rw [mPr, if_neg (show ¬ x = 0 by omega)]]
        rw [z_upto (fun k => if 0 < x ∧ k < n then mPr M V n k x else W k) (fun k => mPr M V n k (x + 1)) i]
    · rintro ρ h' ⟨rfl, u, rfl⟩
      simp only [q_obj (a' _).1, qS_nop, qS_seq, qS_set, qS_setJ, qS_if, qS_brk, qS_ret, qS_retV, qS_throw, qS_inc, qS_cl, qS_ast, qS_aop, qS_fst, qS_fop, qS_sw, qT_eC, qT_eCB, qT_eL, qT_eLJ, qT_eLR, qT_eLB, qT_e1, qT_e2, qT_bCmp, qT_bCmpJ, qT_bAnd, qT_bOr, qT_bNot, qT_eBI, qT_eIf, qT_eLd, qT_eLdR, qT_eLen, qT_eF, qT_eFR, qT_aN, qT_aS, qT_eCl, qT_eClR, qT_eClB, qT_some, qT_x, z_nx_N, z_nx_B, z_nx_R, z_nx_X, z_bk_N, z_bk_B, z_bk_R, z_bk_X, oAdd, oSub, oMul, oNeg, cLt, cLe, cGt, cGe, cEq, cNe, Option.some.injEq, Sum.inl.injEq, Sum.inr.injEq, Prod.mk.injEq, exists_eq_left, exists_eq_left', exists_eq_right, exists_and_left, reduceCtorEq, and_true, true_and, and_false, false_and, List.getElem?_cons_zero, List.getElem?_cons_succ, List.set_cons_zero, List.set_cons_succ, List.replicate, List.length_cons, List.length_nil, List.cons_append, List.nil_append, Nat.reduceAdd, Nat.reduceSub, decide_eq_true_eq, decide_eq_false_iff_not, Bool.true_eq_false, Bool.false_eq_true, true_implies, false_implies, implies_true, Nat.reduceLT, exists_const, z_vB_inj, and_assoc, z_in_iff, oI2L, oL2I, Int.toNat_natCast, z_toNat0, Bool.not_eq_true', Bool.not_eq_false', ne_eq, Bool.not_true, Bool.not_false, Nat.add_zero, Int.add_zero, z_sl_s]
      refine ⟨by omega, by omega, by omega, by omega, by omega, ?_, _, _, _, rfl⟩
      congr 4
      funext k
      by_cases hk : k < n <;> simp [hk]
  · rintro ρ h' ⟨rfl, x, y, z, rfl⟩
    have a' := a.out hw hr (.inr (0, 5, fun k => if 0 < n ∧ k < n then mPr M V n k n else W k))
    simp only [q_obj a'.1, qS_nop, qS_seq, qS_set, qS_setJ, qS_if, qS_brk, qS_ret, qS_retV, qS_throw, qS_inc, qS_cl, qS_ast, qS_aop, qS_fst, qS_fop, qS_sw, qT_eC, qT_eCB, qT_eL, qT_eLJ, qT_eLR, qT_eLB, qT_e1, qT_e2, qT_bCmp, qT_bCmpJ, qT_bAnd, qT_bOr, qT_bNot, qT_eBI, qT_eIf, qT_eLd, qT_eLdR, qT_eLen, qT_eF, qT_eFR, qT_aN, qT_aS, qT_eCl, qT_eClR, qT_eClB, qT_some, qT_x, z_nx_N, z_nx_B, z_nx_R, z_nx_X, z_bk_N, z_bk_B, z_bk_R, z_bk_X, oAdd, oSub, oMul, oNeg, cLt, cLe, cGt, cGe, cEq, cNe, Option.some.injEq, Sum.inl.injEq, Sum.inr.injEq, Prod.mk.injEq, exists_eq_left, exists_eq_left', exists_eq_right, exists_and_left, reduceCtorEq, and_true, true_and, and_false, false_and, List.getElem?_cons_zero, List.getElem?_cons_succ, List.set_cons_zero, List.set_cons_succ, List.replicate, List.length_cons, List.length_nil, List.cons_append, List.nil_append, Nat.reduceAdd, Nat.reduceSub, decide_eq_true_eq, decide_eq_false_iff_not, Bool.true_eq_false, Bool.false_eq_true, true_implies, false_implies, implies_true, Nat.reduceLT, exists_const, z_vB_inj, and_assoc, z_in_iff, oI2L, oL2I, Int.toNat_natCast, z_toNat0, Bool.not_eq_true', Bool.not_eq_false', ne_eq, Bool.not_true, Bool.not_false, Nat.add_zero, Int.add_zero, z_sl_s]
    refine ⟨by omega, by omega, by omega, by omega, by omega, ?_⟩
    congr 4
    funext k
    by_cases hk : k < n
    · simp [hk, show 0 < n by omega]
    · simp [hk]
end MT
