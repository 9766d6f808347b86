/-! The reference: ranks -/
def rTp (a b c d r : Int) : Nat → Int := fun v => if v = 0 then r - a - b - c - d else if v = 1 then a else if v = 2 then b else if v = 3 then c else if v = 4 then d else 0
/-- whether what is left is 0 or more -/
def rWn (B : Nat → Nat → Int) (V : Nat → Int) (k a b c d : Nat) : Prop := ∀ x, cLf B (fun v => V v - rTp (a : Int) (b : Int) (c : Int) (d : Int) (k : Int) v) x → 0 ≤ x
noncomputable def rB1 (B : Nat → Nat → Int) (i n : Nat) : Nat := if z_dec (nHv B i) = true then n else 0
theorem z_dec_c (P Q : Prop) (h : P ↔ Q) : z_dec P = z_dec Q := (z_dec_inj P Q).mpr h
theorem qS_step {a b : z_St} {ρ ρ' : List z_V} {h h' : z_Hp} {Q : z_Oc → z_Hp → Prop} (e : a ρ h = some (oN ρ', h')) (K : qS b ρ' h' Q) : qS (sSeq a b) ρ h Q := by
  rw [qS_seq]
  unfold qS
  rw [e]
  exact K
theorem q_bodyZ {S : Nat → Nat → Int} {nL : Nat} {s : z_St} {L : List z_V} {h : z_Hp} {R : z_V → (Nat → Int) → Prop} (H : qS s (L ++ List.replicate (nL - L.length) vU) h (fun oc h1 => ∃ r W, oc = oR (some r) ∧ h1 = k_W (k_u S 100 W) ∧ R r W)) : ∃ r W, z_body nL s L h = some (.inl (some r), k_W (k_u S 100 W)) ∧ R r W := by
  unfold qS at H
  unfold z_body
  generalize s (L ++ List.replicate (nL - L.length) vU) h = w at H ⊢
  rcases w with _ | ⟨oc, h1⟩
  · exact H.elim
  · obtain ⟨r, S', rfl, rfl, hp⟩ := H
    exact ⟨r, S', rfl, hp⟩
section RQ
variable {S : Nat → Nat → Int}
theorem k_st100 {ρ : List z_V} {i : Nat} {v : Int} {X : z_Ev Int} (hρ : ρ[0]? = some (vR 85)) (hi : i < 5) (hx : X ρ (k_W S) = some (.inl v, k_W S)) : sASt 0 (eFR 6 15 (eLR 0)) (eC (i : Int)) X ρ (k_W S) = some (oN ρ, k_W (k_u S 100 (z_up (S 100) i v))) := by
  have e : qT (eFR 6 15 (eLR 0) ρ (k_W S)) (fun w h' => w = 100 ∧ h' = k_W S) (fun _ _ => False) := by
    simp only [hρ, k_v85, k_o85, k_r0, k_r1, k_r2, k_r3, k_r4, k_r5, k_r6, k_r7, k_r8, k_r9, k_r10, k_r11, k_r12, k_r13, k_r14, k_r15, k_r16, k_r17, k_r18, k_rl, k_sc, k_st, k_a86, k_s86, k_a87, k_s87, k_a88, k_s88, k_a89, k_s89, k_a90, k_s90, k_a91, k_s91, k_a92, k_s92, k_a93, k_s93, k_a94, k_s94, k_a95, k_s95, k_a96, k_s96, k_a97, k_s97, k_a98, k_s98, k_a99, k_s99, k_a100, k_s100, k_a101, k_s101, k_a102, k_s102, k_u_s, k_u_n, k_u_u, Nat.reduceEqDiff, not_false_eq_true, qS_nop, qS_seq, qS_set, qS_setJ, qS_if, qS_brk, qS_ret, qS_retV, qS_throw, qS_inc, qS_cl, qS_ast, qS_aop, qS_fst, qS_fop, qS_sw, qT_eC, qT_eCB, qT_eL, qT_eLJ, qT_eLR, qT_eLB, qT_e1, qT_e2, qT_bCmp, qT_bCmpJ, qT_bAnd, qT_bOr, qT_bNot, qT_eBI, qT_eIf, qT_eLd, qT_eLdR, qT_eLen, qT_eF, qT_eFR, qT_aN, qT_aS, qT_eCl, qT_eClR, qT_eClB, qT_some, qT_x, z_nx_N, z_nx_B, z_nx_R, z_nx_X, z_bk_N, z_bk_B, z_bk_R, z_bk_X, oAdd, oSub, oMul, oNeg, cLt, cLe, cGt, cGe, cEq, cNe, Option.some.injEq, Sum.inl.injEq, Sum.inr.injEq, Prod.mk.injEq, exists_eq_left, exists_eq_left', exists_eq_right, exists_and_left, reduceCtorEq, and_true, true_and, and_false, false_and, List.getElem?_cons_zero, List.getElem?_cons_succ, List.set_cons_zero, List.set_cons_succ, List.replicate, List.length_cons, List.length_nil, List.cons_append, List.nil_append, Nat.reduceAdd, Nat.reduceSub, decide_eq_true_eq, decide_eq_false_iff_not, Bool.true_eq_false, Bool.false_eq_true, true_implies, false_implies, implies_true, Nat.reduceLT, exists_const, z_vB_inj, and_assoc, z_in_iff, oI2L, oL2I, Int.toNat_natCast, z_toNat0, Bool.not_eq_true', Bool.not_eq_false', ne_eq, Bool.not_true, Bool.not_false, Nat.add_zero, Int.add_zero, z_sl_s]
  have e1 := qT_to e
  unfold sASt
  rw [e1]
  have e2 : eC (i : Int) ρ (k_W S) = some (.inl (i : Int), k_W S) := rfl
  simp only [z_bindS, e2, hx, k_a100]
  rw [if_pos ⟨by omega, by omega⟩, Int.toNat_natCast, k_s100]
theorem rf_stays (c : cOk (rE S) 0) {a b cc d r : Int} (hb : ∀ v, v < 5 → -126 ≤ S 101 v - rTp a b cc d r v ∧ S 101 v - rTp a b cc d r v ≤ 126) : ∃ W', m_X6_staysWithout [vR 85, vI a, vI b, vI cc, vI d, vI r] (k_W S) = some (.inl (some (vB (z_dec (∀ x, cLf (rE S) (fun v => S 101 v - rTp a b cc d r v) x → 0 ≤ x)))), k_W (k_u S 100 W')) := by
  generalize hWk : z_up (z_up (z_up (z_up (z_up (S 100) 0 (S 101 0 - (r - a - b - cc - d))) 1 (S 101 1 - a)) 2 (S 101 2 - b)) 3 (S 101 3 - cc)) 4 (S 101 4 - d) = Wk
  have e : ∀ v, v < 5 → Wk v = S 101 v - rTp a b cc d r v := fun v hv => by
    rw [← hWk]
    rcases (show v = 0 ∨ v = 1 ∨ v = 2 ∨ v = 3 ∨ v = 4 by omega) with rfl | rfl | rfl | rfl | rfl <;> simp [z_up, rTp]
  obtain ⟨W, m, e1, hi, hm, hr⟩ := rf_reduces (S := k_u S 100 Wk) (q := 0) (by rw [rE_u (by decide)]; exact c) (fun v hv => by rw [k_u_s, e v hv]; exact hb v hv)
  rw [rE_u (by decide), k_u_s] at hi
  rw [rE_u (by decide)] at hr
  rw [k_u_u, Int.natCast_zero] at e1
  have hL : cLf (rE S) (fun v => S 101 v - rTp a b cc d r v) (W 0) := ⟨W, hEq.cg (fun v hv => (e v hv).symm) hi.1, hr, rfl⟩
  have fin : z_dec (∀ x, cLf (rE S) (fun v => S 101 v - rTp a b cc d r v) x → 0 ≤ x) = z_dec (0 ≤ W 0) := z_dec_c _ _ ⟨fun q => q _ hL, fun q x hx => by rw [cLf.un c hx hL]; exact q⟩
  have wb := hi.bd c hm (fun v hv => by rw [e v hv]; exact hb v hv) 0 (by omega)
  rw [fin]
  refine ⟨W, ?_⟩
  unfold m_X6_staysWithout
  rw [k_v85]
  apply q_body
  have b6 : INF = 1000000 := rfl
  have e0 : (0 : Int).toNat = 0 := rfl
  have t1 : (1 : Int).toNat = 1 := rfl
  have t2 : (2 : Int).toNat = 2 := rfl
  have t3 : (3 : Int).toNat = 3 := rfl
  have t4 : (4 : Int).toNat = 4 := rfl
  refine qS_step (k_st100 (i := 0) (v := S 101 0 - (r - a - b - cc - d)) rfl (by omega) (qT_to ?_)) ?_
  · simp only [e0, k_v85, k_o85, k_r0, k_r1, k_r2, k_r3, k_r4, k_r5, k_r6, k_r7, k_r8, k_r9, k_r10, k_r11, k_r12, k_r13, k_r14, k_r15, k_r16, k_r17, k_r18, k_rl, k_sc, k_st, k_a86, k_s86, k_a87, k_s87, k_a88, k_s88, k_a89, k_s89, k_a90, k_s90, k_a91, k_s91, k_a92, k_s92, k_a93, k_s93, k_a94, k_s94, k_a95, k_s95, k_a96, k_s96, k_a97, k_s97, k_a98, k_s98, k_a99, k_s99, k_a100, k_s100, k_a101, k_s101, k_a102, k_s102, k_u_s, k_u_n, k_u_u, Nat.reduceEqDiff, not_false_eq_true, qS_nop, qS_seq, qS_set, qS_setJ, qS_if, qS_brk, qS_ret, qS_retV, qS_throw, qS_inc, qS_cl, qS_ast, qS_aop, qS_fst, qS_fop, qS_sw, qT_eC, qT_eCB, qT_eL, qT_eLJ, qT_eLR, qT_eLB, qT_e1, qT_e2, qT_bCmp, qT_bCmpJ, qT_bAnd, qT_bOr, qT_bNot, qT_eBI, qT_eIf, qT_eLd, qT_eLdR, qT_eLen, qT_eF, qT_eFR, qT_aN, qT_aS, qT_eCl, qT_eClR, qT_eClB, qT_some, qT_x, z_nx_N, z_nx_B, z_nx_R, z_nx_X, z_bk_N, z_bk_B, z_bk_R, z_bk_X, oAdd, oSub, oMul, oNeg, cLt, cLe, cGt, cGe, cEq, cNe, Option.some.injEq, Sum.inl.injEq, Sum.inr.injEq, Prod.mk.injEq, exists_eq_left, exists_eq_left', exists_eq_right, exists_and_left, reduceCtorEq, and_true, true_and, and_false, false_and, List.getElem?_cons_zero, List.getElem?_cons_succ, List.set_cons_zero, List.set_cons_succ, List.replicate, List.length_cons, List.length_nil, List.cons_append, List.nil_append, Nat.reduceAdd, Nat.reduceSub, decide_eq_true_eq, decide_eq_false_iff_not, Bool.true_eq_false, Bool.false_eq_true, true_implies, false_implies, implies_true, Nat.reduceLT, exists_const, z_vB_inj, and_assoc, z_in_iff, oI2L, oL2I, Int.toNat_natCast, z_toNat0, Bool.not_eq_true', Bool.not_eq_false', ne_eq, Bool.not_true, Bool.not_false, Nat.add_zero, Int.add_zero, z_sl_s]
    omega
  refine qS_step (k_st100 (i := 1) (v := S 101 1 - a) rfl (by omega) (qT_to ?_)) ?_
  · simp only [t1, k_v85, k_o85, k_r0, k_r1, k_r2, k_r3, k_r4, k_r5, k_r6, k_r7, k_r8, k_r9, k_r10, k_r11, k_r12, k_r13, k_r14, k_r15, k_r16, k_r17, k_r18, k_rl, k_sc, k_st, k_a86, k_s86, k_a87, k_s87, k_a88, k_s88, k_a89, k_s89, k_a90, k_s90, k_a91, k_s91, k_a92, k_s92, k_a93, k_s93, k_a94, k_s94, k_a95, k_s95, k_a96, k_s96, k_a97, k_s97, k_a98, k_s98, k_a99, k_s99, k_a100, k_s100, k_a101, k_s101, k_a102, k_s102, k_u_s, k_u_n, k_u_u, Nat.reduceEqDiff, not_false_eq_true, qS_nop, qS_seq, qS_set, qS_setJ, qS_if, qS_brk, qS_ret, qS_retV, qS_throw, qS_inc, qS_cl, qS_ast, qS_aop, qS_fst, qS_fop, qS_sw, qT_eC, qT_eCB, qT_eL, qT_eLJ, qT_eLR, qT_eLB, qT_e1, qT_e2, qT_bCmp, qT_bCmpJ, qT_bAnd, qT_bOr, qT_bNot, qT_eBI, qT_eIf, qT_eLd, qT_eLdR, qT_eLen, qT_eF, qT_eFR, qT_aN, qT_aS, qT_eCl, qT_eClR, qT_eClB, qT_some, qT_x, z_nx_N, z_nx_B, z_nx_R, z_nx_X, z_bk_N, z_bk_B, z_bk_R, z_bk_X, oAdd, oSub, oMul, oNeg, cLt, cLe, cGt, cGe, cEq, cNe, Option.some.injEq, Sum.inl.injEq, Sum.inr.injEq, Prod.mk.injEq, exists_eq_left, exists_eq_left', exists_eq_right, exists_and_left, reduceCtorEq, and_true, true_and, and_false, false_and, List.getElem?_cons_zero, List.getElem?_cons_succ, List.set_cons_zero, List.set_cons_succ, List.replicate, List.length_cons, List.length_nil, List.cons_append, List.nil_append, Nat.reduceAdd, Nat.reduceSub, decide_eq_true_eq, decide_eq_false_iff_not, Bool.true_eq_false, Bool.false_eq_true, true_implies, false_implies, implies_true, Nat.reduceLT, exists_const, z_vB_inj, and_assoc, z_in_iff, oI2L, oL2I, Int.toNat_natCast, z_toNat0, Bool.not_eq_true', Bool.not_eq_false', ne_eq, Bool.not_true, Bool.not_false, Nat.add_zero, Int.add_zero, z_sl_s]
    omega
  refine qS_step (k_st100 (i := 2) (v := S 101 2 - b) rfl (by omega) (qT_to ?_)) ?_
  · simp only [t2, k_v85, k_o85, k_r0, k_r1, k_r2, k_r3, k_r4, k_r5, k_r6, k_r7, k_r8, k_r9, k_r10, k_r11, k_r12, k_r13, k_r14, k_r15, k_r16, k_r17, k_r18, k_rl, k_sc, k_st, k_a86, k_s86, k_a87, k_s87, k_a88, k_s88, k_a89, k_s89, k_a90, k_s90, k_a91, k_s91, k_a92, k_s92, k_a93, k_s93, k_a94, k_s94, k_a95, k_s95, k_a96, k_s96, k_a97, k_s97, k_a98, k_s98, k_a99, k_s99, k_a100, k_s100, k_a101, k_s101, k_a102, k_s102, k_u_s, k_u_n, k_u_u, Nat.reduceEqDiff, not_false_eq_true, qS_nop, qS_seq, qS_set, qS_setJ, qS_if, qS_brk, qS_ret, qS_retV, qS_throw, qS_inc, qS_cl, qS_ast, qS_aop, qS_fst, qS_fop, qS_sw, qT_eC, qT_eCB, qT_eL, qT_eLJ, qT_eLR, qT_eLB, qT_e1, qT_e2, qT_bCmp, qT_bCmpJ, qT_bAnd, qT_bOr, qT_bNot, qT_eBI, qT_eIf, qT_eLd, qT_eLdR, qT_eLen, qT_eF, qT_eFR, qT_aN, qT_aS, qT_eCl, qT_eClR, qT_eClB, qT_some, qT_x, z_nx_N, z_nx_B, z_nx_R, z_nx_X, z_bk_N, z_bk_B, z_bk_R, z_bk_X, oAdd, oSub, oMul, oNeg, cLt, cLe, cGt, cGe, cEq, cNe, Option.some.injEq, Sum.inl.injEq, Sum.inr.injEq, Prod.mk.injEq, exists_eq_left, exists_eq_left', exists_eq_right, exists_and_left, reduceCtorEq, and_true, true_and, and_false, false_and, List.getElem?_cons_zero, List.getElem?_cons_succ, List.set_cons_zero, List.set_cons_succ, List.replicate, List.length_cons, List.length_nil, List.cons_append, List.nil_append, Nat.reduceAdd, Nat.reduceSub, decide_eq_true_eq, decide_eq_false_iff_not, Bool.true_eq_false, Bool.false_eq_true, true_implies, false_implies, implies_true, Nat.reduceLT, exists_const, z_vB_inj, and_assoc, z_in_iff, oI2L, oL2I, Int.toNat_natCast, z_toNat0, Bool.not_eq_true', Bool.not_eq_false', ne_eq, Bool.not_true, Bool.not_false, Nat.add_zero, Int.add_zero, z_sl_s]
    omega
  refine qS_step (k_st100 (i := 3) (v := S 101 3 - cc) rfl (by omega) (qT_to ?_)) ?_
  · simp only [t3, k_v85, k_o85, k_r0, k_r1, k_r2, k_r3, k_r4, k_r5, k_r6, k_r7, k_r8, k_r9, k_r10, k_r11, k_r12, k_r13, k_r14, k_r15, k_r16, k_r17, k_r18, k_rl, k_sc, k_st, k_a86, k_s86, k_a87, k_s87, k_a88, k_s88, k_a89, k_s89, k_a90, k_s90, k_a91, k_s91, k_a92, k_s92, k_a93, k_s93, k_a94, k_s94, k_a95, k_s95, k_a96, k_s96, k_a97, k_s97, k_a98, k_s98, k_a99, k_s99, k_a100, k_s100, k_a101, k_s101, k_a102, k_s102, k_u_s, k_u_n, k_u_u, Nat.reduceEqDiff, not_false_eq_true, qS_nop, qS_seq, qS_set, qS_setJ, qS_if, qS_brk, qS_ret, qS_retV, qS_throw, qS_inc, qS_cl, qS_ast, qS_aop, qS_fst, qS_fop, qS_sw, qT_eC, qT_eCB, qT_eL, qT_eLJ, qT_eLR, qT_eLB, qT_e1, qT_e2, qT_bCmp, qT_bCmpJ, qT_bAnd, qT_bOr, qT_bNot, qT_eBI, qT_eIf, qT_eLd, qT_eLdR, qT_eLen, qT_eF, qT_eFR, qT_aN, qT_aS, qT_eCl, qT_eClR, qT_eClB, qT_some, qT_x, z_nx_N, z_nx_B, z_nx_R, z_nx_X, z_bk_N, z_bk_B, z_bk_R, z_bk_X, oAdd, oSub, oMul, oNeg, cLt, cLe, cGt, cGe, cEq, cNe, Option.some.injEq, Sum.inl.injEq, Sum.inr.injEq, Prod.mk.injEq, exists_eq_left, exists_eq_left', exists_eq_right, exists_and_left, reduceCtorEq, and_true, true_and, and_false, false_and, List.getElem?_cons_zero, List.getElem?_cons_succ, List.set_cons_zero, List.set_cons_succ, List.replicate, List.length_cons, List.length_nil, List.cons_append, List.nil_append, Nat.reduceAdd, Nat.reduceSub, decide_eq_true_eq, decide_eq_false_iff_not, Bool.true_eq_false, Bool.false_eq_true, true_implies, false_implies, implies_true, Nat.reduceLT, exists_const, z_vB_inj, and_assoc, z_in_iff, oI2L, oL2I, Int.toNat_natCast, z_toNat0, Bool.not_eq_true', Bool.not_eq_false', ne_eq, Bool.not_true, Bool.not_false, Nat.add_zero, Int.add_zero, z_sl_s]
    omega
  refine qS_step (k_st100 (i := 4) (v := S 101 4 - d) rfl (by omega) (qT_to ?_)) ?_
  · simp only [t4, k_v85, k_o85, k_r0, k_r1, k_r2, k_r3, k_r4, k_r5, k_r6, k_r7, k_r8, k_r9, k_r10, k_r11, k_r12, k_r13, k_r14, k_r15, k_r16, k_r17, k_r18, k_rl, k_sc, k_st, k_a86, k_s86, k_a87, k_s87, k_a88, k_s88, k_a89, k_s89, k_a90, k_s90, k_a91, k_s91, k_a92, k_s92, k_a93, k_s93, k_a94, k_s94, k_a95, k_s95, k_a96, k_s96, k_a97, k_s97, k_a98, k_s98, k_a99, k_s99, k_a100, k_s100, k_a101, k_s101, k_a102, k_s102, k_u_s, k_u_n, k_u_u, Nat.reduceEqDiff, not_false_eq_true, qS_nop, qS_seq, qS_set, qS_setJ, qS_if, qS_brk, qS_ret, qS_retV, qS_throw, qS_inc, qS_cl, qS_ast, qS_aop, qS_fst, qS_fop, qS_sw, qT_eC, qT_eCB, qT_eL, qT_eLJ, qT_eLR, qT_eLB, qT_e1, qT_e2, qT_bCmp, qT_bCmpJ, qT_bAnd, qT_bOr, qT_bNot, qT_eBI, qT_eIf, qT_eLd, qT_eLdR, qT_eLen, qT_eF, qT_eFR, qT_aN, qT_aS, qT_eCl, qT_eClR, qT_eClB, qT_some, qT_x, z_nx_N, z_nx_B, z_nx_R, z_nx_X, z_bk_N, z_bk_B, z_bk_R, z_bk_X, oAdd, oSub, oMul, oNeg, cLt, cLe, cGt, cGe, cEq, cNe, Option.some.injEq, Sum.inl.injEq, Sum.inr.injEq, Prod.mk.injEq, exists_eq_left, exists_eq_left', exists_eq_right, exists_and_left, reduceCtorEq, and_true, true_and, and_false, false_and, List.getElem?_cons_zero, List.getElem?_cons_succ, List.set_cons_zero, List.set_cons_succ, List.replicate, List.length_cons, List.length_nil, List.cons_append, List.nil_append, Nat.reduceAdd, Nat.reduceSub, decide_eq_true_eq, decide_eq_false_iff_not, Bool.true_eq_false, Bool.false_eq_true, true_implies, false_implies, implies_true, Nat.reduceLT, exists_const, z_vB_inj, and_assoc, z_in_iff, oI2L, oL2I, Int.toNat_natCast, z_toNat0, Bool.not_eq_true', Bool.not_eq_false', ne_eq, Bool.not_true, Bool.not_false, Nat.add_zero, Int.add_zero, z_sl_s]
    omega
  simp only [e0, hWk, e1, k_v85, k_o85, k_r0, k_r1, k_r2, k_r3, k_r4, k_r5, k_r6, k_r7, k_r8, k_r9, k_r10, k_r11, k_r12, k_r13, k_r14, k_r15, k_r16, k_r17, k_r18, k_rl, k_sc, k_st, k_a86, k_s86, k_a87, k_s87, k_a88, k_s88, k_a89, k_s89, k_a90, k_s90, k_a91, k_s91, k_a92, k_s92, k_a93, k_s93, k_a94, k_s94, k_a95, k_s95, k_a96, k_s96, k_a97, k_s97, k_a98, k_s98, k_a99, k_s99, k_a100, k_s100, k_a101, k_s101, k_a102, k_s102, k_u_s, k_u_n, k_u_u, Nat.reduceEqDiff, not_false_eq_true, qS_nop, qS_seq, qS_set, qS_setJ, qS_if, qS_brk, qS_ret, qS_retV, qS_throw, qS_inc, qS_cl, qS_ast, qS_aop, qS_fst, qS_fop, qS_sw, qT_eC, qT_eCB, qT_eL, qT_eLJ, qT_eLR, qT_eLB, qT_e1, qT_e2, qT_bCmp, qT_bCmpJ, qT_bAnd, qT_bOr, qT_bNot, qT_eBI, qT_eIf, qT_eLd, qT_eLdR, qT_eLen, qT_eF, qT_eFR, qT_aN, qT_aS, qT_eCl, qT_eClR, qT_eClB, qT_some, qT_x, z_nx_N, z_nx_B, z_nx_R, z_nx_X, z_bk_N, z_bk_B, z_bk_R, z_bk_X, oAdd, oSub, oMul, oNeg, cLt, cLe, cGt, cGe, cEq, cNe, Option.some.injEq, Sum.inl.injEq, Sum.inr.injEq, Prod.mk.injEq, exists_eq_left, exists_eq_left', exists_eq_right, exists_and_left, reduceCtorEq, and_true, true_and, and_false, false_and, List.getElem?_cons_zero, List.getElem?_cons_succ, List.set_cons_zero, List.set_cons_succ, List.replicate, List.length_cons, List.length_nil, List.cons_append, List.nil_append, Nat.reduceAdd, Nat.reduceSub, decide_eq_true_eq, decide_eq_false_iff_not, Bool.true_eq_false, Bool.false_eq_true, true_implies, false_implies, implies_true, Nat.reduceLT, exists_const, z_vB_inj, and_assoc, z_in_iff, oI2L, oL2I, Int.toNat_natCast, z_toNat0, Bool.not_eq_true', Bool.not_eq_false', ne_eq, Bool.not_true, Bool.not_false, Nat.add_zero, Int.add_zero, z_sl_s]
  try simp only [List.cons.injEq, Sum.inl.injEq, Sum.inr.injEq, z_vB_inj, and_true, true_and, exists_eq', exists_eq_left, exists_eq_left', exists_eq_right, exists_eq_right', exists_and_left, exists_and_right, exists_const, if_true, if_false, z_vB1, z_vB0, z_vBP, z_bd, decide_eq_true_eq, decide_eq_false_iff_not, Bool.not_eq_true', Bool.false_eq_true, Bool.true_eq_false, z_dec_iff, z_dec_f, z_dec_inj, true_iff, iff_true, false_iff, iff_false, not_true_eq_false, not_false_eq_true, Classical.not_not]
  omega
theorem rf_hrD (cok : cOk (rE S) 0) {k a b cc : Nat} (hk : k ≤ 8) (habc : a + b + cc ≤ k) (hb : ∀ v, v < 5 → -80 ≤ S 101 v ∧ S 101 v ≤ 113) {P : Prop} {W0 : Nat → Int} {Q : z_Oc → z_Hp → Prop}
    (hQ : ∀ W y, Q (oN [vR 85, vI (k : Int), vB (z_dec (P ∧ ∀ d, d < rB1 (rE S) 4 (k - a - b - cc) + 1 → rWn (rE S) (S 101) k a b cc d)), vI (a : Int), vI (b : Int), vI (cc : Int), y]) (k_W (k_u S 100 W))) :
    qS (sLoop (bAnd (bCmp cLe (eL 6) (eIf (eClB (m_X6_isOf) (aS vI (aS vR (aN) (eLR 0)) (eC 4))) (e2 oSub (e2 oSub (e2 oSub (eL 1) (eL 3)) (eL 4)) (eL 5)) (eC 0))) (eLB 2))
    (sSet vB 2 (eClB (m_X6_staysWithout) (aS vI (aS vI (aS vI (aS vI (aS vI (aS vR (aN) (eLR 0)) (eL 3)) (eL 4)) (eL 5)) (eL 6)) (eL 1))))
    (sInc 6 (1)) z_fuel) [vR 85, vI (k : Int), vB (z_dec P), vI (a : Int), vI (b : Int), vI (cc : Int), vI 0] (k_W (k_u S 100 W0)) Q := by
  have hD : rB1 (rE S) 4 (k - a - b - cc) ≤ k - a - b - cc := by unfold rB1; split <;> omega
  refine qS_wh (fun m ρ h' => ∃ (d : Nat) (W : Nat → Int), h' = k_W (k_u S 100 W) ∧ ρ = [vR 85, vI (k : Int), vB (z_dec (P ∧ ∀ d', d' < d → rWn (rE S) (S 101) k a b cc d')), vI (a : Int), vI (b : Int), vI (cc : Int), vI (d : Int)] ∧ d + m = rB1 (rE S) 4 (k - a - b - cc) + 1) ?_ (rB1 (rE S) 4 (k - a - b - cc) + 1) z_fuel _ _ (z_fuel_lt (by omega)) ⟨0, W0, rfl, ?_, by omega⟩
  · rintro m ρ h' ⟨d, W, rfl, rfl, hm⟩
    have hE : rE (k_u S 100 W) = rE S := rE_u (by decide)
    have e := rf_isOf (S := k_u S 100 W) (v := 4) (by omega) (by rw [hE]; exact cok.1.bd)
    rw [hE] at e
    have e' : ((4 : Nat) : Int) = 4 := rfl
    rw [e'] at e
    have st : d ≤ rB1 (rE S) 4 (k - a - b - cc) → ∃ W', m_X6_staysWithout [vR 85, vI (a : Int), vI (b : Int), vI (cc : Int), vI (d : Int), vI (k : Int)] (k_W (k_u S 100 W)) = some (.inl (some (vB (z_dec (rWn (rE S) (S 101) k a b cc d)))), k_W (k_u S 100 W')) := fun hd => by
      have := rf_stays (S := k_u S 100 W) (by rw [hE]; exact cok) (a := (a : Int)) (b := (b : Int)) (cc := (cc : Int)) (d := (d : Int)) (r := (k : Int)) (fun v hv => by
        rw [k_u_n (by decide)]
        have := hb v hv
        unfold rTp
        (repeat' split) <;> omega)
      rw [hE, k_u_n (by decide)] at this
      obtain ⟨W', e⟩ := this
      rw [k_u_u] at e
      exact ⟨W', e⟩
    have lim : ∀ hv : Bool, z_dec (nHv (rE S) 4) = hv → rB1 (rE S) 4 (k - a - b - cc) = if hv = true then k - a - b - cc else 0 := fun hv e => by unfold rB1; rw [e]
    have body : d ≤ rB1 (rE S) 4 (k - a - b - cc) → z_dec (P ∧ ∀ d', d' < d → rWn (rE S) (S 101) k a b cc d') = true → ∃ m', m = m' + 1 ∧ qT (m_X6_staysWithout [vR 85, vI (a : Int), vI (b : Int), vI (cc : Int), vI (d : Int), vI (k : Int)] (k_W (k_u S 100 W))) (fun r h => ∃ b_1, r = some (vB b_1) ∧ ∃ (d_1 : Nat) (W : Nat → Int), h = k_W (k_u S 100 W) ∧ [vR 85, vI (k : Int), vB b_1, vI (a : Int), vI (b : Int), vI (cc : Int), vI ((d : Int) + 1)] = [vR 85, vI (k : Int), vB (z_dec (P ∧ ∀ d', d' < d_1 → rWn (rE S) (S 101) k a b cc d')), vI (a : Int), vI (b : Int), vI (cc : Int), vI (d_1 : Int)] ∧ d_1 + m' = rB1 (rE S) 4 (k - a - b - cc) + 1) (fun E h => Q (oX E) h) := fun hd ht => by
      refine ⟨m - 1, by omega, (st hd).elim fun W' e => ?_⟩
      rw [e]
      refine ⟨_, rfl, d + 1, W', rfl, ?_, by omega⟩
      rw [z_dec_c (rWn (rE S) (S 101) k a b cc d) (P ∧ ∀ d', d' < d + 1 → rWn (rE S) (S 101) k a b cc d') ⟨fun q => ⟨((z_dec_iff _).mp ht).1, fun d' hd' => by
        rcases Nat.lt_succ_iff_lt_or_eq.mp hd' with l | rfl
        · exact ((z_dec_iff _).mp ht).2 d' l
        · exact q⟩, fun q => q.2 d (by omega)⟩]
      rfl
    have ex1 : ¬ d ≤ rB1 (rE S) 4 (k - a - b - cc) → Q (oN [vR 85, vI (k : Int), vB (z_dec (P ∧ ∀ d', d' < d → rWn (rE S) (S 101) k a b cc d')), vI (a : Int), vI (b : Int), vI (cc : Int), vI (d : Int)]) (k_W (k_u S 100 W)) := fun hd => by
      have := hQ W (vI (d : Int))
      rw [show rB1 (rE S) 4 (k - a - b - cc) + 1 = d by omega] at this
      exact this
    have ex2 : z_dec (P ∧ ∀ d', d' < d → rWn (rE S) (S 101) k a b cc d') = false → Q (oN [vR 85, vI (k : Int), vB (z_dec (P ∧ ∀ d', d' < d → rWn (rE S) (S 101) k a b cc d')), vI (a : Int), vI (b : Int), vI (cc : Int), vI (d : Int)]) (k_W (k_u S 100 W)) := fun hf => by
      have := hQ W (vI (d : Int))
      rw [z_dec_c (P ∧ ∀ d', d' < rB1 (rE S) 4 (k - a - b - cc) + 1 → rWn (rE S) (S 101) k a b cc d') (P ∧ ∀ d', d' < d → rWn (rE S) (S 101) k a b cc d') ⟨fun q => ⟨q.1, fun d' hd' => q.2 d' (by omega)⟩, fun q => absurd q ((z_dec_f _).mp hf)⟩] at this
      exact this
    generalize z_dec (P ∧ ∀ d', d' < d → rWn (rE S) (S 101) k a b cc d') = has at body ex1 ex2 ⊢
    have l1 := lim true
    have l0 := lim false
    simp only [if_true, if_false, Bool.false_eq_true] at l1 l0
    simp only [e, qS_nop, qS_seq, qS_set, qS_setJ, qS_if, qS_brk, qS_ret, qS_retV, qS_throw, qS_inc, qS_cl, qS_ast, qS_aop, qS_fst, qS_fop, qS_sw, qT_eC, qT_eCB, qT_eL, qT_eLJ, qT_eLR, qT_eLB, qT_e1, qT_e2, qT_bCmp, qT_bCmpJ, qT_bAnd, qT_bOr, qT_bNot, qT_eBI, qT_eIf, qT_eLd, qT_eLdR, qT_eLen, qT_eF, qT_eFR, qT_aN, qT_aS, qT_eCl, qT_eClR, qT_eClB, qT_some, qT_x, z_nx_N, z_nx_B, z_nx_R, z_nx_X, z_bk_N, z_bk_B, z_bk_R, z_bk_X, oAdd, oSub, oMul, oNeg, cLt, cLe, cGt, cGe, cEq, cNe, Option.some.injEq, Sum.inl.injEq, Sum.inr.injEq, Prod.mk.injEq, exists_eq_left, exists_eq_left', exists_eq_right, exists_and_left, reduceCtorEq, and_true, true_and, and_false, false_and, List.getElem?_cons_zero, List.getElem?_cons_succ, List.set_cons_zero, List.set_cons_succ, List.replicate, List.length_cons, List.length_nil, List.cons_append, List.nil_append, Nat.reduceAdd, Nat.reduceSub, decide_eq_true_eq, decide_eq_false_iff_not, Bool.true_eq_false, Bool.false_eq_true, true_implies, false_implies, implies_true, Nat.reduceLT, exists_const, z_vB_inj, and_assoc, z_in_iff, oI2L, oL2I, Int.toNat_natCast, z_toNat0, Bool.not_eq_true', Bool.not_eq_false', ne_eq, Bool.not_true, Bool.not_false, Nat.add_zero, Int.add_zero, z_sl_s]
    refine ⟨fun p => ?_, fun p => ?_⟩
    · have l := l1 p
      repeat (refine And.intro (by omega) ?_)
      refine ⟨fun q => ⟨fun w => body (by omega) w, fun w => ex2 w⟩, fun q => ex1 (by omega)⟩
    · have l := l0 p
      repeat (refine And.intro (by omega) ?_)
      refine ⟨fun q => ⟨fun w => body (by omega) w, fun w => ex2 w⟩, fun q => ex1 (by omega)⟩
  · rw [z_dec_c P (P ∧ ∀ d', d' < 0 → rWn (rE S) (S 101) k a b cc d') ⟨fun q => ⟨q, fun d' hd' => absurd hd' (Nat.not_lt_zero d')⟩, fun q => q.1⟩]
    rfl
theorem rf_hrC (cok : cOk (rE S) 0) {k a b : Nat} (hk : k ≤ 8) (hab : a + b ≤ k) (hb : ∀ v, v < 5 → -80 ≤ S 101 v ∧ S 101 v ≤ 113) {P : Prop} {W0 : Nat → Int} {y0 : z_V} {Q : z_Oc → z_Hp → Prop}
    (hQ : ∀ W y0 y1, Q (oN [vR 85, vI (k : Int), vB (z_dec (P ∧ ∀ c, c < rB1 (rE S) 3 (k - a - b) + 1 → ∀ d, d < rB1 (rE S) 4 (k - a - b - c) + 1 → rWn (rE S) (S 101) k a b c d)), vI (a : Int), vI (b : Int), y0, y1]) (k_W (k_u S 100 W))) :
    qS (sLoop (bCmp cLe (eL 5) (eIf (eClB (m_X6_isOf) (aS vI (aS vR (aN) (eLR 0)) (eC 3))) (e2 oSub (e2 oSub (eL 1) (eL 3)) (eL 4)) (eC 0)))
    (sSeq (sSet vI 6 (eC 0)) (sLoop (bAnd (bCmp cLe (eL 6) (eIf (eClB (m_X6_isOf) (aS vI (aS vR (aN) (eLR 0)) (eC 4))) (e2 oSub (e2 oSub (e2 oSub (eL 1) (eL 3)) (eL 4)) (eL 5)) (eC 0))) (eLB 2))
    (sSet vB 2 (eClB (m_X6_staysWithout) (aS vI (aS vI (aS vI (aS vI (aS vI (aS vR (aN) (eLR 0)) (eL 3)) (eL 4)) (eL 5)) (eL 6)) (eL 1))))
    (sInc 6 (1)) z_fuel))
    (sInc 5 (1)) z_fuel) [vR 85, vI (k : Int), vB (z_dec (P)), vI (a : Int), vI (b : Int), vI 0, y0] (k_W (k_u S 100 W0)) Q := by
  have hD : rB1 (rE S) 3 (k - a - b) ≤ k - a - b := by unfold rB1; split <;> omega
  have lim : ∀ hv : Bool, z_dec (nHv (rE S) 3) = hv → rB1 (rE S) 3 (k - a - b) = if hv = true then k - a - b else 0 := fun hv e => by unfold rB1; rw [e]
  have l1 := lim true
  have l0 := lim false
  simp only [if_true, if_false, Bool.false_eq_true] at l1 l0
  refine qS_loop (fun x ρ h' => ∃ (W : Nat → Int) (y : z_V), h' = k_W (k_u S 100 W) ∧ ρ = [vR 85, vI (k : Int), vB (z_dec (P ∧ ∀ c, c < x → ∀ d, d < rB1 (rE S) 4 (k - a - b - c) + 1 → rWn (rE S) (S 101) k a b c d)), vI (a : Int), vI (b : Int), vI (x : Int), y]) (rB1 (rE S) 3 (k - a - b) + 1) ?_ ?_ (rB1 (rE S) 3 (k - a - b) + 1) 0 z_fuel _ _ (by omega) (z_fuel_lt (by omega)) ⟨W0, y0, rfl, ?_⟩
  · rintro x ρ h' hx ⟨W, y, rfl, rfl⟩
    have hE : rE (k_u S 100 W) = rE S := rE_u (by decide)
    have e := rf_isOf (S := k_u S 100 W) (v := 3) (by omega) (by rw [hE]; exact cok.1.bd)
    rw [hE] at e
    have e' : ((3 : Nat) : Int) = 3 := rfl
    rw [e'] at e
    simp only [e, qS_nop, qS_seq, qS_set, qS_setJ, qS_if, qS_brk, qS_ret, qS_retV, qS_throw, qS_inc, qS_cl, qS_ast, qS_aop, qS_fst, qS_fop, qS_sw, qT_eC, qT_eCB, qT_eL, qT_eLJ, qT_eLR, qT_eLB, qT_e1, qT_e2, qT_bCmp, qT_bCmpJ, qT_bAnd, qT_bOr, qT_bNot, qT_eBI, qT_eIf, qT_eLd, qT_eLdR, qT_eLen, qT_eF, qT_eFR, qT_aN, qT_aS, qT_eCl, qT_eClR, qT_eClB, qT_some, qT_x, z_nx_N, z_nx_B, z_nx_R, z_nx_X, z_bk_N, z_bk_B, z_bk_R, z_bk_X, oAdd, oSub, oMul, oNeg, cLt, cLe, cGt, cGe, cEq, cNe, Option.some.injEq, Sum.inl.injEq, Sum.inr.injEq, Prod.mk.injEq, exists_eq_left, exists_eq_left', exists_eq_right, exists_and_left, reduceCtorEq, and_true, true_and, and_false, false_and, List.getElem?_cons_zero, List.getElem?_cons_succ, List.set_cons_zero, List.set_cons_succ, List.replicate, List.length_cons, List.length_nil, List.cons_append, List.nil_append, Nat.reduceAdd, Nat.reduceSub, decide_eq_true_eq, decide_eq_false_iff_not, Bool.true_eq_false, Bool.false_eq_true, true_implies, false_implies, implies_true, Nat.reduceLT, exists_const, z_vB_inj, and_assoc, z_in_iff, oI2L, oL2I, Int.toNat_natCast, z_toNat0, Bool.not_eq_true', Bool.not_eq_false', ne_eq, Bool.not_true, Bool.not_false, Nat.add_zero, Int.add_zero, z_sl_s]
    have nx : ∀ (W : Nat → Int) (y : z_V), ∃ (W_1 : Nat → Int), k_W (k_u S 100 W) = k_W (k_u S 100 W_1) ∧ ∃ y_1, [vR 85, vI (k : Int), vB (z_dec (P ∧ (∀ c, c < x → ∀ d, d < rB1 (rE S) 4 (k - a - b - c) + 1 → rWn (rE S) (S 101) k a b c d) ∧ ∀ d, d < rB1 (rE S) 4 (k - a - b - x) + 1 → rWn (rE S) (S 101) k a b x d)), vI (a : Int), vI (b : Int), vI ((x : Int) + 1), y] = [vR 85, vI (k : Int), vB (z_dec (P ∧ ∀ c, c < x + 1 → ∀ d, d < rB1 (rE S) 4 (k - a - b - c) + 1 → rWn (rE S) (S 101) k a b c d)), vI (a : Int), vI (b : Int), vI ((x + 1 : Nat) : Int), y_1] := fun W y => by
      refine ⟨W, rfl, y, ?_⟩
      rw [z_dec_c _ (P ∧ ∀ c, c < x + 1 → ∀ d, d < rB1 (rE S) 4 (k - a - b - c) + 1 → rWn (rE S) (S 101) k a b c d) ⟨fun q => ⟨q.1, fun c hc => by
        rcases Nat.lt_succ_iff_lt_or_eq.mp hc with l | rfl
        · exact q.2.1 c l
        · exact q.2.2⟩, fun q => ⟨q.1, fun c hc => q.2 c (by omega), q.2 x (by omega)⟩⟩]
      rfl
    refine ⟨fun p => ?_, fun p => ?_⟩
    · have l := l1 p
      repeat (refine And.intro (by omega) ?_)
      refine rf_hrD cok hk (a := a) (b := b) (cc := x) (by omega) hb (fun W y => ?_)
      simp only [qS_nop, qS_seq, qS_set, qS_setJ, qS_if, qS_brk, qS_ret, qS_retV, qS_throw, qS_inc, qS_cl, qS_ast, qS_aop, qS_fst, qS_fop, qS_sw, qT_eC, qT_eCB, qT_eL, qT_eLJ, qT_eLR, qT_eLB, qT_e1, qT_e2, qT_bCmp, qT_bCmpJ, qT_bAnd, qT_bOr, qT_bNot, qT_eBI, qT_eIf, qT_eLd, qT_eLdR, qT_eLen, qT_eF, qT_eFR, qT_aN, qT_aS, qT_eCl, qT_eClR, qT_eClB, qT_some, qT_x, z_nx_N, z_nx_B, z_nx_R, z_nx_X, z_bk_N, z_bk_B, z_bk_R, z_bk_X, oAdd, oSub, oMul, oNeg, cLt, cLe, cGt, cGe, cEq, cNe, Option.some.injEq, Sum.inl.injEq, Sum.inr.injEq, Prod.mk.injEq, exists_eq_left, exists_eq_left', exists_eq_right, exists_and_left, reduceCtorEq, and_true, true_and, and_false, false_and, List.getElem?_cons_zero, List.getElem?_cons_succ, List.set_cons_zero, List.set_cons_succ, List.replicate, List.length_cons, List.length_nil, List.cons_append, List.nil_append, Nat.reduceAdd, Nat.reduceSub, decide_eq_true_eq, decide_eq_false_iff_not, Bool.true_eq_false, Bool.false_eq_true, true_implies, false_implies, implies_true, Nat.reduceLT, exists_const, z_vB_inj, and_assoc, z_in_iff, oI2L, oL2I, Int.toNat_natCast, z_toNat0, Bool.not_eq_true', Bool.not_eq_false', ne_eq, Bool.not_true, Bool.not_false, Nat.add_zero, Int.add_zero, z_sl_s]
      exact nx W y
    · have l := l0 p
      repeat (refine And.intro (by omega) ?_)
      refine rf_hrD cok hk (a := a) (b := b) (cc := x) (by omega) hb (fun W y => ?_)
      simp only [qS_nop, qS_seq, qS_set, qS_setJ, qS_if, qS_brk, qS_ret, qS_retV, qS_throw, qS_inc, qS_cl, qS_ast, qS_aop, qS_fst, qS_fop, qS_sw, qT_eC, qT_eCB, qT_eL, qT_eLJ, qT_eLR, qT_eLB, qT_e1, qT_e2, qT_bCmp, qT_bCmpJ, qT_bAnd, qT_bOr, qT_bNot, qT_eBI, qT_eIf, qT_eLd, qT_eLdR, qT_eLen, qT_eF, qT_eFR, qT_aN, qT_aS, qT_eCl, qT_eClR, qT_eClB, qT_some, qT_x, z_nx_N, z_nx_B, z_nx_R, z_nx_X, z_bk_N, z_bk_B, z_bk_R, z_bk_X, oAdd, oSub, oMul, oNeg, cLt, cLe, cGt, cGe, cEq, cNe, Option.some.injEq, Sum.inl.injEq, Sum.inr.injEq, Prod.mk.injEq, exists_eq_left, exists_eq_left', exists_eq_right, exists_and_left, reduceCtorEq, and_true, true_and, and_false, false_and, List.getElem?_cons_zero, List.getElem?_cons_succ, List.set_cons_zero, List.set_cons_succ, List.replicate, List.length_cons, List.length_nil, List.cons_append, List.nil_append, Nat.reduceAdd, Nat.reduceSub, decide_eq_true_eq, decide_eq_false_iff_not, Bool.true_eq_false, Bool.false_eq_true, true_implies, false_implies, implies_true, Nat.reduceLT, exists_const, z_vB_inj, and_assoc, z_in_iff, oI2L, oL2I, Int.toNat_natCast, z_toNat0, Bool.not_eq_true', Bool.not_eq_false', ne_eq, Bool.not_true, Bool.not_false, Nat.add_zero, Int.add_zero, z_sl_s]
      exact nx W y
  · rintro ρ h' ⟨W, y, rfl, rfl⟩
    have hE : rE (k_u S 100 W) = rE S := rE_u (by decide)
    have e := rf_isOf (S := k_u S 100 W) (v := 3) (by omega) (by rw [hE]; exact cok.1.bd)
    rw [hE] at e
    have e' : ((3 : Nat) : Int) = 3 := rfl
    rw [e'] at e
    have hq := hQ W (vI ((rB1 (rE S) 3 (k - a - b) + 1 : Nat) : Int)) y
    generalize z_dec (P ∧ ∀ c, c < rB1 (rE S) 3 (k - a - b) + 1 → ∀ d, d < rB1 (rE S) 4 (k - a - b - c) + 1 → rWn (rE S) (S 101) k a b c d) = has at hq ⊢
    simp only [e, qS_nop, qS_seq, qS_set, qS_setJ, qS_if, qS_brk, qS_ret, qS_retV, qS_throw, qS_inc, qS_cl, qS_ast, qS_aop, qS_fst, qS_fop, qS_sw, qT_eC, qT_eCB, qT_eL, qT_eLJ, qT_eLR, qT_eLB, qT_e1, qT_e2, qT_bCmp, qT_bCmpJ, qT_bAnd, qT_bOr, qT_bNot, qT_eBI, qT_eIf, qT_eLd, qT_eLdR, qT_eLen, qT_eF, qT_eFR, qT_aN, qT_aS, qT_eCl, qT_eClR, qT_eClB, qT_some, qT_x, z_nx_N, z_nx_B, z_nx_R, z_nx_X, z_bk_N, z_bk_B, z_bk_R, z_bk_X, oAdd, oSub, oMul, oNeg, cLt, cLe, cGt, cGe, cEq, cNe, Option.some.injEq, Sum.inl.injEq, Sum.inr.injEq, Prod.mk.injEq, exists_eq_left, exists_eq_left', exists_eq_right, exists_and_left, reduceCtorEq, and_true, true_and, and_false, false_and, List.getElem?_cons_zero, List.getElem?_cons_succ, List.set_cons_zero, List.set_cons_succ, List.replicate, List.length_cons, List.length_nil, List.cons_append, List.nil_append, Nat.reduceAdd, Nat.reduceSub, decide_eq_true_eq, decide_eq_false_iff_not, Bool.true_eq_false, Bool.false_eq_true, true_implies, false_implies, implies_true, Nat.reduceLT, exists_const, z_vB_inj, and_assoc, z_in_iff, oI2L, oL2I, Int.toNat_natCast, z_toNat0, Bool.not_eq_true', Bool.not_eq_false', ne_eq, Bool.not_true, Bool.not_false, Nat.add_zero, Int.add_zero, z_sl_s]
    refine ⟨fun p => ?_, fun p => ?_⟩
    · have l := l1 p
      repeat (refine And.intro (by omega) ?_)
      exact hq
    · have l := l0 p
      repeat (refine And.intro (by omega) ?_)
      exact hq
  · rw [z_dec_c P (P ∧ ∀ c, c < 0 → ∀ d, d < rB1 (rE S) 4 (k - a - b - c) + 1 → rWn (rE S) (S 101) k a b c d) ⟨fun q => ⟨q, fun d' hd' => absurd hd' (Nat.not_lt_zero d')⟩, fun q => q.1⟩]
    rfl
theorem rf_hrB (cok : cOk (rE S) 0) {k a : Nat} (hk : k ≤ 8) (ha : a ≤ k) (hb : ∀ v, v < 5 → -80 ≤ S 101 v ∧ S 101 v ≤ 113) {P : Prop} {W0 : Nat → Int} {y0 z0 : z_V} {Q : z_Oc → z_Hp → Prop}
    (hQ : ∀ W y0 y1 y2, Q (oN [vR 85, vI (k : Int), vB (z_dec (P ∧ ∀ b, b < rB1 (rE S) 2 (k - a) + 1 → ∀ c, c < rB1 (rE S) 3 (k - a - b) + 1 → ∀ d, d < rB1 (rE S) 4 (k - a - b - c) + 1 → rWn (rE S) (S 101) k a b c d)), vI (a : Int), y0, y1, y2]) (k_W (k_u S 100 W))) :
    qS (sLoop (bCmp cLe (eL 4) (eIf (eClB (m_X6_isOf) (aS vI (aS vR (aN) (eLR 0)) (eC 2))) (e2 oSub (eL 1) (eL 3)) (eC 0)))
    (sSeq (sSet vI 5 (eC 0)) (sLoop (bCmp cLe (eL 5) (eIf (eClB (m_X6_isOf) (aS vI (aS vR (aN) (eLR 0)) (eC 3))) (e2 oSub (e2 oSub (eL 1) (eL 3)) (eL 4)) (eC 0)))
    (sSeq (sSet vI 6 (eC 0)) (sLoop (bAnd (bCmp cLe (eL 6) (eIf (eClB (m_X6_isOf) (aS vI (aS vR (aN) (eLR 0)) (eC 4))) (e2 oSub (e2 oSub (e2 oSub (eL 1) (eL 3)) (eL 4)) (eL 5)) (eC 0))) (eLB 2))
    (sSet vB 2 (eClB (m_X6_staysWithout) (aS vI (aS vI (aS vI (aS vI (aS vI (aS vR (aN) (eLR 0)) (eL 3)) (eL 4)) (eL 5)) (eL 6)) (eL 1))))
    (sInc 6 (1)) z_fuel))
    (sInc 5 (1)) z_fuel))
    (sInc 4 (1)) z_fuel) [vR 85, vI (k : Int), vB (z_dec (P)), vI (a : Int), vI 0, y0, z0] (k_W (k_u S 100 W0)) Q := by
  have hD : rB1 (rE S) 2 (k - a) ≤ k - a := by unfold rB1; split <;> omega
  have lim : ∀ hv : Bool, z_dec (nHv (rE S) 2) = hv → rB1 (rE S) 2 (k - a) = if hv = true then k - a else 0 := fun hv e => by unfold rB1; rw [e]
  have l1 := lim true
  have l0 := lim false
  simp only [if_true, if_false, Bool.false_eq_true] at l1 l0
  refine qS_loop (fun x ρ h' => ∃ (W : Nat → Int) (y z : z_V), h' = k_W (k_u S 100 W) ∧ ρ = [vR 85, vI (k : Int), vB (z_dec (P ∧ ∀ b, b < x → ∀ c, c < rB1 (rE S) 3 (k - a - b) + 1 → ∀ d, d < rB1 (rE S) 4 (k - a - b - c) + 1 → rWn (rE S) (S 101) k a b c d)), vI (a : Int), vI (x : Int), y, z]) (rB1 (rE S) 2 (k - a) + 1) ?_ ?_ (rB1 (rE S) 2 (k - a) + 1) 0 z_fuel _ _ (by omega) (z_fuel_lt (by omega)) ⟨W0, y0, z0, rfl, ?_⟩
  · rintro x ρ h' hx ⟨W, y, z, rfl, rfl⟩
    have hE : rE (k_u S 100 W) = rE S := rE_u (by decide)
    have e := rf_isOf (S := k_u S 100 W) (v := 2) (by omega) (by rw [hE]; exact cok.1.bd)
    rw [hE] at e
    have e' : ((2 : Nat) : Int) = 2 := rfl
    rw [e'] at e
    simp only [e, qS_nop, qS_seq, qS_set, qS_setJ, qS_if, qS_brk, qS_ret, qS_retV, qS_throw, qS_inc, qS_cl, qS_ast, qS_aop, qS_fst, qS_fop, qS_sw, qT_eC, qT_eCB, qT_eL, qT_eLJ, qT_eLR, qT_eLB, qT_e1, qT_e2, qT_bCmp, qT_bCmpJ, qT_bAnd, qT_bOr, qT_bNot, qT_eBI, qT_eIf, qT_eLd, qT_eLdR, qT_eLen, qT_eF, qT_eFR, qT_aN, qT_aS, qT_eCl, qT_eClR, qT_eClB, qT_some, qT_x, z_nx_N, z_nx_B, z_nx_R, z_nx_X, z_bk_N, z_bk_B, z_bk_R, z_bk_X, oAdd, oSub, oMul, oNeg, cLt, cLe, cGt, cGe, cEq, cNe, Option.some.injEq, Sum.inl.injEq, Sum.inr.injEq, Prod.mk.injEq, exists_eq_left, exists_eq_left', exists_eq_right, exists_and_left, reduceCtorEq, and_true, true_and, and_false, false_and, List.getElem?_cons_zero, List.getElem?_cons_succ, List.set_cons_zero, List.set_cons_succ, List.replicate, List.length_cons, List.length_nil, List.cons_append, List.nil_append, Nat.reduceAdd, Nat.reduceSub, decide_eq_true_eq, decide_eq_false_iff_not, Bool.true_eq_false, Bool.false_eq_true, true_implies, false_implies, implies_true, Nat.reduceLT, exists_const, z_vB_inj, and_assoc, z_in_iff, oI2L, oL2I, Int.toNat_natCast, z_toNat0, Bool.not_eq_true', Bool.not_eq_false', ne_eq, Bool.not_true, Bool.not_false, Nat.add_zero, Int.add_zero, z_sl_s]
    have nx : ∀ (W : Nat → Int) (y z : z_V), ∃ (W_1 : Nat → Int), k_W (k_u S 100 W) = k_W (k_u S 100 W_1) ∧ ∃ y_1 z_1, [vR 85, vI (k : Int), vB (z_dec (P ∧ (∀ b, b < x → ∀ c, c < rB1 (rE S) 3 (k - a - b) + 1 → ∀ d, d < rB1 (rE S) 4 (k - a - b - c) + 1 → rWn (rE S) (S 101) k a b c d) ∧ ∀ c, c < rB1 (rE S) 3 (k - a - x) + 1 → ∀ d, d < rB1 (rE S) 4 (k - a - x - c) + 1 → rWn (rE S) (S 101) k a x c d)), vI (a : Int), vI ((x : Int) + 1), y, z] = [vR 85, vI (k : Int), vB (z_dec (P ∧ ∀ b, b < x + 1 → ∀ c, c < rB1 (rE S) 3 (k - a - b) + 1 → ∀ d, d < rB1 (rE S) 4 (k - a - b - c) + 1 → rWn (rE S) (S 101) k a b c d)), vI (a : Int), vI ((x + 1 : Nat) : Int), y_1, z_1] := fun W y z => by
      refine ⟨W, rfl, y, z, ?_⟩
      rw [z_dec_c _ (P ∧ ∀ b, b < x + 1 → ∀ c, c < rB1 (rE S) 3 (k - a - b) + 1 → ∀ d, d < rB1 (rE S) 4 (k - a - b - c) + 1 → rWn (rE S) (S 101) k a b c d) ⟨fun q => ⟨q.1, fun c hc => by
        rcases Nat.lt_succ_iff_lt_or_eq.mp hc with l | rfl
        · exact q.2.1 c l
        · exact q.2.2⟩, fun q => ⟨q.1, fun c hc => q.2 c (by omega), q.2 x (by omega)⟩⟩]
      rfl
    refine ⟨fun p => ?_, fun p => ?_⟩
    · have l := l1 p
      repeat (refine And.intro (by omega) ?_)
      refine rf_hrC cok hk (a := a) (b := x) (by omega) hb (fun W y z => ?_)
      simp only [qS_nop, qS_seq, qS_set, qS_setJ, qS_if, qS_brk, qS_ret, qS_retV, qS_throw, qS_inc, qS_cl, qS_ast, qS_aop, qS_fst, qS_fop, qS_sw, qT_eC, qT_eCB, qT_eL, qT_eLJ, qT_eLR, qT_eLB, qT_e1, qT_e2, qT_bCmp, qT_bCmpJ, qT_bAnd, qT_bOr, qT_bNot, qT_eBI, qT_eIf, qT_eLd, qT_eLdR, qT_eLen, qT_eF, qT_eFR, qT_aN, qT_aS, qT_eCl, qT_eClR, qT_eClB, qT_some, qT_x, z_nx_N, z_nx_B, z_nx_R, z_nx_X, z_bk_N, z_bk_B, z_bk_R, z_bk_X, oAdd, oSub, oMul, oNeg, cLt, cLe, cGt, cGe, cEq, cNe, Option.some.injEq, Sum.inl.injEq, Sum.inr.injEq, Prod.mk.injEq, exists_eq_left, exists_eq_left', exists_eq_right, exists_and_left, reduceCtorEq, and_true, true_and, and_false, false_and, List.getElem?_cons_zero, List.getElem?_cons_succ, List.set_cons_zero, List.set_cons_succ, List.replicate, List.length_cons, List.length_nil, List.cons_append, List.nil_append, Nat.reduceAdd, Nat.reduceSub, decide_eq_true_eq, decide_eq_false_iff_not, Bool.true_eq_false, Bool.false_eq_true, true_implies, false_implies, implies_true, Nat.reduceLT, exists_const, z_vB_inj, and_assoc, z_in_iff, oI2L, oL2I, Int.toNat_natCast, z_toNat0, Bool.not_eq_true', Bool.not_eq_false', ne_eq, Bool.not_true, Bool.not_false, Nat.add_zero, Int.add_zero, z_sl_s]
      exact nx W y z
    · have l := l0 p
      repeat (refine And.intro (by omega) ?_)
      refine rf_hrC cok hk (a := a) (b := x) (by omega) hb (fun W y z => ?_)
      simp only [qS_nop, qS_seq, qS_set, qS_setJ, qS_if, qS_brk, qS_ret, qS_retV, qS_throw, qS_inc, qS_cl, qS_ast, qS_aop, qS_fst, qS_fop, qS_sw, qT_eC, qT_eCB, qT_eL, qT_eLJ, qT_eLR, qT_eLB, qT_e1, qT_e2, qT_bCmp, qT_bCmpJ, qT_bAnd, qT_bOr, qT_bNot, qT_eBI, qT_eIf, qT_eLd, qT_eLdR, qT_eLen, qT_eF, qT_eFR, qT_aN, qT_aS, qT_eCl, qT_eClR, qT_eClB, qT_some, qT_x, z_nx_N, z_nx_B, z_nx_R, z_nx_X, z_bk_N, z_bk_B, z_bk_R, z_bk_X, oAdd, oSub, oMul, oNeg, cLt, cLe, cGt, cGe, cEq, cNe, Option.some.injEq, Sum.inl.injEq, Sum.inr.injEq, Prod.mk.injEq, exists_eq_left, exists_eq_left', exists_eq_right, exists_and_left, reduceCtorEq, and_true, true_and, and_false, false_and, List.getElem?_cons_zero, List.getElem?_cons_succ, List.set_cons_zero, List.set_cons_succ, List.replicate, List.length_cons, List.length_nil, List.cons_append, List.nil_append, Nat.reduceAdd, Nat.reduceSub, decide_eq_true_eq, decide_eq_false_iff_not, Bool.true_eq_false, Bool.false_eq_true, true_implies, false_implies, implies_true, Nat.reduceLT, exists_const, z_vB_inj, and_assoc, z_in_iff, oI2L, oL2I, Int.toNat_natCast, z_toNat0, Bool.not_eq_true', Bool.not_eq_false', ne_eq, Bool.not_true, Bool.not_false, Nat.add_zero, Int.add_zero, z_sl_s]
      exact nx W y z
  · rintro ρ h' ⟨W, y, z, rfl, rfl⟩
    have hE : rE (k_u S 100 W) = rE S := rE_u (by decide)
    have e := rf_isOf (S := k_u S 100 W) (v := 2) (by omega) (by rw [hE]; exact cok.1.bd)
    rw [hE] at e
    have e' : ((2 : Nat) : Int) = 2 := rfl
    rw [e'] at e
    have hq := hQ W (vI ((rB1 (rE S) 2 (k - a) + 1 : Nat) : Int)) y z
    generalize z_dec (P ∧ ∀ b, b < rB1 (rE S) 2 (k - a) + 1 → ∀ c, c < rB1 (rE S) 3 (k - a - b) + 1 → ∀ d, d < rB1 (rE S) 4 (k - a - b - c) + 1 → rWn (rE S) (S 101) k a b c d) = has at hq ⊢
    simp only [e, qS_nop, qS_seq, qS_set, qS_setJ, qS_if, qS_brk, qS_ret, qS_retV, qS_throw, qS_inc, qS_cl, qS_ast, qS_aop, qS_fst, qS_fop, qS_sw, qT_eC, qT_eCB, qT_eL, qT_eLJ, qT_eLR, qT_eLB, qT_e1, qT_e2, qT_bCmp, qT_bCmpJ, qT_bAnd, qT_bOr, qT_bNot, qT_eBI, qT_eIf, qT_eLd, qT_eLdR, qT_eLen, qT_eF, qT_eFR, qT_aN, qT_aS, qT_eCl, qT_eClR, qT_eClB, qT_some, qT_x, z_nx_N, z_nx_B, z_nx_R, z_nx_X, z_bk_N, z_bk_B, z_bk_R, z_bk_X, oAdd, oSub, oMul, oNeg, cLt, cLe, cGt, cGe, cEq, cNe, Option.some.injEq, Sum.inl.injEq, Sum.inr.injEq, Prod.mk.injEq, exists_eq_left, exists_eq_left', exists_eq_right, exists_and_left, reduceCtorEq, and_true, true_and, and_false, false_and, List.getElem?_cons_zero, List.getElem?_cons_succ, List.set_cons_zero, List.set_cons_succ, List.replicate, List.length_cons, List.length_nil, List.cons_append, List.nil_append, Nat.reduceAdd, Nat.reduceSub, decide_eq_true_eq, decide_eq_false_iff_not, Bool.true_eq_false, Bool.false_eq_true, true_implies, false_implies, implies_true, Nat.reduceLT, exists_const, z_vB_inj, and_assoc, z_in_iff, oI2L, oL2I, Int.toNat_natCast, z_toNat0, Bool.not_eq_true', Bool.not_eq_false', ne_eq, Bool.not_true, Bool.not_false, Nat.add_zero, Int.add_zero, z_sl_s]
    refine ⟨fun p => ?_, fun p => ?_⟩
    · have l := l1 p
      repeat (refine And.intro (by omega) ?_)
      exact hq
    · have l := l0 p
      repeat (refine And.intro (by omega) ?_)
      exact hq
  · rw [z_dec_c P (P ∧ ∀ b, b < 0 → ∀ c, c < rB1 (rE S) 3 (k - a - b) + 1 → ∀ d, d < rB1 (rE S) 4 (k - a - b - c) + 1 → rWn (rE S) (S 101) k a b c d) ⟨fun q => ⟨q, fun d' hd' => absurd hd' (Nat.not_lt_zero d')⟩, fun q => q.1⟩]
    rfl
theorem rf_hrA (cok : cOk (rE S) 0) {k : Nat} (hk : k ≤ 8) (hb : ∀ v, v < 5 → -80 ≤ S 101 v ∧ S 101 v ≤ 113) {P : Prop} {W0 : Nat → Int} {y0 z0 w0 : z_V} {Q : z_Oc → z_Hp → Prop}
    (hQ : ∀ W y0 y1 y2 y3, Q (oN [vR 85, vI (k : Int), vB (z_dec (P ∧ ∀ a, a < rB1 (rE S) 1 (k) + 1 → ∀ b, b < rB1 (rE S) 2 (k - a) + 1 → ∀ c, c < rB1 (rE S) 3 (k - a - b) + 1 → ∀ d, d < rB1 (rE S) 4 (k - a - b - c) + 1 → rWn (rE S) (S 101) k a b c d)), y0, y1, y2, y3]) (k_W (k_u S 100 W))) :
    qS (sLoop (bCmp cLe (eL 3) (eIf (eClB (m_X6_isOf) (aS vI (aS vR (aN) (eLR 0)) (eC 1))) (eL 1) (eC 0)))
    (sSeq (sSet vI 4 (eC 0)) (sLoop (bCmp cLe (eL 4) (eIf (eClB (m_X6_isOf) (aS vI (aS vR (aN) (eLR 0)) (eC 2))) (e2 oSub (eL 1) (eL 3)) (eC 0)))
    (sSeq (sSet vI 5 (eC 0)) (sLoop (bCmp cLe (eL 5) (eIf (eClB (m_X6_isOf) (aS vI (aS vR (aN) (eLR 0)) (eC 3))) (e2 oSub (e2 oSub (eL 1) (eL 3)) (eL 4)) (eC 0)))
    (sSeq (sSet vI 6 (eC 0)) (sLoop (bAnd (bCmp cLe (eL 6) (eIf (eClB (m_X6_isOf) (aS vI (aS vR (aN) (eLR 0)) (eC 4))) (e2 oSub (e2 oSub (e2 oSub (eL 1) (eL 3)) (eL 4)) (eL 5)) (eC 0))) (eLB 2))
    (sSet vB 2 (eClB (m_X6_staysWithout) (aS vI (aS vI (aS vI (aS vI (aS vI (aS vR (aN) (eLR 0)) (eL 3)) (eL 4)) (eL 5)) (eL 6)) (eL 1))))
    (sInc 6 (1)) z_fuel))
    (sInc 5 (1)) z_fuel))
    (sInc 4 (1)) z_fuel))
    (sInc 3 (1)) z_fuel) [vR 85, vI (k : Int), vB (z_dec (P)), vI 0, y0, z0, w0] (k_W (k_u S 100 W0)) Q := by
  have hD : rB1 (rE S) 1 (k) ≤ k := by unfold rB1; split <;> omega
  have lim : ∀ hv : Bool, z_dec (nHv (rE S) 1) = hv → rB1 (rE S) 1 (k) = if hv = true then k else 0 := fun hv e => by unfold rB1; rw [e]
  have l1 := lim true
  have l0 := lim false
  simp only [if_true, if_false, Bool.false_eq_true] at l1 l0
  refine qS_loop (fun x ρ h' => ∃ (W : Nat → Int) (y z w : z_V), h' = k_W (k_u S 100 W) ∧ ρ = [vR 85, vI (k : Int), vB (z_dec (P ∧ ∀ a, a < x → ∀ b, b < rB1 (rE S) 2 (k - a) + 1 → ∀ c, c < rB1 (rE S) 3 (k - a - b) + 1 → ∀ d, d < rB1 (rE S) 4 (k - a - b - c) + 1 → rWn (rE S) (S 101) k a b c d)), vI (x : Int), y, z, w]) (rB1 (rE S) 1 (k) + 1) ?_ ?_ (rB1 (rE S) 1 (k) + 1) 0 z_fuel _ _ (by omega) (z_fuel_lt (by omega)) ⟨W0, y0, z0, w0, rfl, ?_⟩
  · rintro x ρ h' hx ⟨W, y, z, w, rfl, rfl⟩
    have hE : rE (k_u S 100 W) = rE S := rE_u (by decide)
    have e := rf_isOf (S := k_u S 100 W) (v := 1) (by omega) (by rw [hE]; exact cok.1.bd)
    rw [hE] at e
    have e' : ((1 : Nat) : Int) = 1 := rfl
    rw [e'] at e
    simp only [e, qS_nop, qS_seq, qS_set, qS_setJ, qS_if, qS_brk, qS_ret, qS_retV, qS_throw, qS_inc, qS_cl, qS_ast, qS_aop, qS_fst, qS_fop, qS_sw, qT_eC, qT_eCB, qT_eL, qT_eLJ, qT_eLR, qT_eLB, qT_e1, qT_e2, qT_bCmp, qT_bCmpJ, qT_bAnd, qT_bOr, qT_bNot, qT_eBI, qT_eIf, qT_eLd, qT_eLdR, qT_eLen, qT_eF, qT_eFR, qT_aN, qT_aS, qT_eCl, qT_eClR, qT_eClB, qT_some, qT_x, z_nx_N, z_nx_B, z_nx_R, z_nx_X, z_bk_N, z_bk_B, z_bk_R, z_bk_X, oAdd, oSub, oMul, oNeg, cLt, cLe, cGt, cGe, cEq, cNe, Option.some.injEq, Sum.inl.injEq, Sum.inr.injEq, Prod.mk.injEq, exists_eq_left, exists_eq_left', exists_eq_right, exists_and_left, reduceCtorEq, and_true, true_and, and_false, false_and, List.getElem?_cons_zero, List.getElem?_cons_succ, List.set_cons_zero, List.set_cons_succ, List.replicate, List.length_cons, List.length_nil, List.cons_append, List.nil_append, Nat.reduceAdd, Nat.reduceSub, decide_eq_true_eq, decide_eq_false_iff_not, Bool.true_eq_false, Bool.false_eq_true, true_implies, false_implies, implies_true, Nat.reduceLT, exists_const, z_vB_inj, and_assoc, z_in_iff, oI2L, oL2I, Int.toNat_natCast, z_toNat0, Bool.not_eq_true', Bool.not_eq_false', ne_eq, Bool.not_true, Bool.not_false, Nat.add_zero, Int.add_zero, z_sl_s]
    have nx : ∀ (W : Nat → Int) (y z w : z_V), ∃ (W_1 : Nat → Int), k_W (k_u S 100 W) = k_W (k_u S 100 W_1) ∧ ∃ y_1 z_1 w_1, [vR 85, vI (k : Int), vB (z_dec (P ∧ (∀ a, a < x → ∀ b, b < rB1 (rE S) 2 (k - a) + 1 → ∀ c, c < rB1 (rE S) 3 (k - a - b) + 1 → ∀ d, d < rB1 (rE S) 4 (k - a - b - c) + 1 → rWn (rE S) (S 101) k a b c d) ∧ ∀ b, b < rB1 (rE S) 2 (k - x) + 1 → ∀ c, c < rB1 (rE S) 3 (k - x - b) + 1 → ∀ d, d < rB1 (rE S) 4 (k - x - b - c) + 1 → rWn (rE S) (S 101) k x b c d)), vI ((x : Int) + 1), y, z, w] = [vR 85, vI (k : Int), vB (z_dec (P ∧ ∀ a, a < x + 1 → ∀ b, b < rB1 (rE S) 2 (k - a) + 1 → ∀ c, c < rB1 (rE S) 3 (k - a - b) + 1 → ∀ d, d < rB1 (rE S) 4 (k - a - b - c) + 1 → rWn (rE S) (S 101) k a b c d)), vI ((x + 1 : Nat) : Int), y_1, z_1, w_1] := fun W y z w => by
      refine ⟨W, rfl, y, z, w, ?_⟩
      rw [z_dec_c _ (P ∧ ∀ a, a < x + 1 → ∀ b, b < rB1 (rE S) 2 (k - a) + 1 → ∀ c, c < rB1 (rE S) 3 (k - a - b) + 1 → ∀ d, d < rB1 (rE S) 4 (k - a - b - c) + 1 → rWn (rE S) (S 101) k a b c d) ⟨fun q => ⟨q.1, fun c hc => by
        rcases Nat.lt_succ_iff_lt_or_eq.mp hc with l | rfl
        · exact q.2.1 c l
        · exact q.2.2⟩, fun q => ⟨q.1, fun c hc => q.2 c (by omega), q.2 x (by omega)⟩⟩]
      rfl
    refine ⟨fun p => ?_, fun p => ?_⟩
    · have l := l1 p
      repeat (refine And.intro (by omega) ?_)
      refine rf_hrB cok hk (a := x) (by omega) hb (fun W y z w => ?_)
      simp only [qS_nop, qS_seq, qS_set, qS_setJ, qS_if, qS_brk, qS_ret, qS_retV, qS_throw, qS_inc, qS_cl, qS_ast, qS_aop, qS_fst, qS_fop, qS_sw, qT_eC, qT_eCB, qT_eL, qT_eLJ, qT_eLR, qT_eLB, qT_e1, qT_e2, qT_bCmp, qT_bCmpJ, qT_bAnd, qT_bOr, qT_bNot, qT_eBI, qT_eIf, qT_eLd, qT_eLdR, qT_eLen, qT_eF, qT_eFR, qT_aN, qT_aS, qT_eCl, qT_eClR, qT_eClB, qT_some, qT_x, z_nx_N, z_nx_B, z_nx_R, z_nx_X, z_bk_N, z_bk_B, z_bk_R, z_bk_X, oAdd, oSub, oMul, oNeg, cLt, cLe, cGt, cGe, cEq, cNe, Option.some.injEq, Sum.inl.injEq, Sum.inr.injEq, Prod.mk.injEq, exists_eq_left, exists_eq_left', exists_eq_right, exists_and_left, reduceCtorEq, and_true, true_and, and_false, false_and, List.getElem?_cons_zero, List.getElem?_cons_succ, List.set_cons_zero, List.set_cons_succ, List.replicate, List.length_cons, List.length_nil, List.cons_append, List.nil_append, Nat.reduceAdd, Nat.reduceSub, decide_eq_true_eq, decide_eq_false_iff_not, Bool.true_eq_false, Bool.false_eq_true, true_implies, false_implies, implies_true, Nat.reduceLT, exists_const, z_vB_inj, and_assoc, z_in_iff, oI2L, oL2I, Int.toNat_natCast, z_toNat0, Bool.not_eq_true', Bool.not_eq_false', ne_eq, Bool.not_true, Bool.not_false, Nat.add_zero, Int.add_zero, z_sl_s]
      exact nx W y z w
    · have l := l0 p
      repeat (refine And.intro (by omega) ?_)
      refine rf_hrB cok hk (a := x) (by omega) hb (fun W y z w => ?_)
      simp only [qS_nop, qS_seq, qS_set, qS_setJ, qS_if, qS_brk, qS_ret, qS_retV, qS_throw, qS_inc, qS_cl, qS_ast, qS_aop, qS_fst, qS_fop, qS_sw, qT_eC, qT_eCB, qT_eL, qT_eLJ, qT_eLR, qT_eLB, qT_e1, qT_e2, qT_bCmp, qT_bCmpJ, qT_bAnd, qT_bOr, qT_bNot, qT_eBI, qT_eIf, qT_eLd, qT_eLdR, qT_eLen, qT_eF, qT_eFR, qT_aN, qT_aS, qT_eCl, qT_eClR, qT_eClB, qT_some, qT_x, z_nx_N, z_nx_B, z_nx_R, z_nx_X, z_bk_N, z_bk_B, z_bk_R, z_bk_X, oAdd, oSub, oMul, oNeg, cLt, cLe, cGt, cGe, cEq, cNe, Option.some.injEq, Sum.inl.injEq, Sum.inr.injEq, Prod.mk.injEq, exists_eq_left, exists_eq_left', exists_eq_right, exists_and_left, reduceCtorEq, and_true, true_and, and_false, false_and, List.getElem?_cons_zero, List.getElem?_cons_succ, List.set_cons_zero, List.set_cons_succ, List.replicate, List.length_cons, List.length_nil, List.cons_append, List.nil_append, Nat.reduceAdd, Nat.reduceSub, decide_eq_true_eq, decide_eq_false_iff_not, Bool.true_eq_false, Bool.false_eq_true, true_implies, false_implies, implies_true, Nat.reduceLT, exists_const, z_vB_inj, and_assoc, z_in_iff, oI2L, oL2I, Int.toNat_natCast, z_toNat0, Bool.not_eq_true', Bool.not_eq_false', ne_eq, Bool.not_true, Bool.not_false, Nat.add_zero, Int.add_zero, z_sl_s]
      exact nx W y z w
  · rintro ρ h' ⟨W, y, z, w, rfl, rfl⟩
    have hE : rE (k_u S 100 W) = rE S := rE_u (by decide)
    have e := rf_isOf (S := k_u S 100 W) (v := 1) (by omega) (by rw [hE]; exact cok.1.bd)
    rw [hE] at e
    have e' : ((1 : Nat) : Int) = 1 := rfl
    rw [e'] at e
    have hq := hQ W (vI ((rB1 (rE S) 1 (k) + 1 : Nat) : Int)) y z w
    generalize z_dec (P ∧ ∀ a, a < rB1 (rE S) 1 (k) + 1 → ∀ b, b < rB1 (rE S) 2 (k - a) + 1 → ∀ c, c < rB1 (rE S) 3 (k - a - b) + 1 → ∀ d, d < rB1 (rE S) 4 (k - a - b - c) + 1 → rWn (rE S) (S 101) k a b c d) = has at hq ⊢
    simp only [e, qS_nop, qS_seq, qS_set, qS_setJ, qS_if, qS_brk, qS_ret, qS_retV, qS_throw, qS_inc, qS_cl, qS_ast, qS_aop, qS_fst, qS_fop, qS_sw, qT_eC, qT_eCB, qT_eL, qT_eLJ, qT_eLR, qT_eLB, qT_e1, qT_e2, qT_bCmp, qT_bCmpJ, qT_bAnd, qT_bOr, qT_bNot, qT_eBI, qT_eIf, qT_eLd, qT_eLdR, qT_eLen, qT_eF, qT_eFR, qT_aN, qT_aS, qT_eCl, qT_eClR, qT_eClB, qT_some, qT_x, z_nx_N, z_nx_B, z_nx_R, z_nx_X, z_bk_N, z_bk_B, z_bk_R, z_bk_X, oAdd, oSub, oMul, oNeg, cLt, cLe, cGt, cGe, cEq, cNe, Option.some.injEq, Sum.inl.injEq, Sum.inr.injEq, Prod.mk.injEq, exists_eq_left, exists_eq_left', exists_eq_right, exists_and_left, reduceCtorEq, and_true, true_and, and_false, false_and, List.getElem?_cons_zero, List.getElem?_cons_succ, List.set_cons_zero, List.set_cons_succ, List.replicate, List.length_cons, List.length_nil, List.cons_append, List.nil_append, Nat.reduceAdd, Nat.reduceSub, decide_eq_true_eq, decide_eq_false_iff_not, Bool.true_eq_false, Bool.false_eq_true, true_implies, false_implies, implies_true, Nat.reduceLT, exists_const, z_vB_inj, and_assoc, z_in_iff, oI2L, oL2I, Int.toNat_natCast, z_toNat0, Bool.not_eq_true', Bool.not_eq_false', ne_eq, Bool.not_true, Bool.not_false, Nat.add_zero, Int.add_zero, z_sl_s]
    refine ⟨fun p => ?_, fun p => ?_⟩
    · have l := l1 p
      repeat (refine And.intro (by omega) ?_)
      exact hq
    · have l := l0 p
      repeat (refine And.intro (by omega) ?_)
      exact hq
  · rw [z_dec_c P (P ∧ ∀ a, a < 0 → ∀ b, b < rB1 (rE S) 2 (k - a) + 1 → ∀ c, c < rB1 (rE S) 3 (k - a - b) + 1 → ∀ d, d < rB1 (rE S) 4 (k - a - b - c) + 1 → rWn (rE S) (S 101) k a b c d) ⟨fun q => ⟨q, fun d' hd' => absurd hd' (Nat.not_lt_zero d')⟩, fun q => q.1⟩]
    rfl
/-- whether so many may be taken -/
def rHr (B : Nat → Nat → Int) (V : Nat → Int) (k : Nat) : Prop := ∀ a, a < rB1 B 1 k + 1 → ∀ b, b < rB1 B 2 (k - a) + 1 → ∀ c, c < rB1 B 3 (k - a - b) + 1 → ∀ d, d < rB1 B 4 (k - a - b - c) + 1 → rWn B V k a b c d
theorem rf_hasRank (cok : cOk (rE S) 0) {k : Nat} (hk : k ≤ 8) (hb : ∀ v, v < 5 → -80 ≤ S 101 v ∧ S 101 v ≤ 113) : ∃ W, m_X6_hasRank [vR 85, vI (k : Int)] (k_W S) = some (.inl (some (vB (z_dec (rHr (rE S) (S 101) k)))), k_W (k_u S 100 W)) := by
  unfold m_X6_hasRank
  rw [k_v85]
  refine q_bodyZ (R := fun r W => r = vB (z_dec (rHr (rE S) (S 101) k))) ?_ |>.elim fun r h => h.elim fun W h => ⟨W, by rw [h.1, h.2]⟩
  simp only [b_X6_hasRank, qS_nop, qS_seq, qS_set, qS_setJ, qS_if, qS_brk, qS_ret, qS_retV, qS_throw, qS_inc, qS_cl, qS_ast, qS_aop, qS_fst, qS_fop, qS_sw, qT_eC, qT_eCB, qT_eL, qT_eLJ, qT_eLR, qT_eLB, qT_e1, qT_e2, qT_bCmp, qT_bCmpJ, qT_bAnd, qT_bOr, qT_bNot, qT_eBI, qT_eIf, qT_eLd, qT_eLdR, qT_eLen, qT_eF, qT_eFR, qT_aN, qT_aS, qT_eCl, qT_eClR, qT_eClB, qT_some, qT_x, z_nx_N, z_nx_B, z_nx_R, z_nx_X, z_bk_N, z_bk_B, z_bk_R, z_bk_X, oAdd, oSub, oMul, oNeg, cLt, cLe, cGt, cGe, cEq, cNe, Option.some.injEq, Sum.inl.injEq, Sum.inr.injEq, Prod.mk.injEq, exists_eq_left, exists_eq_left', exists_eq_right, exists_and_left, reduceCtorEq, and_true, true_and, and_false, false_and, List.getElem?_cons_zero, List.getElem?_cons_succ, List.set_cons_zero, List.set_cons_succ, List.replicate, List.length_cons, List.length_nil, List.cons_append, List.nil_append, Nat.reduceAdd, Nat.reduceSub, decide_eq_true_eq, decide_eq_false_iff_not, Bool.true_eq_false, Bool.false_eq_true, true_implies, false_implies, implies_true, Nat.reduceLT, exists_const, z_vB_inj, and_assoc, z_in_iff, oI2L, oL2I, Int.toNat_natCast, z_toNat0, Bool.not_eq_true', Bool.not_eq_false', ne_eq, Bool.not_true, Bool.not_false, Nat.add_zero, Int.add_zero, z_sl_s]
  have Sid : k_W S = k_W (k_u S 100 (S 100)) := by rw [k_u_id]
  rw [Sid, show (vB true : z_V) = vB (z_dec True) by rw [z_dec_t]]
  refine rf_hrA cok hk hb (fun W y0 y1 y2 y3 => ?_)
  simp only [qS_nop, qS_seq, qS_set, qS_setJ, qS_if, qS_brk, qS_ret, qS_retV, qS_throw, qS_inc, qS_cl, qS_ast, qS_aop, qS_fst, qS_fop, qS_sw, qT_eC, qT_eCB, qT_eL, qT_eLJ, qT_eLR, qT_eLB, qT_e1, qT_e2, qT_bCmp, qT_bCmpJ, qT_bAnd, qT_bOr, qT_bNot, qT_eBI, qT_eIf, qT_eLd, qT_eLdR, qT_eLen, qT_eF, qT_eFR, qT_aN, qT_aS, qT_eCl, qT_eClR, qT_eClB, qT_some, qT_x, z_nx_N, z_nx_B, z_nx_R, z_nx_X, z_bk_N, z_bk_B, z_bk_R, z_bk_X, oAdd, oSub, oMul, oNeg, cLt, cLe, cGt, cGe, cEq, cNe, Option.some.injEq, Sum.inl.injEq, Sum.inr.injEq, Prod.mk.injEq, exists_eq_left, exists_eq_left', exists_eq_right, exists_and_left, reduceCtorEq, and_true, true_and, and_false, false_and, List.getElem?_cons_zero, List.getElem?_cons_succ, List.set_cons_zero, List.set_cons_succ, List.replicate, List.length_cons, List.length_nil, List.cons_append, List.nil_append, Nat.reduceAdd, Nat.reduceSub, decide_eq_true_eq, decide_eq_false_iff_not, Bool.true_eq_false, Bool.false_eq_true, true_implies, false_implies, implies_true, Nat.reduceLT, exists_const, z_vB_inj, and_assoc, z_in_iff, oI2L, oL2I, Int.toNat_natCast, z_toNat0, Bool.not_eq_true', Bool.not_eq_false', ne_eq, Bool.not_true, Bool.not_false, Nat.add_zero, Int.add_zero, z_sl_s]
  exact ⟨W, rfl, rfl⟩
end RQ
