/-! The reference: the rank -/
def rAf (a b c d : Nat) : Nat → Int := fun v => if v = 1 then (a : Int) else if v = 2 then (b : Int) else if v = 3 then (c : Int) else if v = 4 then (d : Int) else 0
theorem rAf_s (a b c d : Nat) : s5 (rAf a b c d) = (a : Int) + b + c + d := by
  simp only [s5, rAf]
  simp
theorem rB1_n {B : Nat → Nat → Int} {i n : Nat} : (rB1 B i n ≤ n) ∧ (¬ nHv B i → rB1 B i n = 0) ∧ (nHv B i → rB1 B i n = n) := by
  unfold rB1
  by_cases h : nHv B i
  · rw [if_pos ((z_dec_iff _).mpr h)]
    exact ⟨Nat.le_refl _, fun w => absurd h w, fun _ => rfl⟩
  · rw [if_neg (fun w => h ((z_dec_iff _).mp w))]
    exact ⟨Nat.zero_le _, fun _ => rfl, fun w => absurd w h⟩
theorem rHr_iff {B : Nat → Nat → Int} {V : Nat → Int} {k : Nat} (hk : k ≤ 8) : rHr B V k ↔ ∀ a x, aOk B 1 0 a → cLf B (fun v => V v - a v) x → (k : Int) ≤ cVl 0 a x := by
  constructor
  · intro H a x ha hl
    have sa := s5_nn ha.1
    rcases Int.lt_or_le (k : Int) (s5 a) with l | l
    · unfold cVl
      split <;> omega
    · have p1 := ha.1 1 (by omega)
      have p2 := ha.1 2 (by omega)
      have p3 := ha.1 3 (by omega)
      have p4 := ha.1 4 (by omega)
      have p0 := ha.2.1 0 (by omega) (by omega)
      have es : s5 a = a 0 + a 1 + a 2 + a 3 + a 4 := rfl
      have n1 := rB1_n (B := B) (i := 1) (n := k)
      have n2 := rB1_n (B := B) (i := 2) (n := k - (a 1).toNat)
      have n3 := rB1_n (B := B) (i := 3) (n := k - (a 1).toNat - (a 2).toNat)
      have n4 := rB1_n (B := B) (i := 4) (n := k - (a 1).toNat - (a 2).toNat - (a 3).toNat)
      have q1 : (a 1).toNat < rB1 B 1 k + 1 := by
        by_cases h : nHv B 1
        · rw [n1.2.2 h]; omega
        · have := ha.2.2.1 1 (by omega) h; omega
      have q2 : (a 2).toNat < rB1 B 2 (k - (a 1).toNat) + 1 := by
        by_cases h : nHv B 2
        · rw [n2.2.2 h]; omega
        · have := ha.2.2.1 2 (by omega) h; omega
      have q3 : (a 3).toNat < rB1 B 3 (k - (a 1).toNat - (a 2).toNat) + 1 := by
        by_cases h : nHv B 3
        · rw [n3.2.2 h]; omega
        · have := ha.2.2.1 3 (by omega) h; omega
      have q4 : (a 4).toNat < rB1 B 4 (k - (a 1).toNat - (a 2).toNat - (a 3).toNat) + 1 := by
        by_cases h : nHv B 4
        · rw [n4.2.2 h]; omega
        · have := ha.2.2.1 4 (by omega) h; omega
      have w := H _ q1 _ q2 _ q3 _ q4
      have w2 := w (x - ((k : Int) - s5 a)) (cLf.cg (fun v hv => by
        unfold rTp
        rcases (show v = 0 ∨ v = 1 ∨ v = 2 ∨ v = 3 ∨ v = 4 by omega) with rfl | rfl | rfl | rfl | rfl <;> simp <;> omega) (hl.at0 ((k : Int) - s5 a)))
      unfold cVl
      split <;> omega
  · intro H a ha b hb c hc d hd x hl
    have n1 := rB1_n (B := B) (i := 1) (n := k)
    have n2 := rB1_n (B := B) (i := 2) (n := k - a)
    have n3 := rB1_n (B := B) (i := 3) (n := k - a - b)
    have n4 := rB1_n (B := B) (i := 4) (n := k - a - b - c)
    have sa := rAf_s a b c d
    have ok : aOk B 1 0 (rAf a b c d) := by
      refine ⟨fun v hv => ?_, fun v hv h1 => ?_, fun v hv hn => ?_, by omega⟩
      · unfold rAf
        (repeat' split) <;> omega
      · rw [show v = 0 by omega]
        rfl
      · rcases (show v = 0 ∨ v = 1 ∨ v = 2 ∨ v = 3 ∨ v = 4 by omega) with rfl | rfl | rfl | rfl | rfl
        · rfl
        · have := n1.2.1 hn
          show (a : Int) = 0
          omega
        · have := n2.2.1 hn
          show (b : Int) = 0
          omega
        · have := n3.2.1 hn
          show (c : Int) = 0
          omega
        · have := n4.2.1 hn
          show (d : Int) = 0
          omega
    have w := H (rAf a b c d) (x + ((k : Int) - s5 (rAf a b c d))) ok (by
      have t := hl.at0 (-((k : Int) - s5 (rAf a b c d)))
      rw [show x - -((k : Int) - s5 (rAf a b c d)) = x + ((k : Int) - s5 (rAf a b c d)) by omega] at t
      refine t.cg (fun v hv => ?_)
      rw [sa]
      unfold rTp rAf
      rcases (show v = 0 ∨ v = 1 ∨ v = 2 ∨ v = 3 ∨ v = 4 by omega) with rfl | rfl | rfl | rfl | rfl <;> simp <;> omega)
    unfold cVl at w
    split at w <;> omega
section RQ2
variable {S : Nat → Nat → Int}
theorem rf_rankOfBase (cok : cOk (rE S) 0) (hV : nVb (S 101) 113) (hd : nDg (rE S) (S 101) 5 ≤ 8) (hz : ∀ v, v < 5 → ¬ nHv (rE S) v → S 101 v = 0) : ∃ r S', m_X6_rankOfBase [vR 85] (k_W S) = some (.inl (some (vI r)), k_W S') ∧ ((∀ x, x ≠ 100 → x ≠ 101 → S' x = S x) ∧ ∀ r0, rkOf (rE S) (S 101) r0 → r = r0) := by
  have e1 := rf_degreeOfBase (S := S) cok.1.bd
  have red := rf_reduces (S := k_u S 100 (z_to 5 (S 101) (S 100))) (q := 0) (by rw [rE_u (by decide)]; exact cok) (fun v hv => by
    rw [k_u_s, z_to_lt hv]
    have := hV v hv
    omega)
  rw [rE_u (by decide), k_u_s] at red
  obtain ⟨W, m, e2, hi, hm, hr⟩ := red
  rw [k_u_u, Int.natCast_zero] at e2
  have hE : hEq (rE S) (S 101) W := hEq.cg (fun v hv => (z_to_lt hv).symm) hi.1
  have dW : nDg (rE S) W 5 = nDg (rE S) (S 101) 5 := nDg_eq cok.1 hE
  have hzz := hr.z cok.1
  have iso : ∀ v, v < 5 → ¬ nHv (rE S) v → W v = 0 := fun v hv hn => by rw [hi.2.2.2.2 v hv hn, z_to_lt hv]; exact hz v hv hn
  have eS3 : ∀ f g, rE (k_u (k_u S 100 f) 101 g) = rE S := fun f g => (rE_u (by decide)).trans (rE_u (by decide))
  have dlo : -20000000 ≤ nDg (rE S) (S 101) 5 := by
    have := nDg_b (B := rE S) (b := 113) (by decide) hV 5 (by omega)
    omega
  have hr1 : ∀ (W2 : Nat → Int) (k : Nat), 0 ≤ nDg (rE S) (S 101) 5 → k ≤ 8 → ∃ W', m_X6_hasRank [vR 85, vI (k : Int)] (k_W (k_u (k_u S 100 W2) 101 (z_to 5 W (S 101)))) = some (.inl (some (vB (z_dec (∀ a x, aOk (rE S) 1 0 a → cLf (rE S) (fun v => W v - a v) x → (k : Int) ≤ cVl 0 a x)))), k_W (k_u (k_u S 100 W') 101 (z_to 5 W (S 101)))) := fun W2 k h0 hk => by
    have bW : ∀ v, v < 5 → -80 ≤ W v ∧ W v ≤ 113 := fun v hv => by
      by_cases hv0 : v = 0
      · subst hv0; omega
      · by_cases hn : nHv (rE S) v
        · have := hr.1 v hv hv0 hn
          have := hr.hi cok.1 hv hv0 hn
          omega
        · rw [iso v hv hn]; omega
    have h := rf_hasRank (S := k_u (k_u S 100 W2) 101 (z_to 5 W (S 101))) (by rw [eS3]; exact cok) hk (fun v hv => by rw [k_u_s, z_to_lt hv]; exact bW v hv)
    rw [eS3, k_u_s] at h
    obtain ⟨W', e⟩ := h
    refine ⟨W', ?_⟩
    rw [e, k_u_c (show 101 ≠ 100 by decide), k_u_u, z_dec_c _ _ (rHr_iff hk)]
    rw [z_dec_c (∀ a x, aOk (rE S) 1 0 a → cLf (rE S) (fun v => z_to 5 W (S 101) v - a v) x → (k : Int) ≤ cVl 0 a x) (∀ a x, aOk (rE S) 1 0 a → cLf (rE S) (fun v => W v - a v) x → (k : Int) ≤ cVl 0 a x) ⟨fun q a x ha hl => q a x ha (hl.cg (fun v hv => by rw [z_to_lt hv])), fun q a x ha hl => q a x ha (hl.cg (fun v hv => by rw [z_to_lt hv]))⟩]
  have fin : ∀ r, -1 ≤ r → (∀ a x, aOk (rE S) 1 0 a → cLf (rE S) (fun v => W v - a v) x → r ≤ cVl 0 a x) → ((nDg (rE S) W 5 < 0 ∧ r = -1) ∨ r = nDg (rE S) W 5 ∨ ∃ a x, aOk (rE S) 1 0 a ∧ cLf (rE S) (fun v => W v - a v) x ∧ cVl 0 a x < r + 1) → ∀ r0, rkOf (rE S) (S 101) r0 → r = r0 := fun r h1 h2 h3 r0 h0 => rkOf.rf cok h0 hE hr h1 h2 h3
  unfold m_X6_rankOfBase
  rw [k_v85]
  apply q_bodyY
  simp only [b_X6_rankOfBase, e1, qS_nop, qS_seq, qS_set, qS_setJ, qS_if, qS_brk, qS_ret, qS_retV, qS_throw, qS_inc, qS_cl, qS_ast, qS_aop, qS_fst, qS_fop, qS_sw, qT_eC, qT_eCB, qT_eL, qT_eLJ, qT_eLR, qT_eLB, qT_e1, qT_e2, qT_bCmp, qT_bCmpJ, qT_bAnd, qT_bOr, qT_bNot, qT_eBI, qT_eIf, qT_eLd, qT_eLdR, qT_eLen, qT_eF, qT_eFR, qT_aN, qT_aS, qT_eCl, qT_eClR, qT_eClB, qT_some, qT_x, z_nx_N, z_nx_B, z_nx_R, z_nx_X, z_bk_N, z_bk_B, z_bk_R, z_bk_X, oAdd, oSub, oMul, oNeg, cLt, cLe, cGt, cGe, cEq, cNe, Option.some.injEq, Sum.inl.injEq, Sum.inr.injEq, Prod.mk.injEq, exists_eq_left, exists_eq_left', exists_eq_right, exists_and_left, reduceCtorEq, and_true, true_and, and_false, false_and, List.getElem?_cons_zero, List.getElem?_cons_succ, List.set_cons_zero, List.set_cons_succ, List.replicate, List.length_cons, List.length_nil, List.cons_append, List.nil_append, Nat.reduceAdd, Nat.reduceSub, decide_eq_true_eq, decide_eq_false_iff_not, Bool.true_eq_false, Bool.false_eq_true, true_implies, false_implies, implies_true, Nat.reduceLT, exists_const, z_vB_inj, and_assoc, z_in_iff, oI2L, oL2I, Int.toNat_natCast, z_toNat0, Bool.not_eq_true', Bool.not_eq_false', ne_eq, Bool.not_true, Bool.not_false, Nat.add_zero, Int.add_zero, z_sl_s]
  refine qS_for (fun k => [vR 85, vI (nDg (rE S) (S 101) 5), vI (k : Int)]) (fun k => k_W (k_u S 100 (z_to k (S 101) (S 100)))) (fun _ => True) 5 rfl (by rw [z_to_0, k_u_id]) trivial (by omega) ?_ ?_
  · intro k hk _
    have z := z_to_s k (S 101) (S 100)
    simp only [z, k_v85, k_o85, k_r0, k_r1, k_r2, k_r3, k_r4, k_r5, k_r6, k_r7, k_r8, k_r9, k_r10, k_r11, k_r12, k_r13, k_r14, k_r15, k_r16, k_r17, k_r18, k_rl, k_sc, k_st, k_a86, k_s86, k_a87, k_s87, k_a88, k_s88, k_a89, k_s89, k_a90, k_s90, k_a91, k_s91, k_a92, k_s92, k_a93, k_s93, k_a94, k_s94, k_a95, k_s95, k_a96, k_s96, k_a97, k_s97, k_a98, k_s98, k_a99, k_s99, k_a100, k_s100, k_a101, k_s101, k_a102, k_s102, k_u_s, k_u_n, k_u_u, Nat.reduceEqDiff, not_false_eq_true, qS_nop, qS_seq, qS_set, qS_setJ, qS_if, qS_brk, qS_ret, qS_retV, qS_throw, qS_inc, qS_cl, qS_ast, qS_aop, qS_fst, qS_fop, qS_sw, qT_eC, qT_eCB, qT_eL, qT_eLJ, qT_eLR, qT_eLB, qT_e1, qT_e2, qT_bCmp, qT_bCmpJ, qT_bAnd, qT_bOr, qT_bNot, qT_eBI, qT_eIf, qT_eLd, qT_eLdR, qT_eLen, qT_eF, qT_eFR, qT_aN, qT_aS, qT_eCl, qT_eClR, qT_eClB, qT_some, qT_x, z_nx_N, z_nx_B, z_nx_R, z_nx_X, z_bk_N, z_bk_B, z_bk_R, z_bk_X, oAdd, oSub, oMul, oNeg, cLt, cLe, cGt, cGe, cEq, cNe, Option.some.injEq, Sum.inl.injEq, Sum.inr.injEq, Prod.mk.injEq, exists_eq_left, exists_eq_left', exists_eq_right, exists_and_left, reduceCtorEq, and_true, true_and, and_false, false_and, List.getElem?_cons_zero, List.getElem?_cons_succ, List.set_cons_zero, List.set_cons_succ, List.replicate, List.length_cons, List.length_nil, List.cons_append, List.nil_append, Nat.reduceAdd, Nat.reduceSub, decide_eq_true_eq, decide_eq_false_iff_not, Bool.true_eq_false, Bool.false_eq_true, true_implies, false_implies, implies_true, Nat.reduceLT, exists_const, z_vB_inj, and_assoc, z_in_iff, oI2L, oL2I, Int.toNat_natCast, z_toNat0, Bool.not_eq_true', Bool.not_eq_false', ne_eq, Bool.not_true, Bool.not_false, Nat.add_zero, Int.add_zero, z_sl_s]
    (repeat' (first | apply And.intro | intro _)) <;> first | omega | rfl | grind
  intro _
  simp only [e2, qS_nop, qS_seq, qS_set, qS_setJ, qS_if, qS_brk, qS_ret, qS_retV, qS_throw, qS_inc, qS_cl, qS_ast, qS_aop, qS_fst, qS_fop, qS_sw, qT_eC, qT_eCB, qT_eL, qT_eLJ, qT_eLR, qT_eLB, qT_e1, qT_e2, qT_bCmp, qT_bCmpJ, qT_bAnd, qT_bOr, qT_bNot, qT_eBI, qT_eIf, qT_eLd, qT_eLdR, qT_eLen, qT_eF, qT_eFR, qT_aN, qT_aS, qT_eCl, qT_eClR, qT_eClB, qT_some, qT_x, z_nx_N, z_nx_B, z_nx_R, z_nx_X, z_bk_N, z_bk_B, z_bk_R, z_bk_X, oAdd, oSub, oMul, oNeg, cLt, cLe, cGt, cGe, cEq, cNe, Option.some.injEq, Sum.inl.injEq, Sum.inr.injEq, Prod.mk.injEq, exists_eq_left, exists_eq_left', exists_eq_right, exists_and_left, reduceCtorEq, and_true, true_and, and_false, false_and, List.getElem?_cons_zero, List.getElem?_cons_succ, List.set_cons_zero, List.set_cons_succ, List.replicate, List.length_cons, List.length_nil, List.cons_append, List.nil_append, Nat.reduceAdd, Nat.reduceSub, decide_eq_true_eq, decide_eq_false_iff_not, Bool.true_eq_false, Bool.false_eq_true, true_implies, false_implies, implies_true, Nat.reduceLT, exists_const, z_vB_inj, and_assoc, z_in_iff, oI2L, oL2I, Int.toNat_natCast, z_toNat0, Bool.not_eq_true', Bool.not_eq_false', ne_eq, Bool.not_true, Bool.not_false, Nat.add_zero, Int.add_zero, z_sl_s]
  repeat (refine And.intro (by omega) ?_)
  have zz := z_to_0 W (S 101)
  refine qS_for (fun k => [vR 85, vI (nDg (rE S) (S 101) 5), vI (k : Int)]) (fun k => k_W (k_u (k_u S 100 W) 101 (z_to k W (S 101)))) (fun _ => True) 5 rfl ?_ trivial (by omega) ?_ ?_
  · have := k_u_id (k_u S 100 W) 101
    rw [k_u_n (by decide)] at this
    rw [z_to_0, this]
  · intro k hk _
    have z := z_to_s k W (S 101)
    simp only [z, k_v85, k_o85, k_r0, k_r1, k_r2, k_r3, k_r4, k_r5, k_r6, k_r7, k_r8, k_r9, k_r10, k_r11, k_r12, k_r13, k_r14, k_r15, k_r16, k_r17, k_r18, k_rl, k_sc, k_st, k_a86, k_s86, k_a87, k_s87, k_a88, k_s88, k_a89, k_s89, k_a90, k_s90, k_a91, k_s91, k_a92, k_s92, k_a93, k_s93, k_a94, k_s94, k_a95, k_s95, k_a96, k_s96, k_a97, k_s97, k_a98, k_s98, k_a99, k_s99, k_a100, k_s100, k_a101, k_s101, k_a102, k_s102, k_u_s, k_u_n, k_u_u, Nat.reduceEqDiff, not_false_eq_true, qS_nop, qS_seq, qS_set, qS_setJ, qS_if, qS_brk, qS_ret, qS_retV, qS_throw, qS_inc, qS_cl, qS_ast, qS_aop, qS_fst, qS_fop, qS_sw, qT_eC, qT_eCB, qT_eL, qT_eLJ, qT_eLR, qT_eLB, qT_e1, qT_e2, qT_bCmp, qT_bCmpJ, qT_bAnd, qT_bOr, qT_bNot, qT_eBI, qT_eIf, qT_eLd, qT_eLdR, qT_eLen, qT_eF, qT_eFR, qT_aN, qT_aS, qT_eCl, qT_eClR, qT_eClB, qT_some, qT_x, z_nx_N, z_nx_B, z_nx_R, z_nx_X, z_bk_N, z_bk_B, z_bk_R, z_bk_X, oAdd, oSub, oMul, oNeg, cLt, cLe, cGt, cGe, cEq, cNe, Option.some.injEq, Sum.inl.injEq, Sum.inr.injEq, Prod.mk.injEq, exists_eq_left, exists_eq_left', exists_eq_right, exists_and_left, reduceCtorEq, and_true, true_and, and_false, false_and, List.getElem?_cons_zero, List.getElem?_cons_succ, List.set_cons_zero, List.set_cons_succ, List.replicate, List.length_cons, List.length_nil, List.cons_append, List.nil_append, Nat.reduceAdd, Nat.reduceSub, decide_eq_true_eq, decide_eq_false_iff_not, Bool.true_eq_false, Bool.false_eq_true, true_implies, false_implies, implies_true, Nat.reduceLT, exists_const, z_vB_inj, and_assoc, z_in_iff, oI2L, oL2I, Int.toNat_natCast, z_toNat0, Bool.not_eq_true', Bool.not_eq_false', ne_eq, Bool.not_true, Bool.not_false, Nat.add_zero, Int.add_zero, z_sl_s]
    (repeat' (first | apply And.intro | intro _)) <;> first | omega | rfl | grind
  intro _
  generalize nDg (rE S) (S 101) 5 = D at *
  simp only [qS_nop, qS_seq, qS_set, qS_setJ, qS_if, qS_brk, qS_ret, qS_retV, qS_throw, qS_inc, qS_cl, qS_ast, qS_aop, qS_fst, qS_fop, qS_sw, qT_eC, qT_eCB, qT_eL, qT_eLJ, qT_eLR, qT_eLB, qT_e1, qT_e2, qT_bCmp, qT_bCmpJ, qT_bAnd, qT_bOr, qT_bNot, qT_eBI, qT_eIf, qT_eLd, qT_eLdR, qT_eLen, qT_eF, qT_eFR, qT_aN, qT_aS, qT_eCl, qT_eClR, qT_eClB, qT_some, qT_x, z_nx_N, z_nx_B, z_nx_R, z_nx_X, z_bk_N, z_bk_B, z_bk_R, z_bk_X, oAdd, oSub, oMul, oNeg, cLt, cLe, cGt, cGe, cEq, cNe, Option.some.injEq, Sum.inl.injEq, Sum.inr.injEq, Prod.mk.injEq, exists_eq_left, exists_eq_left', exists_eq_right, exists_and_left, reduceCtorEq, and_true, true_and, and_false, false_and, List.getElem?_cons_zero, List.getElem?_cons_succ, List.set_cons_zero, List.set_cons_succ, List.replicate, List.length_cons, List.length_nil, List.cons_append, List.nil_append, Nat.reduceAdd, Nat.reduceSub, decide_eq_true_eq, decide_eq_false_iff_not, Bool.true_eq_false, Bool.false_eq_true, true_implies, false_implies, implies_true, Nat.reduceLT, exists_const, z_vB_inj, and_assoc, z_in_iff, oI2L, oL2I, Int.toNat_natCast, z_toNat0, Bool.not_eq_true', Bool.not_eq_false', ne_eq, Bool.not_true, Bool.not_false, Nat.add_zero, Int.add_zero, z_sl_s]
  repeat (refine And.intro (by omega) ?_)
  refine qS_wh (fun m ρ h' => ∃ (r : Int) (W2 : Nat → Int), h' = k_W (k_u (k_u S 100 W2) 101 (z_to 5 W (S 101))) ∧ ρ = [vR 85, vI D, vI r] ∧ -1 ≤ r ∧ (r ≤ D ∨ (D < 0 ∧ r = -1)) ∧ (∀ a x, aOk (rE S) 1 0 a → cLf (rE S) (fun v => W v - a v) x → r ≤ cVl 0 a x) ∧ D - r ≤ (m : Int)) ?_ 20 z_fuel _ _ (z_fuel_lt (by decide)) ⟨-1, W, rfl, rfl, by omega, by omega, fun a x ha hl => ?_, by omega⟩
  · rintro m ρ h' ⟨r, W2, rfl, rfl, r1, r2, low, hm⟩
    have h := fun (p : r < D) => hr1 W2 (r + 1).toNat (by omega) (by omega)
    rw [show (((r + 1).toNat : Nat) : Int) = r + 1 by omega] at h
    have out : ∀ W3, ((nDg (rE S) W 5 < 0 ∧ r = -1) ∨ r = nDg (rE S) W 5 ∨ ∃ a x, aOk (rE S) 1 0 a ∧ cLf (rE S) (fun v => W v - a v) x ∧ cVl 0 a x < r + 1) → ∃ S', k_W (k_u (k_u S 100 W3) 101 (z_to 5 W (S 101))) = k_W S' ∧ (∀ x, ¬ x = 100 → ¬ x = 101 → S' x = S x) ∧ ∀ r0, rkOf (rE S) (S 101) r0 → r = r0 := fun W3 q => ⟨_, rfl, fun x h1 h2 => by rw [k_u_n h2, k_u_n h1], fin r r1 low q⟩
    simp only [qS_nop, qS_seq, qS_set, qS_setJ, qS_if, qS_brk, qS_ret, qS_retV, qS_throw, qS_inc, qS_cl, qS_ast, qS_aop, qS_fst, qS_fop, qS_sw, qT_eC, qT_eCB, qT_eL, qT_eLJ, qT_eLR, qT_eLB, qT_e1, qT_e2, qT_bCmp, qT_bCmpJ, qT_bAnd, qT_bOr, qT_bNot, qT_eBI, qT_eIf, qT_eLd, qT_eLdR, qT_eLen, qT_eF, qT_eFR, qT_aN, qT_aS, qT_eCl, qT_eClR, qT_eClB, qT_some, qT_x, z_nx_N, z_nx_B, z_nx_R, z_nx_X, z_bk_N, z_bk_B, z_bk_R, z_bk_X, oAdd, oSub, oMul, oNeg, cLt, cLe, cGt, cGe, cEq, cNe, Option.some.injEq, Sum.inl.injEq, Sum.inr.injEq, Prod.mk.injEq, exists_eq_left, exists_eq_left', exists_eq_right, exists_and_left, reduceCtorEq, and_true, true_and, and_false, false_and, List.getElem?_cons_zero, List.getElem?_cons_succ, List.set_cons_zero, List.set_cons_succ, List.replicate, List.length_cons, List.length_nil, List.cons_append, List.nil_append, Nat.reduceAdd, Nat.reduceSub, decide_eq_true_eq, decide_eq_false_iff_not, Bool.true_eq_false, Bool.false_eq_true, true_implies, false_implies, implies_true, Nat.reduceLT, exists_const, z_vB_inj, and_assoc, z_in_iff, oI2L, oL2I, Int.toNat_natCast, z_toNat0, Bool.not_eq_true', Bool.not_eq_false', ne_eq, Bool.not_true, Bool.not_false, Nat.add_zero, Int.add_zero, z_sl_s]
    repeat (refine And.intro (by omega) ?_)
    refine ⟨fun p => (h p).elim fun W3 e => ?_, fun p => out W2 (by omega)⟩
    simp only [e, qS_nop, qS_seq, qS_set, qS_setJ, qS_if, qS_brk, qS_ret, qS_retV, qS_throw, qS_inc, qS_cl, qS_ast, qS_aop, qS_fst, qS_fop, qS_sw, qT_eC, qT_eCB, qT_eL, qT_eLJ, qT_eLR, qT_eLB, qT_e1, qT_e2, qT_bCmp, qT_bCmpJ, qT_bAnd, qT_bOr, qT_bNot, qT_eBI, qT_eIf, qT_eLd, qT_eLdR, qT_eLen, qT_eF, qT_eFR, qT_aN, qT_aS, qT_eCl, qT_eClR, qT_eClB, qT_some, qT_x, z_nx_N, z_nx_B, z_nx_R, z_nx_X, z_bk_N, z_bk_B, z_bk_R, z_bk_X, oAdd, oSub, oMul, oNeg, cLt, cLe, cGt, cGe, cEq, cNe, Option.some.injEq, Sum.inl.injEq, Sum.inr.injEq, Prod.mk.injEq, exists_eq_left, exists_eq_left', exists_eq_right, exists_and_left, reduceCtorEq, and_true, true_and, and_false, false_and, List.getElem?_cons_zero, List.getElem?_cons_succ, List.set_cons_zero, List.set_cons_succ, List.replicate, List.length_cons, List.length_nil, List.cons_append, List.nil_append, Nat.reduceAdd, Nat.reduceSub, decide_eq_true_eq, decide_eq_false_iff_not, Bool.true_eq_false, Bool.false_eq_true, true_implies, false_implies, implies_true, Nat.reduceLT, exists_const, z_vB_inj, and_assoc, z_in_iff, oI2L, oL2I, Int.toNat_natCast, z_toNat0, Bool.not_eq_true', Bool.not_eq_false', ne_eq, Bool.not_true, Bool.not_false, Nat.add_zero, Int.add_zero, z_sl_s]
    refine ⟨fun q => ⟨m - 1, by omega, r + 1, W3, rfl, rfl, by omega, by omega, (z_dec_iff _).mp q, by omega⟩, fun q => out W3 ?_⟩
    have q := (z_dec_f _).mp q
    refine Or.inr (Or.inr (Classical.byContradiction fun c => q (fun a x ha hl => ?_)))
    rcases Int.lt_or_le (cVl 0 a x) (r + 1) with l | l
    · exact absurd ⟨a, x, ha, hl, l⟩ c
    · exact l
  · have := s5_nn ha.1
    unfold cVl
    split <;> omega
end RQ2
