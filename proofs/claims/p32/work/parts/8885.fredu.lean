/-! THE FACE: reduced -/
section FRd
theorem nNr_sub {B : Nat → Nat → Int} (g : gOk B) (P : Nat → Prop) (p0 : P 0) (p2 : ∀ v u, v < 5 → u < 5 → P v → 0 < B v u → P u) : ∀ n u, u < 5 → m5 (nNr B 0 n) u → P u
  | 0 => fun u hu h => by
    have := (m5_p ⟨0, by decide⟩ ⟨u, hu⟩).mp h
    have e : u = 0 := this
    rw [e]
    exact p0
  | n + 1 => fun u hu h => by
    have ih := nNr_sub g P p0 p2 n
    rcases (nNr_m (B := B) (by decide : 0 < 5) n hu).mp h with q | q
    · exact ih u hu q
    · obtain ⟨v, hv, m, e⟩ := (nCe_pos g hu _).mp q
      have e2 := (g u v hu hv).2.2.1
      exact p2 v u hv hu (ih v hv m) (by omega)
variable {X : z_Hp} {S : Nat → Nat → Int}
theorem kQ.at (I : cInv S) (q : kQ S) {x : Nat} (hx : x < 5) (hn : nHv (kF S 10 5) x) : cOk (kF S 10 5) x := by
  have g := I.g
  have all : ∀ u, u < 5 → nHv (kF S 10 5) u → (m5 (nNr (kF S 10 5) x 4) u ↔ m5 (nNr (kF S 10 5) x 4) 0) := fun u hu hn => by
    have r := nNr_sub g (fun u => m5 (nNr (kF S 10 5) x 4) u ↔ m5 (nNr (kF S 10 5) x 4) 0) Iff.rfl (fun v u hv hu h e => by
      have sy := (g v u hv hu).2.2.1
      exact ⟨fun w => h.mp (nNr_cl g hx hu hv w e), fun w => nNr_cl g hx hv hu (h.mpr w) (by omega)⟩) 4 u hu (q u hu hn)
    exact r
  have zx : m5 (nNr (kF S 10 5) x 4) x := nNr_mono (B := kF S 10 5) hx hx 0 4 ((m5_p ⟨x, hx⟩ ⟨x, hx⟩).mpr rfl)
  have z0 := (all x hx hn).mp zx
  exact ⟨g, hx, hn, fun v hv hv2 => (cFar_k hx hv (Nat.le_refl 4)).mp ((all v hv hv2).mpr z0)⟩
theorem s_hvv (I : cInv S) {v : Nat} (hv : v < 5) : m_X3_hasVertex [vR 8, vI (v : Int)] (k_W X S) = some (.inl (some (vB (z_dec (nHv (kF S 10 5) v)))), k_W X S) := s_hv (k_net (X := X) (S := S)) I.g.bd hv
theorem f_reduced (I : cInv S) {i j : Nat} (hi : i < 5) (hj : j < 5) : ∃ S', cFr (fun _ => False) S S' ∧
    ((¬ (nHv (kF S 10 5) i ∧ nHv (kF S 10 5) j ∧ kQ S) ∧ m_X5_reduced [vR 0, vI (i : Int), vI (j : Int)] (k_W X S) = some (.inr kIS, k_W X S')) ∨
     ((nHv (kF S 10 5) i ∧ nHv (kF S 10 5) j ∧ kQ S) ∧ ∃ P W m, (∀ v, v < 5 → P v = S 15 v) ∧ hIn (kF S 10 5) i P W m ∧ m ≤ 1000000 ∧ cRd (kF S 10 5) i W ∧ m_X5_reduced [vR 0, vI (i : Int), vI (j : Int)] (k_W X S) = some (.inl (some (vI (W j))), k_W X S'))) := by
  have b6 : INF = 1000000 := rfl
  have c0 := s_nI1 (i := (i : Int)) (c := 5) (by decide) (by omega)
  have c1 := s_nI1 (i := (j : Int)) (c := 5) (by decide) (by omega)
  have ha := s_hvv (X := X) I hi
  have hb := s_hvv (X := X) I hj
  by_cases q2 : nHv (kF S 10 5) i
  rotate_left
  · rw [(z_dec_f _).mpr q2] at ha
    refine ⟨S, cFr.refl _ _, Or.inl ⟨fun w => q2 w.1, ?_⟩⟩
    unfold m_X5_reduced
    rw [k_v0]
    apply q_body
    have b6 : INF = 1000000 := rfl
    simp only [b_X5_reduced, c0, c1, k_o0, ha, kIS, z_vB1, z_vB0, if_true, if_false, not_true_eq_false, not_false_eq_true, exists_eq, qS_nop, qS_seq, qS_set, qS_setJ, qS_if, qS_brk, qS_ret, qS_retV, qS_throw, qS_inc, qS_cl, qS_ast, qS_aop, qS_fst, qS_fop, qS_sw, qT_eC, qT_eCB, qT_eL, qT_eLJ, qT_eLR, qT_eLS, qT_eSLen, qT_eSLd, qT_eLB, qT_e1, qT_e2, qT_bCmp, qT_bCmpJ, qT_bAnd, qT_bOr, qT_bNot, qT_eBI, qT_eIf, qT_eLd, qT_eLdR, qT_eLen, qT_eF, qT_eFR, qT_aN, qT_aS, qT_eCl, qT_eClR, qT_eClB, qT_some, qT_x, z_nx_N, z_nx_B, z_nx_R, z_nx_X, z_bk_N, z_bk_B, z_bk_R, z_bk_X, oAdd, oSub, oMul, oNeg, cLt, cLe, cGt, cGe, cEq, cNe, Option.some.injEq, Sum.inl.injEq, Sum.inr.injEq, Prod.mk.injEq, exists_eq_left, exists_eq_left', exists_eq_right, exists_and_left, reduceCtorEq, and_true, true_and, and_false, false_and, List.getElem?_cons_zero, List.getElem?_cons_succ, List.set_cons_zero, List.set_cons_succ, List.replicate, List.length_cons, List.length_nil, List.cons_append, List.nil_append, Nat.reduceAdd, Nat.reduceSub, decide_eq_true_eq, decide_eq_false_iff_not, Bool.true_eq_false, Bool.false_eq_true, true_implies, false_implies, implies_true, Nat.reduceLT, exists_const, z_vB_inj, and_assoc, z_in_iff, oI2L, oL2I, Int.toNat_natCast, z_toNat0, Bool.not_eq_true', Bool.not_eq_false', ne_eq, Bool.not_true, Bool.not_false, Nat.add_zero, Int.add_zero, z_sl_s]
  rw [(z_dec_iff _).mpr q2] at ha
  by_cases q3 : nHv (kF S 10 5) j
  rotate_left
  · rw [(z_dec_f _).mpr q3] at hb
    refine ⟨S, cFr.refl _ _, Or.inl ⟨fun w => q3 w.2.1, ?_⟩⟩
    unfold m_X5_reduced
    rw [k_v0]
    apply q_body
    have b6 : INF = 1000000 := rfl
    simp only [b_X5_reduced, c0, c1, k_o0, ha, hb, kIS, z_vB1, z_vB0, if_true, if_false, not_true_eq_false, not_false_eq_true, exists_eq, qS_nop, qS_seq, qS_set, qS_setJ, qS_if, qS_brk, qS_ret, qS_retV, qS_throw, qS_inc, qS_cl, qS_ast, qS_aop, qS_fst, qS_fop, qS_sw, qT_eC, qT_eCB, qT_eL, qT_eLJ, qT_eLR, qT_eLS, qT_eSLen, qT_eSLd, qT_eLB, qT_e1, qT_e2, qT_bCmp, qT_bCmpJ, qT_bAnd, qT_bOr, qT_bNot, qT_eBI, qT_eIf, qT_eLd, qT_eLdR, qT_eLen, qT_eF, qT_eFR, qT_aN, qT_aS, qT_eCl, qT_eClR, qT_eClB, qT_some, qT_x, z_nx_N, z_nx_B, z_nx_R, z_nx_X, z_bk_N, z_bk_B, z_bk_R, z_bk_X, oAdd, oSub, oMul, oNeg, cLt, cLe, cGt, cGe, cEq, cNe, Option.some.injEq, Sum.inl.injEq, Sum.inr.injEq, Prod.mk.injEq, exists_eq_left, exists_eq_left', exists_eq_right, exists_and_left, reduceCtorEq, and_true, true_and, and_false, false_and, List.getElem?_cons_zero, List.getElem?_cons_succ, List.set_cons_zero, List.set_cons_succ, List.replicate, List.length_cons, List.length_nil, List.cons_append, List.nil_append, Nat.reduceAdd, Nat.reduceSub, decide_eq_true_eq, decide_eq_false_iff_not, Bool.true_eq_false, Bool.false_eq_true, true_implies, false_implies, implies_true, Nat.reduceLT, exists_const, z_vB_inj, and_assoc, z_in_iff, oI2L, oL2I, Int.toNat_natCast, z_toNat0, Bool.not_eq_true', Bool.not_eq_false', ne_eq, Bool.not_true, Bool.not_false, Nat.add_zero, Int.add_zero, z_sl_s]
  rw [(z_dec_iff _).mpr q3] at hb
  by_cases q4 : kQ S
  rotate_left
  · have nc := s_nCn0 (X := X) I q4
    refine ⟨kA1 S, kA1_fr, Or.inl ⟨fun w => q4 w.2.2, ?_⟩⟩
    unfold m_X5_reduced
    rw [k_v0]
    apply q_body
    have b6 : INF = 1000000 := rfl
    simp only [b_X5_reduced, c0, c1, k_o0, ha, hb, nc, z_vB1, z_vB0, if_true, if_false, not_true_eq_false, not_false_eq_true, exists_eq, qS_nop, qS_seq, qS_set, qS_setJ, qS_if, qS_brk, qS_ret, qS_retV, qS_throw, qS_inc, qS_cl, qS_ast, qS_aop, qS_fst, qS_fop, qS_sw, qT_eC, qT_eCB, qT_eL, qT_eLJ, qT_eLR, qT_eLS, qT_eSLen, qT_eSLd, qT_eLB, qT_e1, qT_e2, qT_bCmp, qT_bCmpJ, qT_bAnd, qT_bOr, qT_bNot, qT_eBI, qT_eIf, qT_eLd, qT_eLdR, qT_eLen, qT_eF, qT_eFR, qT_aN, qT_aS, qT_eCl, qT_eClR, qT_eClB, qT_some, qT_x, z_nx_N, z_nx_B, z_nx_R, z_nx_X, z_bk_N, z_bk_B, z_bk_R, z_bk_X, oAdd, oSub, oMul, oNeg, cLt, cLe, cGt, cGe, cEq, cNe, Option.some.injEq, Sum.inl.injEq, Sum.inr.injEq, Prod.mk.injEq, exists_eq_left, exists_eq_left', exists_eq_right, exists_and_left, reduceCtorEq, and_true, true_and, and_false, false_and, List.getElem?_cons_zero, List.getElem?_cons_succ, List.set_cons_zero, List.set_cons_succ, List.replicate, List.length_cons, List.length_nil, List.cons_append, List.nil_append, Nat.reduceAdd, Nat.reduceSub, decide_eq_true_eq, decide_eq_false_iff_not, Bool.true_eq_false, Bool.false_eq_true, true_implies, false_implies, implies_true, Nat.reduceLT, exists_const, z_vB_inj, and_assoc, z_in_iff, oI2L, oL2I, Int.toNat_natCast, z_toNat0, Bool.not_eq_true', Bool.not_eq_false', ne_eq, Bool.not_true, Bool.not_false, Nat.add_zero, Int.add_zero, z_sl_s]
  have c := kQ.at I q4 hi q2
  have nc := s_nCn1 (X := X) I q4
  obtain ⟨P, hP, cp⟩ := kPc (X := X) I false
  rw [if_neg (by decide)] at cp
  obtain ⟨A2, hA2⟩ : ∃ A2, A2 = k_u (kA1 S) 18 P := ⟨_, rfl⟩
  rw [← hA2] at cp
  have f2 : kF A2 10 5 = kF S 10 5 := by
    rw [hA2]
    unfold kA1
    rw [kF_u (by omega), kF_u (by omega)]
  have sp := s_spread (k_net (X := X) (S := A2)) (by rw [f2]; exact c.1.bd) hi
  rw [k_s16, f2] at sp
  obtain ⟨A3, hA3⟩ : ∃ A3, A3 = k_u A2 16 (nG (kF S 10 5) (A2 16) i 4) := ⟨_, rfl⟩
  rw [← hA3] at sp
  have f3 : kF A3 10 5 = kF S 10 5 := by rw [hA3, kF_u (by omega), f2]
  have p3 : kF A3 18 5 0 = P := by
    rw [kF_l (by omega)]
    show A3 18 = P
    rw [hA3, k_u_n (by decide), hA2, k_u_s]
  have nt := k_net (X := X) (S := A3)
  rw [f3] at nt
  obtain ⟨W, m, w1, w2, w3, w4⟩ := nt.redW c (i := 0) (by omega) (fun k hk => by rw [hA3, k_u_s]; unfold nG; rw [if_pos (by omega)]) (by rw [p3]; exact fun v hv => by rw [hP v hv]; have := kPv_b I false hv; omega)
  rw [p3] at w2
  have w1' : m_X3_reduce [vR 8, vR 18] (k_W X A3) = some (.inl none, k_W X (k_u A3 18 W)) := by
    have e := w1
    rw [show 18 + 0 = 18 from rfl, k_s18] at e
    exact e
  have sp2 := s_sp (X := X) A3
  have sp3 := s_sp (X := X) (k_u A3 18 W)
  have s18 : k_u A3 18 W 18 = W := k_u_s _ _ _
  have fr : cFr (fun _ => False) S (k_u A3 18 W) := fun a ha hn => by
    rw [k_u_n (fun e => ha (by subst e; unfold cFree; omega)), hA3, k_u_n (fun e => ha (by subst e; unfold cFree; omega)), hA2, k_u_n (fun e => ha (by subst e; unfold cFree; omega))]
    exact kA1_fr a ha hn
  refine ⟨k_u A3 18 W, fr, Or.inr ⟨⟨q2, q3, q4⟩, P, W, m, fun v hv => (hP v hv).trans (if_neg (by decide)), w2, w3, w4, ?_⟩⟩
  unfold m_X5_reduced
  rw [k_v0]
  apply q_body
  have b6 : INF = 1000000 := rfl
  simp only [b_X5_reduced, c0, c1, k_o0, ha, hb, nc, cp, sp, sp2, w1', sp3, k_a18, s18, z_vB1, z_vB0, if_true, if_false, not_true_eq_false, not_false_eq_true, exists_eq, qS_nop, qS_seq, qS_set, qS_setJ, qS_if, qS_brk, qS_ret, qS_retV, qS_throw, qS_inc, qS_cl, qS_ast, qS_aop, qS_fst, qS_fop, qS_sw, qT_eC, qT_eCB, qT_eL, qT_eLJ, qT_eLR, qT_eLS, qT_eSLen, qT_eSLd, qT_eLB, qT_e1, qT_e2, qT_bCmp, qT_bCmpJ, qT_bAnd, qT_bOr, qT_bNot, qT_eBI, qT_eIf, qT_eLd, qT_eLdR, qT_eLen, qT_eF, qT_eFR, qT_aN, qT_aS, qT_eCl, qT_eClR, qT_eClB, qT_some, qT_x, z_nx_N, z_nx_B, z_nx_R, z_nx_X, z_bk_N, z_bk_B, z_bk_R, z_bk_X, oAdd, oSub, oMul, oNeg, cLt, cLe, cGt, cGe, cEq, cNe, Option.some.injEq, Sum.inl.injEq, Sum.inr.injEq, Prod.mk.injEq, exists_eq_left, exists_eq_left', exists_eq_right, exists_and_left, reduceCtorEq, and_true, true_and, and_false, false_and, List.getElem?_cons_zero, List.getElem?_cons_succ, List.set_cons_zero, List.set_cons_succ, List.replicate, List.length_cons, List.length_nil, List.cons_append, List.nil_append, Nat.reduceAdd, Nat.reduceSub, decide_eq_true_eq, decide_eq_false_iff_not, Bool.true_eq_false, Bool.false_eq_true, true_implies, false_implies, implies_true, Nat.reduceLT, exists_const, z_vB_inj, and_assoc, z_in_iff, oI2L, oL2I, Int.toNat_natCast, z_toNat0, Bool.not_eq_true', Bool.not_eq_false', ne_eq, Bool.not_true, Bool.not_false, Nat.add_zero, Int.add_zero, z_sl_s]
  omega
end FRd
