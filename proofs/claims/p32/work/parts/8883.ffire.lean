/-! THE FACE: fire -/
section FF
/-- the chips when a vertex has fired -/
def kFi (B : Nat → Nat → Int) (C : Nat → Int) (i u : Nat) : Int := C u - (if u = i then nAll B i else 0) + B i u
theorem nFi_1 {B : Nat → Nat → Int} (g : gOk B) (P : Nat → Int) {i u : Nat} (hi : i < 5) (hu : u < 5) : nFi B P (2 ^ i) 1 u = kFi B P i u := by
  have hs : 2 ^ i < 32 := nNr_b (B := B) hi 0
  have e : cL B (ci1 (2 ^ i)) u = cL B (ck1 i) u := s5_eq (fun w hw => by
    have c : ∀ x, x < 5 → ci1 (2 ^ i) x = ck1 i x := fun x hx => by
      unfold ci1 ck1
      by_cases q : x = i
      · rw [if_pos q, if_pos ((m5_p ⟨i, hi⟩ ⟨x, hx⟩).mpr q)]
      · rw [if_neg q, if_neg (fun w => q ((m5_p ⟨i, hi⟩ ⟨x, hx⟩).mp w))]
    rw [c u hu, c w hw])
  rw [nFi_L hs, e, cL_k g hi hu]
  unfold kFi
  omega
variable {X : z_Hp} {S : Nat → Nat → Int}
theorem cInv.g (I : cInv S) : gOk (kF S 10 5) := I.2.2.2.1.1
theorem f_fire (I : cInv S) {i : Nat} (hi : i < 5) : ∃ S', (m_X5_fire [vR 0, vI (i : Int)] (k_W X S) = some (.inr kIS, k_W X S') ∧ cFr (fun _ => False) S S') ∨
    (m_X5_fire [vR 0, vI (i : Int)] (k_W X S) = some (.inl (some (vI (S' 15 i))), k_W X S') ∧ (∀ v, v < 5 → S' 15 v = kFi (kF S 10 5) (S 15) i v) ∧ cFr (fun a => a = 15) S S' ∧ cInv S') := by
  have b6 : INF = 1000000 := rfl
  have c0 := s_nI1 (i := (i : Int)) (c := 5) (by decide) (by omega)
  have g := I.g
  have cb : ∀ v, v < 5 → -99 ≤ S 15 v ∧ S 15 v ≤ 99 := fun v hv => I.2.2.2.1.2 v hv
  have hl : oShl 1 (i : Int) = some ((2 ^ i : Nat) : Int) := o_shl ⟨i, by omega⟩
  have hs : 2 ^ i < 32 := nNr_b (B := kF S 10 5) hi 0
  have x1 := s_copyChips (k_net (X := X) (S := S))
  rw [k_s18] at x1
  obtain ⟨A2, hA2⟩ : ∃ A2, A2 = k_u S 18 (fun k => if k < 5 then S 15 k else kF S 18 5 0 k) := ⟨_, rfl⟩
  rw [← hA2] at x1
  have f2 : kF A2 10 5 = kF S 10 5 := by rw [hA2, kF_u (by omega)]
  have p2 : ∀ v, v < 5 → A2 18 v = S 15 v := fun v hv => by rw [hA2, k_u_s]; exact if_pos hv
  have x2 := s_fire (k_net (X := X) (S := A2)) (by rw [f2]; exact g.bd) (i := 0) (by decide) hs 1
  rw [show 18 + 0 = 18 from rfl, k_s18, f2] at x2
  obtain ⟨Q, hQ⟩ : ∃ Q : Nat → Int, Q = fun v => if v < 5 then nFi (kF S 10 5) (kF A2 18 5 0) (2 ^ i) 1 v else kF A2 18 5 0 v := ⟨_, rfl⟩
  rw [← hQ] at x2
  have q5 : ∀ v, v < 5 → Q v = kFi (kF S 10 5) (S 15) i v := fun v hv => by
    rw [hQ]
    show (if v < 5 then nFi (kF S 10 5) (kF A2 18 5 0) (2 ^ i) 1 v else kF A2 18 5 0 v) = _
    rw [if_pos hv, nFi_1 g _ hi hv, kF_l (by omega)]
    unfold kFi
    rw [show A2 (18 + 0) v = S 15 v from p2 v hv]
  have al : 0 ≤ nAll (kF S 10 5) i ∧ nAll (kF S 10 5) i ≤ 15 := by
    rw [nAll_5]
    unfold s5
    have h0 := g i 0 hi (by omega)
    have h1 := g i 1 hi (by omega)
    have h2 := g i 2 hi (by omega)
    have h3 := g i 3 hi (by omega)
    have h4 := g i 4 hi (by omega)
    dsimp only
    omega
  have qb : ∀ v, v < 5 → -1000 ≤ Q v ∧ Q v ≤ 1000 := fun v hv => by
    rw [q5 v hv]
    unfold kFi
    have := cb v hv
    have := g i v hi hv
    split <;> omega
  obtain ⟨A3, hA3⟩ : ∃ A3, A3 = k_u A2 18 Q := ⟨_, rfl⟩
  rw [← hA3] at x2
  have s318 : A3 18 = Q := by rw [hA3, k_u_s]
  have s315 : A3 15 = S 15 := by rw [hA3, k_u_n (by decide), hA2, k_u_n (by decide)]
  have A3o : ∀ a, a ≠ 18 → A3 a = S a := fun a h => by rw [hA3, k_u_n h, hA2, k_u_n h]
  have k18 : (k_W X A3)[18]? = some (.inr (0, 5, Q)) := by rw [← s318]; exact k_get (by decide)
  have k15 : (k_W X A3)[15]? = some (.inr (0, 5, S 15)) := by rw [← s315]; exact k_get (by decide)
  have x3 := s_wl (k_net (X := X) (S := A3)) (p := 18) (V := Q) k18 (fun v hv => by have := qb v hv; omega)
  have sp2 := s_sp (X := X) A2
  have sp3 := s_sp (X := X) A3
  have fr3 : cFr (fun _ => False) S A3 := fun a h _ => A3o a (fun e => h (by subst e; unfold cFree; omega))
  by_cases L : ∀ v, v < 5 → ¬ (Q v ≠ INF ∧ (Q v < -99 ∨ 99 < Q v))
  rotate_left
  · rw [(z_dec_f _).mpr L] at x3
    refine ⟨A3, Or.inl ⟨?_, fr3⟩⟩
    unfold m_X5_fire
    rw [k_v0]
    apply q_body
    have b6 : INF = 1000000 := rfl
    simp only [b_X5_fire, c0, k_o0, x1, sp2, hl, x2, sp3, x3, kIS, z_vB1, z_vB0, if_true, if_false, not_true_eq_false, not_false_eq_true, exists_eq, qS_nop, qS_seq, qS_set, qS_setJ, qS_if, qS_brk, qS_ret, qS_retV, qS_throw, qS_inc, qS_cl, qS_ast, qS_aop, qS_fst, qS_fop, qS_sw, qT_eC, qT_eCB, qT_eL, qT_eLJ, qT_eLR, qT_eLS, qT_eSLen, qT_eSLd, qT_eLB, qT_e1, qT_e2, qT_bCmp, qT_bCmpJ, qT_bAnd, qT_bOr, qT_bNot, qT_eBI, qT_eIf, qT_eLd, qT_eLdR, qT_eLen, qT_eF, qT_eFR, qT_aN, qT_aS, qT_eCl, qT_eClR, qT_eClB, qT_some, qT_x, z_nx_N, z_nx_B, z_nx_R, z_nx_X, z_bk_N, z_bk_B, z_bk_R, z_bk_X, oAdd, oSub, oMul, oNeg, cLt, cLe, cGt, cGe, cEq, cNe, Option.some.injEq, Sum.inl.injEq, Sum.inr.injEq, Prod.mk.injEq, exists_eq_left, exists_eq_left', exists_eq_right, exists_and_left, reduceCtorEq, and_true, true_and, and_false, false_and, List.getElem?_cons_zero, List.getElem?_cons_succ, List.set_cons_zero, List.set_cons_succ, List.replicate, List.length_cons, List.length_nil, List.cons_append, List.nil_append, Nat.reduceAdd, Nat.reduceSub, decide_eq_true_eq, decide_eq_false_iff_not, Bool.true_eq_false, Bool.false_eq_true, true_implies, false_implies, implies_true, Nat.reduceLT, exists_const, z_vB_inj, and_assoc, z_in_iff, oI2L, oL2I, Int.toNat_natCast, z_toNat0, Bool.not_eq_true', Bool.not_eq_false', ne_eq, Bool.not_true, Bool.not_false, Nat.add_zero, Int.add_zero, z_sl_s]
    try omega
  · rw [(z_dec_iff _).mpr L] at x3
    have cp := s_copy (h := k_W X A3) (a := 18) (b := 15) (f := Q) (g := S 15) k18 k15 (by decide) (by decide) (sp := 0) (dp := 0) (n := 5) (by decide) (by decide) (by decide) (by decide) (by decide)
    rw [k_s15] at cp
    obtain ⟨C, hC⟩ : ∃ C, C = z_cp Q (S 15) (0 : Int).toNat (0 : Int).toNat (5 : Int).toNat := ⟨_, rfl⟩
    rw [← hC] at cp
    have Ce : ∀ v, v < 5 → C v = Q v := fun v hv => by
      rw [hC]
      unfold z_cp
      simp [hv]
    obtain ⟨A4, hA4⟩ : ∃ A4, A4 = k_u A3 15 C := ⟨_, rfl⟩
    rw [← hA4] at cp
    have s415 : A4 15 = C := by rw [hA4, k_u_s]
    have fr4 : cFr (fun a => a = 15) S A4 := fun a h1 h2 => by
      rw [hA4, k_u_n h2]
      exact fr3 a h1 id
    have e4 : ∀ v, v < 5 → A4 15 v = kFi (kF S 10 5) (S 15) i v := fun v hv => by rw [s415, Ce v hv, q5 v hv]
    have f4 : kF A4 10 5 = kF S 10 5 := kF_e (fun x hx => fr4 _ (by unfold cFree; omega) (by omega))
    have b4 := qb i hi
    have c4 : A4 15 i = Q i := by rw [s415, Ce i hi]
    refine ⟨A4, Or.inr ⟨?_, e4, fr4, I.gs ⟨by rw [f4]; exact g, fun v hv => ?_⟩ (fr4.to (fun a h => by omega))⟩⟩
    · unfold m_X5_fire
      rw [k_v0]
      apply q_body
      have b6 : INF = 1000000 := rfl
      simp only [b_X5_fire, c0, k_o0, k_o8, k_a15, x1, sp2, hl, x2, sp3, x3, cp, z_vB1, z_vB0, if_true, if_false, not_true_eq_false, not_false_eq_true, exists_eq, qS_nop, qS_seq, qS_set, qS_setJ, qS_if, qS_brk, qS_ret, qS_retV, qS_throw, qS_inc, qS_cl, qS_ast, qS_aop, qS_fst, qS_fop, qS_sw, qT_eC, qT_eCB, qT_eL, qT_eLJ, qT_eLR, qT_eLS, qT_eSLen, qT_eSLd, qT_eLB, qT_e1, qT_e2, qT_bCmp, qT_bCmpJ, qT_bAnd, qT_bOr, qT_bNot, qT_eBI, qT_eIf, qT_eLd, qT_eLdR, qT_eLen, qT_eF, qT_eFR, qT_aN, qT_aS, qT_eCl, qT_eClR, qT_eClB, qT_some, qT_x, z_nx_N, z_nx_B, z_nx_R, z_nx_X, z_bk_N, z_bk_B, z_bk_R, z_bk_X, oAdd, oSub, oMul, oNeg, cLt, cLe, cGt, cGe, cEq, cNe, Option.some.injEq, Sum.inl.injEq, Sum.inr.injEq, Prod.mk.injEq, exists_eq_left, exists_eq_left', exists_eq_right, exists_and_left, reduceCtorEq, and_true, true_and, and_false, false_and, List.getElem?_cons_zero, List.getElem?_cons_succ, List.set_cons_zero, List.set_cons_succ, List.replicate, List.length_cons, List.length_nil, List.cons_append, List.nil_append, Nat.reduceAdd, Nat.reduceSub, decide_eq_true_eq, decide_eq_false_iff_not, Bool.true_eq_false, Bool.false_eq_true, true_implies, false_implies, implies_true, Nat.reduceLT, exists_const, z_vB_inj, and_assoc, z_in_iff, oI2L, oL2I, Int.toNat_natCast, z_toNat0, Bool.not_eq_true', Bool.not_eq_false', ne_eq, Bool.not_true, Bool.not_false, Nat.add_zero, Int.add_zero, z_sl_s]
      omega
    · have := L v hv
      have := qb v hv
      rw [s415, Ce v hv]
      omega
end FF
