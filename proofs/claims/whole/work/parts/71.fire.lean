/-! THE FACE: fire -/
section FF
variable {S : Nat → Nat → Int}
/-- the chips when a vertex has fired -/
def kFi (B : Nat → Nat → Int) (C : Nat → Int) (i u : Nat) : Int := C u - (if u = i then nAll B i else 0) + B i u
theorem nFi_1 {B : Nat → Nat → Int} (g : gOk B) (P : Nat → Int) {i u : Nat} (hi : i < 5) (hu : u < 5) : nFi B P (2 ^ i) 1 u = kFi B P i u := by
  have hs : 2 ^ i < 32 := nNr_b (B := B) hi 0
  have e : cL B (ci1 (2 ^ i)) u = cL B (ck1 i) u := s5_eq (fun w hw => by
    have c : ∀ x, x < 5 → ci1 (2 ^ i) x = ck1 i x := fun x hx => by
      unfold ci1 ck1
      by_cases q : x = i
      · rw [if_pos q, if_pos ((m5_p ⟨i, hi⟩ ⟨x, hx⟩).mpr q)]
      · rw [if_neg q, if_neg (fun w => q ((m5_p ⟨i, hi⟩ ⟨x, hx⟩).mp w))]
    rw [c u hu, c w hw])
  rw [nFi_L hs, e, cL_k g hi hu]
  unfold kFi
  omega
def rFr (f e : Nat → Int) : Nat → Nat → Int
  | 0 => f
  | k + 1 => z_up (rFr f e k) k (rFr f e k k + e k)
theorem rFr_at (f e : Nat → Int) : ∀ n u, rFr f e n u = f u + (if u < n then e u else 0)
  | 0, u => by simp [rFr]
  | n + 1, u => by
    unfold rFr z_up
    rw [rFr_at f e n n, rFr_at f e n u]
    by_cases c : u = n
    · subst c
      simp
    · rw [if_neg c]
      by_cases d : u < n
      · rw [if_pos d, if_pos (by omega)]
      · rw [if_neg d, if_neg (by omega)]
theorem op_fire (I : kInv S) {v : Int} (hv : kR v) : kOp m_X5_fire m_X6_fire kIO kIS [vI v] S := by
  have b6 : INF = 1000000 := rfl
  by_cases q0 : 0 ≤ v ∧ v < 5
  rotate_left
  · have c0 := s_nI0 hv (c := 5) (by decide) q0
    have r0 := rf_ver0 (n := v) hv (by omega)
    refine kOp.x1 (r := vI 0) (S1 := S) (S2 := fun g => k_t (k_u S 103 g) 1) ?_ (fun g => ?_) (fun g => I.t g 1) (fun g => k_t_103) (fun g => k_t_1)
    · unfold m_X5_fire
      rw [k_v0]
      apply q_body
      have b6 : INF = 1000000 := rfl
      simp only [b_X5_fire, c0, qS_nop, qS_seq, qS_set, qS_setJ, qS_if, qS_brk, qS_ret, qS_retV, qS_throw, qS_inc, qS_cl, qS_ast, qS_aop, qS_fst, qS_fop, qS_sw, qT_eC, qT_eCB, qT_eL, qT_eLJ, qT_eLR, qT_eLB, qT_e1, qT_e2, qT_bCmp, qT_bCmpJ, qT_bAnd, qT_bOr, qT_bNot, qT_eBI, qT_eIf, qT_eLd, qT_eLdR, qT_eLen, qT_eF, qT_eFR, qT_aN, qT_aS, qT_eCl, qT_eClR, qT_eClB, qT_some, qT_x, z_nx_N, z_nx_B, z_nx_R, z_nx_X, z_bk_N, z_bk_B, z_bk_R, z_bk_X, oAdd, oSub, oMul, oNeg, cLt, cLe, cGt, cGe, cEq, cNe, Option.some.injEq, Sum.inl.injEq, Sum.inr.injEq, Prod.mk.injEq, exists_eq_left, exists_eq_left', exists_eq_right, exists_and_left, reduceCtorEq, and_true, true_and, and_false, false_and, List.getElem?_cons_zero, List.getElem?_cons_succ, List.set_cons_zero, List.set_cons_succ, List.replicate, List.length_cons, List.length_nil, List.cons_append, List.nil_append, Nat.reduceAdd, Nat.reduceSub, decide_eq_true_eq, decide_eq_false_iff_not, Bool.true_eq_false, Bool.false_eq_true, true_implies, false_implies, implies_true, Nat.reduceLT, exists_const, z_vB_inj, and_assoc, z_in_iff, oI2L, oL2I, Int.toNat_natCast, z_toNat0, Bool.not_eq_true', Bool.not_eq_false', ne_eq, Bool.not_true, Bool.not_false, Nat.add_zero, Int.add_zero, z_sl_s]
    · unfold m_X6_fire
      rw [k_v85]
      apply q_body
      have b6 : INF = 1000000 := rfl
      simp only [b_X6_fire, r0, rf_can1, z_vB1, z_vB0, if_true, if_false, not_true_eq_false, not_false_eq_true, k_t_n, k_t_1, exists_eq, k_v85, k_o85, k_r0, k_r1, k_r2, k_r3, k_r4, k_r5, k_r6, k_r7, k_r8, k_r9, k_r10, k_r11, k_r12, k_r13, k_r14, k_r15, k_r16, k_r17, k_r18, k_rl, k_sc, k_st, k_a86, k_s86, k_a87, k_s87, k_a88, k_s88, k_a89, k_s89, k_a90, k_s90, k_a91, k_s91, k_a92, k_s92, k_a93, k_s93, k_a94, k_s94, k_a95, k_s95, k_a96, k_s96, k_a97, k_s97, k_a98, k_s98, k_a99, k_s99, k_a100, k_s100, k_a101, k_s101, k_a102, k_s102, k_u_s, k_u_n, k_u_u, Nat.reduceEqDiff, not_false_eq_true, qS_nop, qS_seq, qS_set, qS_setJ, qS_if, qS_brk, qS_ret, qS_retV, qS_throw, qS_inc, qS_cl, qS_ast, qS_aop, qS_fst, qS_fop, qS_sw, qT_eC, qT_eCB, qT_eL, qT_eLJ, qT_eLR, qT_eLB, qT_e1, qT_e2, qT_bCmp, qT_bCmpJ, qT_bAnd, qT_bOr, qT_bNot, qT_eBI, qT_eIf, qT_eLd, qT_eLdR, qT_eLen, qT_eF, qT_eFR, qT_aN, qT_aS, qT_eCl, qT_eClR, qT_eClB, qT_some, qT_x, z_nx_N, z_nx_B, z_nx_R, z_nx_X, z_bk_N, z_bk_B, z_bk_R, z_bk_X, oAdd, oSub, oMul, oNeg, cLt, cLe, cGt, cGe, cEq, cNe, Option.some.injEq, Sum.inl.injEq, Sum.inr.injEq, Prod.mk.injEq, exists_eq_left, exists_eq_left', exists_eq_right, exists_and_left, reduceCtorEq, and_true, true_and, and_false, false_and, List.getElem?_cons_zero, List.getElem?_cons_succ, List.set_cons_zero, List.set_cons_succ, List.replicate, List.length_cons, List.length_nil, List.cons_append, List.nil_append, Nat.reduceAdd, Nat.reduceSub, decide_eq_true_eq, decide_eq_false_iff_not, Bool.true_eq_false, Bool.false_eq_true, true_implies, false_implies, implies_true, Nat.reduceLT, exists_const, z_vB_inj, and_assoc, z_in_iff, oI2L, oL2I, Int.toNat_natCast, z_toNat0, Bool.not_eq_true', Bool.not_eq_false', ne_eq, Bool.not_true, Bool.not_false, Nat.add_zero, Int.add_zero, z_sl_s]
  have c0 := s_nI1 (i := v) (c := 5) (by decide) q0
  have r0 := rf_ver1 (n := v) (by omega)
  obtain ⟨i, rfl⟩ : ∃ i : Nat, v = i := ⟨v.toNat, by omega⟩
  have h_i : i < 5 := by omega
  have g := I.g
  have cb : ∀ v, v < 5 → -99 ≤ S 15 v ∧ S 15 v ≤ 99 := fun v hv => (I.2.2.2.1.2.2 v hv).2
  have hl : oShl 1 (i : Int) = some ((2 ^ i : Nat) : Int) := o_shl ⟨i, by omega⟩
  have hs : 2 ^ i < 32 := nNr_b (B := kF S 10 5) h_i 0
  have x1 := s_copyChips (k_net (S := S))
  rw [k_s18] at x1
  obtain ⟨A2, hA2⟩ : ∃ A2, A2 = k_u S 18 (fun k => if k < 5 then S 15 k else kF S 18 5 0 k) := ⟨_, rfl⟩
  rw [← hA2] at x1
  have f2 : kF A2 10 5 = kF S 10 5 := by rw [hA2, kF_u (by omega)]
  have p2 : ∀ v, v < 5 → A2 18 v = S 15 v := fun v hv => by rw [hA2, k_u_s]; exact if_pos hv
  have x2 := s_fire (k_net (S := A2)) (by rw [f2]; exact g.bd) (i := 0) (by decide) hs 1
  rw [show 18 + 0 = 18 from rfl, k_s18, f2] at x2
  obtain ⟨Q, hQ⟩ : ∃ Q : Nat → Int, Q = fun v => if v < 5 then nFi (kF S 10 5) (kF A2 18 5 0) (2 ^ i) 1 v else kF A2 18 5 0 v := ⟨_, rfl⟩
  rw [← hQ] at x2
  have q5 : ∀ v, v < 5 → Q v = kFi (kF S 10 5) (S 15) i v := fun v hv => by
    rw [hQ]
    show (if v < 5 then nFi (kF S 10 5) (kF A2 18 5 0) (2 ^ i) 1 v else kF A2 18 5 0 v) = _
    rw [if_pos hv, nFi_1 g _ h_i hv, kF_l (by omega)]
    unfold kFi
    rw [show A2 (18 + 0) v = S 15 v from p2 v hv]
  have al : 0 ≤ nAll (kF S 10 5) i ∧ nAll (kF S 10 5) i ≤ 15 := by
    rw [nAll_5]
    unfold s5
    have h0 := g i 0 h_i (by omega)
    have h1 := g i 1 h_i (by omega)
    have h2 := g i 2 h_i (by omega)
    have h3 := g i 3 h_i (by omega)
    have h4 := g i 4 h_i (by omega)
    dsimp only
    omega
  have qb : ∀ v, v < 5 → -1000 ≤ Q v ∧ Q v ≤ 1000 := fun v hv => by
    rw [q5 v hv]
    unfold kFi
    have := cb v hv
    have := g i v h_i hv
    split <;> omega
  obtain ⟨A3, hA3⟩ : ∃ A3, A3 = k_u A2 18 Q := ⟨_, rfl⟩
  rw [← hA3] at x2
  have s318 : A3 18 = Q := by rw [hA3, k_u_s]
  have s315 : A3 15 = S 15 := by rw [hA3, k_u_n (by decide), hA2, k_u_n (by decide)]
  have k18 : (k_W A3)[18]? = some (.inr (0, 5, Q)) := by rw [← s318]; exact k_get (by decide)
  have k15 : (k_W A3)[15]? = some (.inr (0, 5, S 15)) := by rw [← s315]; exact k_get (by decide)
  have x3 := s_wl (k_net (S := A3)) (p := 18) (V := Q) k18 (fun v hv => by have := qb v hv; omega)
  have A3f : ∀ a, ¬ kFree a → A3 a = S a := fun a ha => by rw [hA3, k_u_n (fun e => ha (by subst e; unfold kFree; omega)), hA2, k_u_n (fun e => ha (by subst e; unfold kFree; omega))]
  have sp2 := s_sp A2
  have sp3 := s_sp A3
  have eq : (∀ v, v < 5 → ¬ (Q v ≠ INF ∧ (Q v < -99 ∨ 99 < Q v))) ↔ (-99 ≤ S 99 i - nAll (rE S) i ∧ ∀ k, k < 5 → S 99 k + rE S i k ≤ 99) := by
    have en : nAll (rE S) i = nAll (kF S 10 5) i := (nCe_cg I.sm h_i 31 5 (by omega)).symm
    rw [en, (I.2.2.2.1.2.2 i h_i).1]
    have eK : ∀ k, k < 5 → S 99 k + rE S i k = S 15 k + kF S 10 5 i k := fun k hk => by rw [(I.2.2.2.1.2.2 k hk).1, I.sm i k h_i hk]
    have zi := (g i i h_i h_i).2.2.2 rfl
    constructor
    · intro w
      have wi := w i h_i
      rw [q5 i h_i] at wi
      unfold kFi at wi
      rw [if_pos rfl] at wi
      have := cb i h_i
      refine ⟨by omega, fun k hk => ?_⟩
      rw [eK k hk]
      by_cases d : k = i
      · subst d; omega
      · have wk := w k hk
        rw [q5 k hk] at wk
        unfold kFi at wk
        rw [if_neg d] at wk
        have := cb k hk
        have := g i k h_i hk
        omega
    · rintro ⟨w1, w2⟩ v hv
      have wv := w2 v hv
      rw [eK v hv] at wv
      have := cb v hv
      have := g i v h_i hv
      rw [q5 v hv]
      unfold kFi
      by_cases d : v = i
      · subst d; rw [if_pos rfl]; omega
      · rw [if_neg d]; omega
  have rc : ∀ T : Nat → Nat → Int, T 98 = S 98 → T 99 = S 99 → m_X6_canFire [vR 85, vI (i : Int)] (k_W T) = some (.inl (some (vB (z_dec (∀ v, v < 5 → ¬ (Q v ≠ INF ∧ (Q v < -99 ∨ 99 < Q v)))))), k_W T) := fun T t1 t2 => by
    have w := rf_canFire (S := T) h_i (by rw [rE_e t1]; exact I.g'.bd) (by rw [t2]; exact fun v hv => by rw [(I.2.2.2.1.2.2 v hv).1]; have := cb v hv; omega)
    rw [rE_e t1, t2] at w
    rw [w, z_dec_c _ _ eq]
  obtain ⟨R, hR⟩ : ∃ R : Prop, R = (∀ v, v < 5 → ¬ (Q v ≠ INF ∧ (Q v < -99 ∨ 99 < Q v))) := ⟨_, rfl⟩
  rw [← hR] at x3
  simp only [← hR] at rc
  by_cases q1 : R
  rotate_left
  · rw [(z_dec_f _).mpr q1] at x3
    refine kOp.x2 (r := vI 0) (S1 := A3) (S2 := fun g => k_t (k_u A3 103 g) 2) ?_ (fun g => ?_) (fun g => I.eq (fun a ha => ?_)) (fun g => k_t_103) (fun g => k_t_1)
    · unfold m_X5_fire
      rw [k_v0]
      apply q_body
      have b6 : INF = 1000000 := rfl
      simp only [b_X5_fire, c0, k_o0, x1, sp2, hl, x2, sp3, x3, kIS, z_vB1, z_vB0, if_true, if_false, not_true_eq_false, not_false_eq_true, k_t_n, k_t_1, exists_eq, qS_nop, qS_seq, qS_set, qS_setJ, qS_if, qS_brk, qS_ret, qS_retV, qS_throw, qS_inc, qS_cl, qS_ast, qS_aop, qS_fst, qS_fop, qS_sw, qT_eC, qT_eCB, qT_eL, qT_eLJ, qT_eLR, qT_eLB, qT_e1, qT_e2, qT_bCmp, qT_bCmpJ, qT_bAnd, qT_bOr, qT_bNot, qT_eBI, qT_eIf, qT_eLd, qT_eLdR, qT_eLen, qT_eF, qT_eFR, qT_aN, qT_aS, qT_eCl, qT_eClR, qT_eClB, qT_some, qT_x, z_nx_N, z_nx_B, z_nx_R, z_nx_X, z_bk_N, z_bk_B, z_bk_R, z_bk_X, oAdd, oSub, oMul, oNeg, cLt, cLe, cGt, cGe, cEq, cNe, Option.some.injEq, Sum.inl.injEq, Sum.inr.injEq, Prod.mk.injEq, exists_eq_left, exists_eq_left', exists_eq_right, exists_and_left, reduceCtorEq, and_true, true_and, and_false, false_and, List.getElem?_cons_zero, List.getElem?_cons_succ, List.set_cons_zero, List.set_cons_succ, List.replicate, List.length_cons, List.length_nil, List.cons_append, List.nil_append, Nat.reduceAdd, Nat.reduceSub, decide_eq_true_eq, decide_eq_false_iff_not, Bool.true_eq_false, Bool.false_eq_true, true_implies, false_implies, implies_true, Nat.reduceLT, exists_const, z_vB_inj, and_assoc, z_in_iff, oI2L, oL2I, Int.toNat_natCast, z_toNat0, Bool.not_eq_true', Bool.not_eq_false', ne_eq, Bool.not_true, Bool.not_false, Nat.add_zero, Int.add_zero, z_sl_s]
      try omega
    · have oc := rc (k_u A3 103 g) (by rw [k_u_n (by decide), A3f 98 (by unfold kFree; omega)]) (by rw [k_u_n (by decide), A3f 99 (by unfold kFree; omega)])
      rw [(z_dec_f _).mpr q1] at oc
      unfold m_X6_fire
      rw [k_v85]
      apply q_body
      have b6 : INF = 1000000 := rfl
      simp only [b_X6_fire, r0, oc, rf_can2, z_vB1, z_vB0, if_true, if_false, not_true_eq_false, not_false_eq_true, k_t_n, k_t_1, exists_eq, qS_nop, qS_seq, qS_set, qS_setJ, qS_if, qS_brk, qS_ret, qS_retV, qS_throw, qS_inc, qS_cl, qS_ast, qS_aop, qS_fst, qS_fop, qS_sw, qT_eC, qT_eCB, qT_eL, qT_eLJ, qT_eLR, qT_eLB, qT_e1, qT_e2, qT_bCmp, qT_bCmpJ, qT_bAnd, qT_bOr, qT_bNot, qT_eBI, qT_eIf, qT_eLd, qT_eLdR, qT_eLen, qT_eF, qT_eFR, qT_aN, qT_aS, qT_eCl, qT_eClR, qT_eClB, qT_some, qT_x, z_nx_N, z_nx_B, z_nx_R, z_nx_X, z_bk_N, z_bk_B, z_bk_R, z_bk_X, oAdd, oSub, oMul, oNeg, cLt, cLe, cGt, cGe, cEq, cNe, Option.some.injEq, Sum.inl.injEq, Sum.inr.injEq, Prod.mk.injEq, exists_eq_left, exists_eq_left', exists_eq_right, exists_and_left, reduceCtorEq, and_true, true_and, and_false, false_and, List.getElem?_cons_zero, List.getElem?_cons_succ, List.set_cons_zero, List.set_cons_succ, List.replicate, List.length_cons, List.length_nil, List.cons_append, List.nil_append, Nat.reduceAdd, Nat.reduceSub, decide_eq_true_eq, decide_eq_false_iff_not, Bool.true_eq_false, Bool.false_eq_true, true_implies, false_implies, implies_true, Nat.reduceLT, exists_const, z_vB_inj, and_assoc, z_in_iff, oI2L, oL2I, Int.toNat_natCast, z_toNat0, Bool.not_eq_true', Bool.not_eq_false', ne_eq, Bool.not_true, Bool.not_false, Nat.add_zero, Int.add_zero, z_sl_s]
    · rw [k_t_n (fun e => ha (by subst e; unfold kFree; omega)), k_u_n (fun e => ha (by subst e; unfold kFree; omega)), A3f a ha]
  rw [(z_dec_iff _).mpr q1] at x3
  have x4 := s_copy (sp := 0) (dp := 0) (n := 5) k18 k15 (by decide) (by decide) (by decide) (by decide) (by decide) (by decide) (by decide)
  rw [k_s15] at x4
  obtain ⟨C, hC⟩ : ∃ C, C = z_cp Q (S 15) (0 : Int).toNat (0 : Int).toNat (5 : Int).toNat := ⟨_, rfl⟩
  rw [← hC] at x4
  have c5 : ∀ v, v < 5 → C v = Q v := fun v hv => by
    rw [hC]
    unfold z_cp
    simp [hv]
  have n8 := fun T : Nat → Nat → Int => k_o8 (S := T)
  obtain ⟨A4, hA4⟩ : ∃ A4, A4 = k_u A3 15 C := ⟨_, rfl⟩
  rw [← hA4] at x4
  have s415 : A4 15 = C := by rw [hA4, k_u_s]
  have A4f : ∀ a, ¬ kFree a → a ≠ 15 → A4 a = S a := fun a ha h => by rw [hA4, k_u_n h, A3f a ha]
  obtain ⟨D, hD⟩ : ∃ D, D = rFr (z_up (S 99) i (S 99 i - nAll (rE S) i)) (rE S i) := ⟨_, rfl⟩
  have d5 : ∀ v, v < 5 → D 5 v = Q v := fun v hv => by
    rw [hD, rFr_at, if_pos hv, q5 v hv]
    have en : nAll (rE S) i = nAll (kF S 10 5) i := (nCe_cg I.sm h_i 31 5 (by omega)).symm
    unfold kFi z_up
    rw [en, ← I.sm i v h_i hv, (I.2.2.2.1.2.2 i h_i).1, (I.2.2.2.1.2.2 v hv).1]
    by_cases d : v = i
    · subst d; rw [if_pos rfl, if_pos rfl]
    · rw [if_neg d, if_neg d]; omega
  refine kOp.ok (r := vI (Q i)) (S1 := A4) (S2 := fun g => k_u (k_t (k_u A4 103 g) 0) 99 (D 5)) ?_ (fun g => ?_) (fun g => ?_) (fun g => ?_) (fun g => ?_)
  · unfold m_X5_fire
    rw [k_v0]
    apply q_body
    have b6 : INF = 1000000 := rfl
    simp only [b_X5_fire, c0, k_o0, n8, x1, sp2, hl, x2, sp3, x3, x4, k_a15, s415, c5 i h_i, z_vB1, z_vB0, if_true, if_false, not_true_eq_false, not_false_eq_true, k_t_n, k_t_1, exists_eq, qS_nop, qS_seq, qS_set, qS_setJ, qS_if, qS_brk, qS_ret, qS_retV, qS_throw, qS_inc, qS_cl, qS_ast, qS_aop, qS_fst, qS_fop, qS_sw, qT_eC, qT_eCB, qT_eL, qT_eLJ, qT_eLR, qT_eLB, qT_e1, qT_e2, qT_bCmp, qT_bCmpJ, qT_bAnd, qT_bOr, qT_bNot, qT_eBI, qT_eIf, qT_eLd, qT_eLdR, qT_eLen, qT_eF, qT_eFR, qT_aN, qT_aS, qT_eCl, qT_eClR, qT_eClB, qT_some, qT_x, z_nx_N, z_nx_B, z_nx_R, z_nx_X, z_bk_N, z_bk_B, z_bk_R, z_bk_X, oAdd, oSub, oMul, oNeg, cLt, cLe, cGt, cGe, cEq, cNe, Option.some.injEq, Sum.inl.injEq, Sum.inr.injEq, Prod.mk.injEq, exists_eq_left, exists_eq_left', exists_eq_right, exists_and_left, reduceCtorEq, and_true, true_and, and_false, false_and, List.getElem?_cons_zero, List.getElem?_cons_succ, List.set_cons_zero, List.set_cons_succ, List.replicate, List.length_cons, List.length_nil, List.cons_append, List.nil_append, Nat.reduceAdd, Nat.reduceSub, decide_eq_true_eq, decide_eq_false_iff_not, Bool.true_eq_false, Bool.false_eq_true, true_implies, false_implies, implies_true, Nat.reduceLT, exists_const, z_vB_inj, and_assoc, z_in_iff, oI2L, oL2I, Int.toNat_natCast, z_toNat0, Bool.not_eq_true', Bool.not_eq_false', ne_eq, Bool.not_true, Bool.not_false, Nat.add_zero, Int.add_zero, z_sl_s]
    try omega
  · obtain ⟨U, hU⟩ : ∃ U, U = k_t (k_u A4 103 g) 0 := ⟨_, rfl⟩
    have cn := rf_can0 (k_u A4 103 g)
    rw [← hU] at cn ⊢
    have t98 : k_u A4 103 g 98 = S 98 := by rw [k_u_n (by decide), A4f 98 (by unfold kFree; omega) (by decide)]
    have t99 : k_u A4 103 g 99 = S 99 := by rw [k_u_n (by decide), A4f 99 (by unfold kFree; omega) (by decide)]
    have oc := rc (k_u A4 103 g) t98 t99
    rw [(z_dec_iff _).mpr q1] at oc
    have u98 : U 98 = S 98 := by rw [hU]; exact (k_t_n (by decide)).trans t98
    have u99 : U 99 = S 99 := by rw [hU]; exact (k_t_n (by decide)).trans t99
    have ed := rf_edgesOf (S := U) h_i (by rw [rE_e u98]; exact I.g'.bd)
    rw [rE_e u98] at ed
    unfold m_X6_fire
    rw [k_v85]
    apply q_body
    have b6 : INF = 1000000 := rfl
    simp only [b_X6_fire, r0, oc, cn, ed, u99, z_vB1, z_vB0, if_true, if_false, not_true_eq_false, not_false_eq_true, k_t_n, k_t_1, exists_eq, k_v85, k_o85, k_r0, k_r1, k_r2, k_r3, k_r4, k_r5, k_r6, k_r7, k_r8, k_r9, k_r10, k_r11, k_r12, k_r13, k_r14, k_r15, k_r16, k_r17, k_r18, k_rl, k_sc, k_st, k_a86, k_s86, k_a87, k_s87, k_a88, k_s88, k_a89, k_s89, k_a90, k_s90, k_a91, k_s91, k_a92, k_s92, k_a93, k_s93, k_a94, k_s94, k_a95, k_s95, k_a96, k_s96, k_a97, k_s97, k_a98, k_s98, k_a99, k_s99, k_a100, k_s100, k_a101, k_s101, k_a102, k_s102, k_u_s, k_u_n, k_u_u, Nat.reduceEqDiff, not_false_eq_true, qS_nop, qS_seq, qS_set, qS_setJ, qS_if, qS_brk, qS_ret, qS_retV, qS_throw, qS_inc, qS_cl, qS_ast, qS_aop, qS_fst, qS_fop, qS_sw, qT_eC, qT_eCB, qT_eL, qT_eLJ, qT_eLR, qT_eLB, qT_e1, qT_e2, qT_bCmp, qT_bCmpJ, qT_bAnd, qT_bOr, qT_bNot, qT_eBI, qT_eIf, qT_eLd, qT_eLdR, qT_eLen, qT_eF, qT_eFR, qT_aN, qT_aS, qT_eCl, qT_eClR, qT_eClB, qT_some, qT_x, z_nx_N, z_nx_B, z_nx_R, z_nx_X, z_bk_N, z_bk_B, z_bk_R, z_bk_X, oAdd, oSub, oMul, oNeg, cLt, cLe, cGt, cGe, cEq, cNe, Option.some.injEq, Sum.inl.injEq, Sum.inr.injEq, Prod.mk.injEq, exists_eq_left, exists_eq_left', exists_eq_right, exists_and_left, reduceCtorEq, and_true, true_and, and_false, false_and, List.getElem?_cons_zero, List.getElem?_cons_succ, List.set_cons_zero, List.set_cons_succ, List.replicate, List.length_cons, List.length_nil, List.cons_append, List.nil_append, Nat.reduceAdd, Nat.reduceSub, decide_eq_true_eq, decide_eq_false_iff_not, Bool.true_eq_false, Bool.false_eq_true, true_implies, false_implies, implies_true, Nat.reduceLT, exists_const, z_vB_inj, and_assoc, z_in_iff, oI2L, oL2I, Int.toNat_natCast, z_toNat0, Bool.not_eq_true', Bool.not_eq_false', ne_eq, Bool.not_true, Bool.not_false, Nat.add_zero, Int.add_zero, z_sl_s]
    repeat (refine And.intro (by omega) ?_)
    refine qS_for (fun k => [vR 85, vI (i : Int), vB true, vI (k : Int)]) (fun k => k_W (k_u U 99 (D k))) (fun _ => True) 5 rfl (by rw [hD]; rfl) trivial (by decide) ?_ ?_
    · intro k hk _
      have t : (5 * (i : Int) + (k : Int)).toNat = 5 * i + k := by omega
      have zD : z_up (D k) k (D k k + S 98 (5 * i + k)) = D (k + 1) := by rw [hD]; rfl
      have e1 : S 98 (5 * i + k) = kF S 10 5 i k := (I.sm i k h_i hk).symm
      have g1 := I.g i k h_i hk
      have c1 := cb k hk
      have ci := cb i h_i
      have b1 : -1000 ≤ D k k ∧ D k k ≤ 1000 := by
        have en : nAll (rE S) i = nAll (kF S 10 5) i := (nCe_cg I.sm h_i 31 5 (by omega)).symm
        rw [hD, rFr_at, if_neg (by omega), en]
        unfold z_up
        rw [(I.2.2.2.1.2.2 i h_i).1, (I.2.2.2.1.2.2 k hk).1]
        split <;> omega
      have b2 : 0 ≤ S 98 (5 * i + k) ∧ S 98 (5 * i + k) ≤ 3 := by rw [e1]; omega
      simp only [t, u98, zD, k_v85, k_o85, k_r0, k_r1, k_r2, k_r3, k_r4, k_r5, k_r6, k_r7, k_r8, k_r9, k_r10, k_r11, k_r12, k_r13, k_r14, k_r15, k_r16, k_r17, k_r18, k_rl, k_sc, k_st, k_a86, k_s86, k_a87, k_s87, k_a88, k_s88, k_a89, k_s89, k_a90, k_s90, k_a91, k_s91, k_a92, k_s92, k_a93, k_s93, k_a94, k_s94, k_a95, k_s95, k_a96, k_s96, k_a97, k_s97, k_a98, k_s98, k_a99, k_s99, k_a100, k_s100, k_a101, k_s101, k_a102, k_s102, k_u_s, k_u_n, k_u_u, Nat.reduceEqDiff, not_false_eq_true, qS_nop, qS_seq, qS_set, qS_setJ, qS_if, qS_brk, qS_ret, qS_retV, qS_throw, qS_inc, qS_cl, qS_ast, qS_aop, qS_fst, qS_fop, qS_sw, qT_eC, qT_eCB, qT_eL, qT_eLJ, qT_eLR, qT_eLB, qT_e1, qT_e2, qT_bCmp, qT_bCmpJ, qT_bAnd, qT_bOr, qT_bNot, qT_eBI, qT_eIf, qT_eLd, qT_eLdR, qT_eLen, qT_eF, qT_eFR, qT_aN, qT_aS, qT_eCl, qT_eClR, qT_eClB, qT_some, qT_x, z_nx_N, z_nx_B, z_nx_R, z_nx_X, z_bk_N, z_bk_B, z_bk_R, z_bk_X, oAdd, oSub, oMul, oNeg, cLt, cLe, cGt, cGe, cEq, cNe, Option.some.injEq, Sum.inl.injEq, Sum.inr.injEq, Prod.mk.injEq, exists_eq_left, exists_eq_left', exists_eq_right, exists_and_left, reduceCtorEq, and_true, true_and, and_false, false_and, List.getElem?_cons_zero, List.getElem?_cons_succ, List.set_cons_zero, List.set_cons_succ, List.replicate, List.length_cons, List.length_nil, List.cons_append, List.nil_append, Nat.reduceAdd, Nat.reduceSub, decide_eq_true_eq, decide_eq_false_iff_not, Bool.true_eq_false, Bool.false_eq_true, true_implies, false_implies, implies_true, Nat.reduceLT, exists_const, z_vB_inj, and_assoc, z_in_iff, oI2L, oL2I, Int.toNat_natCast, z_toNat0, Bool.not_eq_true', Bool.not_eq_false', ne_eq, Bool.not_true, Bool.not_false, Nat.add_zero, Int.add_zero, z_sl_s]
      (repeat' (first | apply And.intro | intro _)) <;> first | omega | rfl | grind
    · intro _
      have dq := d5 i h_i
      simp only [dq, k_v85, k_o85, k_r0, k_r1, k_r2, k_r3, k_r4, k_r5, k_r6, k_r7, k_r8, k_r9, k_r10, k_r11, k_r12, k_r13, k_r14, k_r15, k_r16, k_r17, k_r18, k_rl, k_sc, k_st, k_a86, k_s86, k_a87, k_s87, k_a88, k_s88, k_a89, k_s89, k_a90, k_s90, k_a91, k_s91, k_a92, k_s92, k_a93, k_s93, k_a94, k_s94, k_a95, k_s95, k_a96, k_s96, k_a97, k_s97, k_a98, k_s98, k_a99, k_s99, k_a100, k_s100, k_a101, k_s101, k_a102, k_s102, k_u_s, k_u_n, k_u_u, Nat.reduceEqDiff, not_false_eq_true, qS_nop, qS_seq, qS_set, qS_setJ, qS_if, qS_brk, qS_ret, qS_retV, qS_throw, qS_inc, qS_cl, qS_ast, qS_aop, qS_fst, qS_fop, qS_sw, qT_eC, qT_eCB, qT_eL, qT_eLJ, qT_eLR, qT_eLB, qT_e1, qT_e2, qT_bCmp, qT_bCmpJ, qT_bAnd, qT_bOr, qT_bNot, qT_eBI, qT_eIf, qT_eLd, qT_eLdR, qT_eLen, qT_eF, qT_eFR, qT_aN, qT_aS, qT_eCl, qT_eClR, qT_eClB, qT_some, qT_x, z_nx_N, z_nx_B, z_nx_R, z_nx_X, z_bk_N, z_bk_B, z_bk_R, z_bk_X, oAdd, oSub, oMul, oNeg, cLt, cLe, cGt, cGe, cEq, cNe, Option.some.injEq, Sum.inl.injEq, Sum.inr.injEq, Prod.mk.injEq, exists_eq_left, exists_eq_left', exists_eq_right, exists_and_left, reduceCtorEq, and_true, true_and, and_false, false_and, List.getElem?_cons_zero, List.getElem?_cons_succ, List.set_cons_zero, List.set_cons_succ, List.replicate, List.length_cons, List.length_nil, List.cons_append, List.nil_append, Nat.reduceAdd, Nat.reduceSub, decide_eq_true_eq, decide_eq_false_iff_not, Bool.true_eq_false, Bool.false_eq_true, true_implies, false_implies, implies_true, Nat.reduceLT, exists_const, z_vB_inj, and_assoc, z_in_iff, oI2L, oL2I, Int.toNat_natCast, z_toNat0, Bool.not_eq_true', Bool.not_eq_false', ne_eq, Bool.not_true, Bool.not_false, Nat.add_zero, Int.add_zero, z_sl_s]
      (repeat' (first | apply And.intro | intro _)) <;> first | omega | rfl | grind
  · have z0 : ∀ a, a ≠ 85 → a ≠ 99 → a ≠ 103 → k_u (k_t (k_u A4 103 g) 0) 99 (D 5) a = A4 a := fun a h1 h2 h3 => by rw [k_u_n h2, k_t_n h1, k_u_n h3]
    refine I.of4 ⟨?_, fun x y hx hy => ?_, fun x hx => ?_⟩ (fun a ha h1 h2 h3 => ?_)
    · have e : kF (k_u (k_t (k_u A4 103 g) 0) 99 (D 5)) 10 5 = kF S 10 5 := kF_e (fun x hx => by rw [z0 _ (by omega) (by omega) (by omega), A4f _ (by unfold kFree; omega) (by omega)])
      rw [e]
      exact I.g
    · have e := I.2.2.2.1.2.1 x y hx hy
      rw [z0 _ (by omega) (by omega) (by omega), A4f (10 + x) (by unfold kFree; omega) (by omega), ← e]
      unfold rE
      rw [z0 _ (by omega) (by omega) (by omega), A4f 98 (by unfold kFree; omega) (by omega)]
    · rw [k_u_s, z0 15 (by omega) (by omega) (by omega), s415, d5 x hx, c5 x hx]
      have w := q1
      rw [hR] at w
      have w2 := w x hx
      have b := qb x hx
      have b6 : INF = 1000000 := rfl
      omega
    · rw [z0 a (fun e => ha (by subst e; unfold kFree; omega)) h3 (fun e => ha (by subst e; unfold kFree; omega)), A4f a ha (by omega)]
  · rw [k_u_n (by decide), k_t_103]
  · rw [k_u_n (by decide), k_t_1]
end FF
