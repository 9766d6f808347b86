/-! THE FACE: rank, restRank -/
section RL
variable {S : Nat → Nat → Int}
/-- the chips that the class asks for -/
def kPv (S : Nat → Nat → Int) (b : Bool) (v : Nat) : Int := if b = true then nAll (kF S 10 5) v - 2 - S 15 v else S 15 v
theorem kPv_b (I : kInv S) (b : Bool) {v : Nat} (hv : v < 5) : -113 ≤ kPv S b v ∧ kPv S b v ≤ 113 := by
  have c := I.2.2.2.1.2.2 v hv
  have h := I.g
  have n : 0 ≤ nAll (kF S 10 5) v ∧ nAll (kF S 10 5) v ≤ 15 := by
    rw [nAll_5]
    unfold s5
    have h0 := h v 0 hv (by omega)
    have h1 := h v 1 hv (by omega)
    have h2 := h v 2 hv (by omega)
    have h3 := h v 3 hv (by omega)
    have h4 := h v 4 hv (by omega)
    dsimp only
    omega
  unfold kPv
  split <;> omega
/-- the worlds of a rank: connected is asked, the chips lie in the first pile -/
def kA1 (S : Nat → Nat → Int) : Nat → Nat → Int := k_u S 16 (nG (kF S 10 5) (S 16) 0 4)
theorem kRank (I : kInv S) (q : kQ S) (b : Bool) {P : Nat → Int} (hP : ∀ v, v < 5 → P v = kPv S b v) (hd : nDg (kF S 10 5) P 5 ≤ 8) : ∃ r S1, m_X3_rankOfStart [vR 8] (k_W (k_u (kA1 S) 18 P)) = some (.inl (some (vI r)), k_W S1) ∧ (∀ a, ¬ kFree a → S1 a = S a) ∧ ∀ T : Nat → Nat → Int, T 98 = S 98 → T 99 = S 99 → (∀ v, v < 5 → T 101 v = rLb (rE S) (S 99) b v) → ∃ T', m_X6_rankOfBase [vR 85] (k_W T) = some (.inl (some (vI r)), k_W T') ∧ ∀ x, x ≠ 100 → x ≠ 101 → T' x = T x := by
  have eF : kF (k_u (kA1 S) 18 P) 10 5 = kF S 10 5 := by
    unfold kA1
    rw [kF_u (by omega), kF_u (by omega)]
  have e18 : k_u (kA1 S) 18 P 18 = P := k_u_s _ _ _
  have c := kQ.ok I q
  have eL : ∀ v, v < 5 → nHv (rE S) v → rLb (rE S) (S 99) b v = P v := fun v hv hn => by
    unfold rLb
    rw [if_pos ((z_dec_iff _).mpr hn), hP v hv]
    unfold kPv nAll
    rw [← nCe_cg I.sm hv 31 5 (by omega), (I.2.2.2.1.2.2 v hv).1]
  obtain ⟨r, S1, h1, h2, h3⟩ := sl_rank (S := k_u (kA1 S) 18 P) (by rw [eF]; exact c) (by rw [e18]; exact fun v hv => by rw [hP v hv]; exact kPv_b I b hv) (by rw [eF, e18]; exact hd)
  rw [eF, e18] at h3
  refine ⟨r, S1, h1, fun a ha => ?_, fun T t1 t2 t3 => ?_⟩
  · rw [h2 a (fun e => ha (by subst e; unfold kFree; omega)) (by unfold kFree at ha; omega), k_u_n (fun e => ha (by subst e; unfold kFree; omega))]
    exact k_u_n (fun e => ha (by subst e; unfold kFree; omega))
  · have eE := rE_e t1
    have eT : ∀ v, v < 5 → nHv (rE S) v → T 101 v = P v := fun v hv hn => by rw [t3 v hv, eL v hv hn]
    have eZ : ∀ v, v < 5 → ¬ nHv (rE S) v → T 101 v = 0 := fun v hv hn => by
      rw [t3 v hv]
      unfold rLb
      rw [if_neg (by rw [(z_dec_f _).mpr hn]; decide)]
    have k := rf_rankOfBase (S := T) (by rw [eE]; exact cOk_cg I.sm c) (fun v hv => by
      by_cases hn : nHv (rE S) v
      · rw [eT v hv hn, hP v hv]; exact kPv_b I b hv
      · rw [eZ v hv hn]; omega) (by rw [eE, nDg_bg I.sm.sy (V' := P) eT 5 (by omega)]; exact hd) (by rw [eE]; exact eZ)
    obtain ⟨r', T', k1, k2, k3⟩ := k
    rw [eE] at k3
    have e := k3 r ((rkOf_bg I.sm h3).off I.g' eT)
    subst e
    exact ⟨T', k1, k2⟩
theorem rf_canRank (I : kInv S) (b : Bool) {P : Nat → Int} (hP : ∀ v, v < 5 → P v = kPv S b v) {T : Nat → Nat → Int} (t1 : T 98 = S 98) (t2 : T 99 = S 99) : m_X6_canRank [vR 85, vB b] (k_W T) = some (.inl (some (vB (z_dec (kQ S ∧ nDg (kF S 10 5) P 5 ≤ 8)))), k_W (k_u T 101 (z_to 5 (rLb (rE S) (S 99) b) (T 101)))) := by
  have eE := rE_e t1
  have l := rf_layBase (S := T) (by rw [eE]; exact I.g'.bd) b
  rw [eE, t2] at l
  obtain ⟨U, hU⟩ : ∃ U, U = k_u T 101 (z_to 5 (rLb (rE S) (S 99) b) (T 101)) := ⟨_, rfl⟩
  rw [← hU] at l ⊢
  have u98 : U 98 = S 98 := by rw [hU, k_u_n (by decide), t1]
  have eU := rE_e u98
  have u101 : ∀ v, v < 5 → U 101 v = rLb (rE S) (S 99) b v := fun v hv => by rw [hU, k_u_s, z_to_lt hv]
  have eL : ∀ v, v < 5 → nHv (rE S) v → U 101 v = P v := fun v hv hn => by
    rw [u101 v hv]
    unfold rLb
    rw [if_pos ((z_dec_iff _).mpr hn), hP v hv]
    unfold kPv nAll
    rw [← nCe_cg I.sm hv 31 5 (by omega), (I.2.2.2.1.2.2 v hv).1]
  have cn := rf_cn I u98
  have dg := rf_degreeOfBase (S := U) (by rw [eU]; exact I.g'.bd)
  rw [eU, nDg_bg I.sm.sy eL 5 (by omega)] at dg
  have bd := nDg_b (B := kF S 10 5) (V := P) (b := 113) (by decide) (fun v hv => by rw [hP v hv]; exact kPv_b I b hv) 5 (by omega)
  unfold m_X6_canRank
  rw [k_v85]
  apply q_body
  have b6 : INF = 1000000 := rfl
  simp only [b_X6_canRank, l, cn, dg, qS_nop, qS_seq, qS_set, qS_setJ, qS_if, qS_brk, qS_ret, qS_retV, qS_throw, qS_inc, qS_cl, qS_ast, qS_aop, qS_fst, qS_fop, qS_sw, qT_eC, qT_eCB, qT_eL, qT_eLJ, qT_eLR, qT_eLB, qT_e1, qT_e2, qT_bCmp, qT_bCmpJ, qT_bAnd, qT_bOr, qT_bNot, qT_eBI, qT_eIf, qT_eLd, qT_eLdR, qT_eLen, qT_eF, qT_eFR, qT_aN, qT_aS, qT_eCl, qT_eClR, qT_eClB, qT_some, qT_x, z_nx_N, z_nx_B, z_nx_R, z_nx_X, z_bk_N, z_bk_B, z_bk_R, z_bk_X, oAdd, oSub, oMul, oNeg, cLt, cLe, cGt, cGe, cEq, cNe, Option.some.injEq, Sum.inl.injEq, Sum.inr.injEq, Prod.mk.injEq, exists_eq_left, exists_eq_left', exists_eq_right, exists_and_left, reduceCtorEq, and_true, true_and, and_false, false_and, List.getElem?_cons_zero, List.getElem?_cons_succ, List.set_cons_zero, List.set_cons_succ, List.replicate, List.length_cons, List.length_nil, List.cons_append, List.nil_append, Nat.reduceAdd, Nat.reduceSub, decide_eq_true_eq, decide_eq_false_iff_not, Bool.true_eq_false, Bool.false_eq_true, true_implies, false_implies, implies_true, Nat.reduceLT, exists_const, z_vB_inj, and_assoc, z_in_iff, oI2L, oL2I, Int.toNat_natCast, z_toNat0, Bool.not_eq_true', Bool.not_eq_false', ne_eq, Bool.not_true, Bool.not_false, Nat.add_zero, Int.add_zero, z_sl_s]
  generalize nDg (kF S 10 5) P 5 = X at *
  generalize kQ S = Q at *
  try simp only [List.cons.injEq, Sum.inl.injEq, Sum.inr.injEq, z_vB_inj, and_true, true_and, exists_eq', exists_eq_left, exists_eq_left', exists_eq_right, exists_eq_right', exists_and_left, exists_and_right, exists_const, if_true, if_false, z_vB1, z_vB0, z_vBP, z_bd, decide_eq_true_eq, decide_eq_false_iff_not, Bool.not_eq_true', Bool.false_eq_true, Bool.true_eq_false, z_dec_iff, z_dec_f, z_dec_inj, true_iff, iff_true, false_iff, iff_false, not_true_eq_false, not_false_eq_true, Classical.not_not]
  clear cn dg l eL u101
  (repeat' (first | apply And.intro | intro _)) <;> first | omega | rfl | grind
end RL
section RO
variable {S : Nat → Nat → Int}
theorem kPc (I : kInv S) (b : Bool) : ∃ P : Nat → Int, (∀ v, v < 5 → P v = kPv S b v) ∧ (if b = true then m_X3_copyRest [vR 8] (k_W (kA1 S)) else m_X3_copyChips [vR 8] (k_W (kA1 S))) = some (.inl none, k_W (k_u (kA1 S) 18 P)) := by
  have eF : kF (kA1 S) 10 5 = kF S 10 5 := by
    unfold kA1
    rw [kF_u (by omega)]
  have e15 : kA1 S 15 = S 15 := k_u_n (by decide)
  cases b
  · refine ⟨fun k => if k < 5 then S 15 k else kF (kA1 S) 18 5 0 k, fun v hv => if_pos hv, ?_⟩
    have e := s_copyChips (k_net (S := kA1 S))
    rw [k_s18, e15] at e
    exact e
  · refine ⟨fun k => if k < 5 then nAll (kF S 10 5) k - 2 - S 15 k else kF (kA1 S) 18 5 0 k, fun v hv => if_pos hv, ?_⟩
    have e := s_copyRest (k_net (S := kA1 S)) (by rw [eF]; exact I.g.bd) (fun v hv => by rw [e15]; have := I.2.2.2.1.2.2 v hv; omega)
    rw [k_s18, e15, eF] at e
    exact e
theorem kRankOp (I : kInv S) (b : Bool) {m5 m6 : z_Mt}
    (h50 : ¬ kQ S → m5 [vR 0] (k_W S) = some (.inr kIS, k_W (kA1 S)))
    (h51 : ∀ P, kQ S → (if b = true then m_X3_copyRest [vR 8] (k_W (kA1 S)) else m_X3_copyChips [vR 8] (k_W (kA1 S))) = some (.inl none, k_W (k_u (kA1 S) 18 P)) → m_X5_needRanked [vR 0] (k_W (k_u (kA1 S) 18 P)) = some (.inr kIS, k_W (k_u (kA1 S) 18 P)) → m5 [vR 0] (k_W S) = some (.inr kIS, k_W (k_u (kA1 S) 18 P)))
    (h52 : ∀ P r S1, kQ S → (if b = true then m_X3_copyRest [vR 8] (k_W (kA1 S)) else m_X3_copyChips [vR 8] (k_W (kA1 S))) = some (.inl none, k_W (k_u (kA1 S) 18 P)) → m_X5_needRanked [vR 0] (k_W (k_u (kA1 S) 18 P)) = some (.inl none, k_W (k_u (kA1 S) 18 P)) → m_X3_rankOfStart [vR 8] (k_W (k_u (kA1 S) 18 P)) = some (.inl (some (vI r)), k_W S1) → m5 [vR 0] (k_W S) = some (.inl (some (vI r)), k_W S1))
    (h60 : ∀ T U, m_X6_canRank [vR 85, vB b] (k_W T) = some (.inl (some (vB false)), k_W U) → m6 [vR 85] (k_W T) = some (.inl (some (vI 0)), k_W (k_t U 1)))
    (h61 : ∀ T U V r, m_X6_canRank [vR 85, vB b] (k_W T) = some (.inl (some (vB true)), k_W U) → m_X6_rankOfBase [vR 85] (k_W (k_t U 0)) = some (.inl (some (vI r)), k_W V) → m6 [vR 85] (k_W T) = some (.inl (some (vI r)), k_W V)) :
    kOp m5 m6 kIS "" [] S := by
  have A1 : ∀ a, ¬ kFree a → kA1 S a = S a := fun a ha => k_u_n (fun e => ha (by subst e; unfold kFree; omega))
  obtain ⟨P, hP, e1⟩ := kPc I b
  have A2 : ∀ a, ¬ kFree a → k_u (kA1 S) 18 P a = S a := fun a ha => by rw [k_u_n (fun e => ha (by subst e; unfold kFree; omega)), A1 a ha]
  have bad : ∀ S1 : Nat → Nat → Int, (∀ a, ¬ kFree a → S1 a = S a) → m5 [vR 0] (k_W S) = some (.inr kIS, k_W S1) → ¬ (kQ S ∧ nDg (kF S 10 5) P 5 ≤ 8) → kOp m5 m6 kIS "" [] S := fun S1 hS h5 no => by
    refine kOp.x1 (S1 := S1) (r := vI 0) (S2 := fun g => k_t (k_u (k_u S1 103 g) 101 (z_to 5 (rLb (rE S) (S 99) b) (k_u S1 103 g 101))) 1) h5 (fun g => ?_) (fun g => I.eq (fun a ha => ?_)) (fun g => ?_) (fun g => k_t_1)
    · have cr := rf_canRank I b hP (T := k_u S1 103 g) (by rw [k_u_n (by decide), hS 98 (by unfold kFree; omega)]) (by rw [k_u_n (by decide), hS 99 (by unfold kFree; omega)])
      rw [(z_dec_f _).mpr no] at cr
      exact h60 _ _ cr
    · rw [k_t_n (fun e => ha (by subst e; unfold kFree; omega)), k_u_n (fun e => ha (by subst e; unfold kFree; omega)), k_u_n (fun e => ha (by subst e; unfold kFree; omega)), hS a ha]
    · rw [k_t_n (by decide), k_u_n (by decide), k_u_s]
  by_cases q : kQ S
  · have eF : kF (k_u (kA1 S) 18 P) 10 5 = kF S 10 5 := by
      unfold kA1
      rw [kF_u (by omega), kF_u (by omega)]
    have e18 : k_u (kA1 S) 18 P 18 = P := k_u_s _ _ _
    have nr := s_nRk (S := k_u (kA1 S) 18 P) (by rw [eF]; exact I.g.bd) (by rw [e18]; exact fun v hv => by rw [hP v hv]; have := kPv_b I b hv; omega)
    rw [eF, e18] at nr
    by_cases d : nDg (kF S 10 5) P 5 ≤ 8
    · rw [if_pos d] at nr
      obtain ⟨r, S1, k1, k2, k3⟩ := kRank I q b hP d
      refine ⟨_, S1, h52 P r S1 q e1 nr k1, fun g => ?_⟩
      have t1 : k_u S1 103 g 98 = S 98 := by rw [k_u_n (by decide), k2 98 (by unfold kFree; omega)]
      have t2 : k_u S1 103 g 99 = S 99 := by rw [k_u_n (by decide), k2 99 (by unfold kFree; omega)]
      have cr := rf_canRank I b hP t1 t2
      rw [(z_dec_iff _).mpr ⟨q, d⟩] at cr
      obtain ⟨V, v1, v2⟩ := k3 (k_t (k_u (k_u S1 103 g) 101 (z_to 5 (rLb (rE S) (S 99) b) (k_u S1 103 g 101))) 0) (by rw [k_t_n (by decide), k_u_n (by decide), t1]) (by rw [k_t_n (by decide), k_u_n (by decide), t2]) (fun v hv => by rw [k_t_n (by decide), k_u_s, z_to_lt hv])
      refine ⟨vI r, V, h61 _ _ V r cr v1, I.eq (fun a ha => ?_), ?_, Or.inl ⟨rfl, ?_⟩⟩
      · rw [v2 a (fun e => ha (by subst e; unfold kFree; omega)) (fun e => ha (by subst e; unfold kFree; omega)), k_t_n (fun e => ha (by subst e; unfold kFree; omega)), k_u_n (fun e => ha (by subst e; unfold kFree; omega)), k_u_n (fun e => ha (by subst e; unfold kFree; omega)), k2 a ha]
      · rw [v2 103 (by decide) (by decide), k_t_n (by decide), k_u_n (by decide), k_u_s]
      · rw [v2 85 (by decide) (by decide)]
        exact k_t_1
    · rw [if_neg d] at nr
      exact bad _ A2 (h51 P q e1 nr) (fun w => d w.2)
  · exact bad _ A1 (h50 q) (fun w => q w.1)
theorem op_rank (I : kInv S) : kOp m_X5_rank m_X6_rank kIS "" [] S := by
  refine kRankOp I false (fun q => ?_) (fun P q c n => ?_) (fun P r S1 q c n k => ?_) (fun T U c => ?_) (fun T U V r c k => ?_)
  · have e := s_nCn0 I q
    have e' : m_X5_needConnected [vR 0] (k_W S) = some (.inr kIS, k_W (kA1 S)) := e
    unfold m_X5_rank
    rw [k_v0]
    apply q_body
    have b6 : INF = 1000000 := rfl
    simp only [b_X5_rank, e', qS_nop, qS_seq, qS_set, qS_setJ, qS_if, qS_brk, qS_ret, qS_retV, qS_throw, qS_inc, qS_cl, qS_ast, qS_aop, qS_fst, qS_fop, qS_sw, qT_eC, qT_eCB, qT_eL, qT_eLJ, qT_eLR, qT_eLB, qT_e1, qT_e2, qT_bCmp, qT_bCmpJ, qT_bAnd, qT_bOr, qT_bNot, qT_eBI, qT_eIf, qT_eLd, qT_eLdR, qT_eLen, qT_eF, qT_eFR, qT_aN, qT_aS, qT_eCl, qT_eClR, qT_eClB, qT_some, qT_x, z_nx_N, z_nx_B, z_nx_R, z_nx_X, z_bk_N, z_bk_B, z_bk_R, z_bk_X, oAdd, oSub, oMul, oNeg, cLt, cLe, cGt, cGe, cEq, cNe, Option.some.injEq, Sum.inl.injEq, Sum.inr.injEq, Prod.mk.injEq, exists_eq_left, exists_eq_left', exists_eq_right, exists_and_left, reduceCtorEq, and_true, true_and, and_false, false_and, List.getElem?_cons_zero, List.getElem?_cons_succ, List.set_cons_zero, List.set_cons_succ, List.replicate, List.length_cons, List.length_nil, List.cons_append, List.nil_append, Nat.reduceAdd, Nat.reduceSub, decide_eq_true_eq, decide_eq_false_iff_not, Bool.true_eq_false, Bool.false_eq_true, true_implies, false_implies, implies_true, Nat.reduceLT, exists_const, z_vB_inj, and_assoc, z_in_iff, oI2L, oL2I, Int.toNat_natCast, z_toNat0, Bool.not_eq_true', Bool.not_eq_false', ne_eq, Bool.not_true, Bool.not_false, Nat.add_zero, Int.add_zero, z_sl_s]
  · have e' : m_X5_needConnected [vR 0] (k_W S) = some (.inl none, k_W (kA1 S)) := s_nCn1 I q
    have c' : m_X3_copyChips [vR 8] (k_W (kA1 S)) = some (.inl none, k_W (k_u (kA1 S) 18 P)) := c
    unfold m_X5_rank
    rw [k_v0]
    apply q_body
    have b6 : INF = 1000000 := rfl
    simp only [b_X5_rank, e', c', n, k_o0, qS_nop, qS_seq, qS_set, qS_setJ, qS_if, qS_brk, qS_ret, qS_retV, qS_throw, qS_inc, qS_cl, qS_ast, qS_aop, qS_fst, qS_fop, qS_sw, qT_eC, qT_eCB, qT_eL, qT_eLJ, qT_eLR, qT_eLB, qT_e1, qT_e2, qT_bCmp, qT_bCmpJ, qT_bAnd, qT_bOr, qT_bNot, qT_eBI, qT_eIf, qT_eLd, qT_eLdR, qT_eLen, qT_eF, qT_eFR, qT_aN, qT_aS, qT_eCl, qT_eClR, qT_eClB, qT_some, qT_x, z_nx_N, z_nx_B, z_nx_R, z_nx_X, z_bk_N, z_bk_B, z_bk_R, z_bk_X, oAdd, oSub, oMul, oNeg, cLt, cLe, cGt, cGe, cEq, cNe, Option.some.injEq, Sum.inl.injEq, Sum.inr.injEq, Prod.mk.injEq, exists_eq_left, exists_eq_left', exists_eq_right, exists_and_left, reduceCtorEq, and_true, true_and, and_false, false_and, List.getElem?_cons_zero, List.getElem?_cons_succ, List.set_cons_zero, List.set_cons_succ, List.replicate, List.length_cons, List.length_nil, List.cons_append, List.nil_append, Nat.reduceAdd, Nat.reduceSub, decide_eq_true_eq, decide_eq_false_iff_not, Bool.true_eq_false, Bool.false_eq_true, true_implies, false_implies, implies_true, Nat.reduceLT, exists_const, z_vB_inj, and_assoc, z_in_iff, oI2L, oL2I, Int.toNat_natCast, z_toNat0, Bool.not_eq_true', Bool.not_eq_false', ne_eq, Bool.not_true, Bool.not_false, Nat.add_zero, Int.add_zero, z_sl_s]
  · have e' : m_X5_needConnected [vR 0] (k_W S) = some (.inl none, k_W (kA1 S)) := s_nCn1 I q
    have c' : m_X3_copyChips [vR 8] (k_W (kA1 S)) = some (.inl none, k_W (k_u (kA1 S) 18 P)) := c
    unfold m_X5_rank
    rw [k_v0]
    apply q_body
    have b6 : INF = 1000000 := rfl
    simp only [b_X5_rank, e', c', n, k, k_o0, qS_nop, qS_seq, qS_set, qS_setJ, qS_if, qS_brk, qS_ret, qS_retV, qS_throw, qS_inc, qS_cl, qS_ast, qS_aop, qS_fst, qS_fop, qS_sw, qT_eC, qT_eCB, qT_eL, qT_eLJ, qT_eLR, qT_eLB, qT_e1, qT_e2, qT_bCmp, qT_bCmpJ, qT_bAnd, qT_bOr, qT_bNot, qT_eBI, qT_eIf, qT_eLd, qT_eLdR, qT_eLen, qT_eF, qT_eFR, qT_aN, qT_aS, qT_eCl, qT_eClR, qT_eClB, qT_some, qT_x, z_nx_N, z_nx_B, z_nx_R, z_nx_X, z_bk_N, z_bk_B, z_bk_R, z_bk_X, oAdd, oSub, oMul, oNeg, cLt, cLe, cGt, cGe, cEq, cNe, Option.some.injEq, Sum.inl.injEq, Sum.inr.injEq, Prod.mk.injEq, exists_eq_left, exists_eq_left', exists_eq_right, exists_and_left, reduceCtorEq, and_true, true_and, and_false, false_and, List.getElem?_cons_zero, List.getElem?_cons_succ, List.set_cons_zero, List.set_cons_succ, List.replicate, List.length_cons, List.length_nil, List.cons_append, List.nil_append, Nat.reduceAdd, Nat.reduceSub, decide_eq_true_eq, decide_eq_false_iff_not, Bool.true_eq_false, Bool.false_eq_true, true_implies, false_implies, implies_true, Nat.reduceLT, exists_const, z_vB_inj, and_assoc, z_in_iff, oI2L, oL2I, Int.toNat_natCast, z_toNat0, Bool.not_eq_true', Bool.not_eq_false', ne_eq, Bool.not_true, Bool.not_false, Nat.add_zero, Int.add_zero, z_sl_s]
  · have c' : m_X6_canRank [vR 85, vB false] (k_W T) = some (.inl (some (vB false)), k_W U) := c
    unfold m_X6_rank
    rw [k_v85]
    apply q_body
    have b6 : INF = 1000000 := rfl
    simp only [b_X6_rank, c', rf_can1, z_vB1, z_vB0, if_true, if_false, not_true_eq_false, not_false_eq_true, k_t_n, k_t_1, exists_eq, qS_nop, qS_seq, qS_set, qS_setJ, qS_if, qS_brk, qS_ret, qS_retV, qS_throw, qS_inc, qS_cl, qS_ast, qS_aop, qS_fst, qS_fop, qS_sw, qT_eC, qT_eCB, qT_eL, qT_eLJ, qT_eLR, qT_eLB, qT_e1, qT_e2, qT_bCmp, qT_bCmpJ, qT_bAnd, qT_bOr, qT_bNot, qT_eBI, qT_eIf, qT_eLd, qT_eLdR, qT_eLen, qT_eF, qT_eFR, qT_aN, qT_aS, qT_eCl, qT_eClR, qT_eClB, qT_some, qT_x, z_nx_N, z_nx_B, z_nx_R, z_nx_X, z_bk_N, z_bk_B, z_bk_R, z_bk_X, oAdd, oSub, oMul, oNeg, cLt, cLe, cGt, cGe, cEq, cNe, Option.some.injEq, Sum.inl.injEq, Sum.inr.injEq, Prod.mk.injEq, exists_eq_left, exists_eq_left', exists_eq_right, exists_and_left, reduceCtorEq, and_true, true_and, and_false, false_and, List.getElem?_cons_zero, List.getElem?_cons_succ, List.set_cons_zero, List.set_cons_succ, List.replicate, List.length_cons, List.length_nil, List.cons_append, List.nil_append, Nat.reduceAdd, Nat.reduceSub, decide_eq_true_eq, decide_eq_false_iff_not, Bool.true_eq_false, Bool.false_eq_true, true_implies, false_implies, implies_true, Nat.reduceLT, exists_const, z_vB_inj, and_assoc, z_in_iff, oI2L, oL2I, Int.toNat_natCast, z_toNat0, Bool.not_eq_true', Bool.not_eq_false', ne_eq, Bool.not_true, Bool.not_false, Nat.add_zero, Int.add_zero, z_sl_s]
  · have c' : m_X6_canRank [vR 85, vB false] (k_W T) = some (.inl (some (vB true)), k_W U) := c
    unfold m_X6_rank
    rw [k_v85]
    apply q_body
    have b6 : INF = 1000000 := rfl
    simp only [b_X6_rank, c', rf_can0, k, z_vB1, z_vB0, if_true, if_false, not_true_eq_false, not_false_eq_true, k_t_n, k_t_1, exists_eq, qS_nop, qS_seq, qS_set, qS_setJ, qS_if, qS_brk, qS_ret, qS_retV, qS_throw, qS_inc, qS_cl, qS_ast, qS_aop, qS_fst, qS_fop, qS_sw, qT_eC, qT_eCB, qT_eL, qT_eLJ, qT_eLR, qT_eLB, qT_e1, qT_e2, qT_bCmp, qT_bCmpJ, qT_bAnd, qT_bOr, qT_bNot, qT_eBI, qT_eIf, qT_eLd, qT_eLdR, qT_eLen, qT_eF, qT_eFR, qT_aN, qT_aS, qT_eCl, qT_eClR, qT_eClB, qT_some, qT_x, z_nx_N, z_nx_B, z_nx_R, z_nx_X, z_bk_N, z_bk_B, z_bk_R, z_bk_X, oAdd, oSub, oMul, oNeg, cLt, cLe, cGt, cGe, cEq, cNe, Option.some.injEq, Sum.inl.injEq, Sum.inr.injEq, Prod.mk.injEq, exists_eq_left, exists_eq_left', exists_eq_right, exists_and_left, reduceCtorEq, and_true, true_and, and_false, false_and, List.getElem?_cons_zero, List.getElem?_cons_succ, List.set_cons_zero, List.set_cons_succ, List.replicate, List.length_cons, List.length_nil, List.cons_append, List.nil_append, Nat.reduceAdd, Nat.reduceSub, decide_eq_true_eq, decide_eq_false_iff_not, Bool.true_eq_false, Bool.false_eq_true, true_implies, false_implies, implies_true, Nat.reduceLT, exists_const, z_vB_inj, and_assoc, z_in_iff, oI2L, oL2I, Int.toNat_natCast, z_toNat0, Bool.not_eq_true', Bool.not_eq_false', ne_eq, Bool.not_true, Bool.not_false, Nat.add_zero, Int.add_zero, z_sl_s]
theorem op_restRank (I : kInv S) : kOp m_X5_restRank m_X6_restRank kIS "" [] S := by
  refine kRankOp I true (fun q => ?_) (fun P q c n => ?_) (fun P r S1 q c n k => ?_) (fun T U c => ?_) (fun T U V r c k => ?_)
  · have e := s_nCn0 I q
    have e' : m_X5_needConnected [vR 0] (k_W S) = some (.inr kIS, k_W (kA1 S)) := e
    unfold m_X5_restRank
    rw [k_v0]
    apply q_body
    have b6 : INF = 1000000 := rfl
    simp only [b_X5_restRank, e', qS_nop, qS_seq, qS_set, qS_setJ, qS_if, qS_brk, qS_ret, qS_retV, qS_throw, qS_inc, qS_cl, qS_ast, qS_aop, qS_fst, qS_fop, qS_sw, qT_eC, qT_eCB, qT_eL, qT_eLJ, qT_eLR, qT_eLB, qT_e1, qT_e2, qT_bCmp, qT_bCmpJ, qT_bAnd, qT_bOr, qT_bNot, qT_eBI, qT_eIf, qT_eLd, qT_eLdR, qT_eLen, qT_eF, qT_eFR, qT_aN, qT_aS, qT_eCl, qT_eClR, qT_eClB, qT_some, qT_x, z_nx_N, z_nx_B, z_nx_R, z_nx_X, z_bk_N, z_bk_B, z_bk_R, z_bk_X, oAdd, oSub, oMul, oNeg, cLt, cLe, cGt, cGe, cEq, cNe, Option.some.injEq, Sum.inl.injEq, Sum.inr.injEq, Prod.mk.injEq, exists_eq_left, exists_eq_left', exists_eq_right, exists_and_left, reduceCtorEq, and_true, true_and, and_false, false_and, List.getElem?_cons_zero, List.getElem?_cons_succ, List.set_cons_zero, List.set_cons_succ, List.replicate, List.length_cons, List.length_nil, List.cons_append, List.nil_append, Nat.reduceAdd, Nat.reduceSub, decide_eq_true_eq, decide_eq_false_iff_not, Bool.true_eq_false, Bool.false_eq_true, true_implies, false_implies, implies_true, Nat.reduceLT, exists_const, z_vB_inj, and_assoc, z_in_iff, oI2L, oL2I, Int.toNat_natCast, z_toNat0, Bool.not_eq_true', Bool.not_eq_false', ne_eq, Bool.not_true, Bool.not_false, Nat.add_zero, Int.add_zero, z_sl_s]
  · have e' : m_X5_needConnected [vR 0] (k_W S) = some (.inl none, k_W (kA1 S)) := s_nCn1 I q
    have c' : m_X3_copyRest [vR 8] (k_W (kA1 S)) = some (.inl none, k_W (k_u (kA1 S) 18 P)) := c
    unfold m_X5_restRank
    rw [k_v0]
    apply q_body
    have b6 : INF = 1000000 := rfl
    simp only [b_X5_restRank, e', c', n, k_o0, qS_nop, qS_seq, qS_set, qS_setJ, qS_if, qS_brk, qS_ret, qS_retV, qS_throw, qS_inc, qS_cl, qS_ast, qS_aop, qS_fst, qS_fop, qS_sw, qT_eC, qT_eCB, qT_eL, qT_eLJ, qT_eLR, qT_eLB, qT_e1, qT_e2, qT_bCmp, qT_bCmpJ, qT_bAnd, qT_bOr, qT_bNot, qT_eBI, qT_eIf, qT_eLd, qT_eLdR, qT_eLen, qT_eF, qT_eFR, qT_aN, qT_aS, qT_eCl, qT_eClR, qT_eClB, qT_some, qT_x, z_nx_N, z_nx_B, z_nx_R, z_nx_X, z_bk_N, z_bk_B, z_bk_R, z_bk_X, oAdd, oSub, oMul, oNeg, cLt, cLe, cGt, cGe, cEq, cNe, Option.some.injEq, Sum.inl.injEq, Sum.inr.injEq, Prod.mk.injEq, exists_eq_left, exists_eq_left', exists_eq_right, exists_and_left, reduceCtorEq, and_true, true_and, and_false, false_and, List.getElem?_cons_zero, List.getElem?_cons_succ, List.set_cons_zero, List.set_cons_succ, List.replicate, List.length_cons, List.length_nil, List.cons_append, List.nil_append, Nat.reduceAdd, Nat.reduceSub, decide_eq_true_eq, decide_eq_false_iff_not, Bool.true_eq_false, Bool.false_eq_true, true_implies, false_implies, implies_true, Nat.reduceLT, exists_const, z_vB_inj, and_assoc, z_in_iff, oI2L, oL2I, Int.toNat_natCast, z_toNat0, Bool.not_eq_true', Bool.not_eq_false', ne_eq, Bool.not_true, Bool.not_false, Nat.add_zero, Int.add_zero, z_sl_s]
  · have e' : m_X5_needConnected [vR 0] (k_W S) = some (.inl none, k_W (kA1 S)) := s_nCn1 I q
    have c' : m_X3_copyRest [vR 8] (k_W (kA1 S)) = some (.inl none, k_W (k_u (kA1 S) 18 P)) := c
    unfold m_X5_restRank
    rw [k_v0]
    apply q_body
    have b6 : INF = 1000000 := rfl
    simp only [b_X5_restRank, e', c', n, k, k_o0, qS_nop, qS_seq, qS_set, qS_setJ, qS_if, qS_brk, qS_ret, qS_retV, qS_throw, qS_inc, qS_cl, qS_ast, qS_aop, qS_fst, qS_fop, qS_sw, qT_eC, qT_eCB, qT_eL, qT_eLJ, qT_eLR, qT_eLB, qT_e1, qT_e2, qT_bCmp, qT_bCmpJ, qT_bAnd, qT_bOr, qT_bNot, qT_eBI, qT_eIf, qT_eLd, qT_eLdR, qT_eLen, qT_eF, qT_eFR, qT_aN, qT_aS, qT_eCl, qT_eClR, qT_eClB, qT_some, qT_x, z_nx_N, z_nx_B, z_nx_R, z_nx_X, z_bk_N, z_bk_B, z_bk_R, z_bk_X, oAdd, oSub, oMul, oNeg, cLt, cLe, cGt, cGe, cEq, cNe, Option.some.injEq, Sum.inl.injEq, Sum.inr.injEq, Prod.mk.injEq, exists_eq_left, exists_eq_left', exists_eq_right, exists_and_left, reduceCtorEq, and_true, true_and, and_false, false_and, List.getElem?_cons_zero, List.getElem?_cons_succ, List.set_cons_zero, List.set_cons_succ, List.replicate, List.length_cons, List.length_nil, List.cons_append, List.nil_append, Nat.reduceAdd, Nat.reduceSub, decide_eq_true_eq, decide_eq_false_iff_not, Bool.true_eq_false, Bool.false_eq_true, true_implies, false_implies, implies_true, Nat.reduceLT, exists_const, z_vB_inj, and_assoc, z_in_iff, oI2L, oL2I, Int.toNat_natCast, z_toNat0, Bool.not_eq_true', Bool.not_eq_false', ne_eq, Bool.not_true, Bool.not_false, Nat.add_zero, Int.add_zero, z_sl_s]
  · have c' : m_X6_canRank [vR 85, vB true] (k_W T) = some (.inl (some (vB false)), k_W U) := c
    unfold m_X6_restRank
    rw [k_v85]
    apply q_body
    have b6 : INF = 1000000 := rfl
    simp only [b_X6_restRank, c', rf_can1, z_vB1, z_vB0, if_true, if_false, not_true_eq_false, not_false_eq_true, k_t_n, k_t_1, exists_eq, qS_nop, qS_seq, qS_set, qS_setJ, qS_if, qS_brk, qS_ret, qS_retV, qS_throw, qS_inc, qS_cl, qS_ast, qS_aop, qS_fst, qS_fop, qS_sw, qT_eC, qT_eCB, qT_eL, qT_eLJ, qT_eLR, qT_eLB, qT_e1, qT_e2, qT_bCmp, qT_bCmpJ, qT_bAnd, qT_bOr, qT_bNot, qT_eBI, qT_eIf, qT_eLd, qT_eLdR, qT_eLen, qT_eF, qT_eFR, qT_aN, qT_aS, qT_eCl, qT_eClR, qT_eClB, qT_some, qT_x, z_nx_N, z_nx_B, z_nx_R, z_nx_X, z_bk_N, z_bk_B, z_bk_R, z_bk_X, oAdd, oSub, oMul, oNeg, cLt, cLe, cGt, cGe, cEq, cNe, Option.some.injEq, Sum.inl.injEq, Sum.inr.injEq, Prod.mk.injEq, exists_eq_left, exists_eq_left', exists_eq_right, exists_and_left, reduceCtorEq, and_true, true_and, and_false, false_and, List.getElem?_cons_zero, List.getElem?_cons_succ, List.set_cons_zero, List.set_cons_succ, List.replicate, List.length_cons, List.length_nil, List.cons_append, List.nil_append, Nat.reduceAdd, Nat.reduceSub, decide_eq_true_eq, decide_eq_false_iff_not, Bool.true_eq_false, Bool.false_eq_true, true_implies, false_implies, implies_true, Nat.reduceLT, exists_const, z_vB_inj, and_assoc, z_in_iff, oI2L, oL2I, Int.toNat_natCast, z_toNat0, Bool.not_eq_true', Bool.not_eq_false', ne_eq, Bool.not_true, Bool.not_false, Nat.add_zero, Int.add_zero, z_sl_s]
  · have c' : m_X6_canRank [vR 85, vB true] (k_W T) = some (.inl (some (vB true)), k_W U) := c
    unfold m_X6_restRank
    rw [k_v85]
    apply q_body
    have b6 : INF = 1000000 := rfl
    simp only [b_X6_restRank, c', rf_can0, k, z_vB1, z_vB0, if_true, if_false, not_true_eq_false, not_false_eq_true, k_t_n, k_t_1, exists_eq, qS_nop, qS_seq, qS_set, qS_setJ, qS_if, qS_brk, qS_ret, qS_retV, qS_throw, qS_inc, qS_cl, qS_ast, qS_aop, qS_fst, qS_fop, qS_sw, qT_eC, qT_eCB, qT_eL, qT_eLJ, qT_eLR, qT_eLB, qT_e1, qT_e2, qT_bCmp, qT_bCmpJ, qT_bAnd, qT_bOr, qT_bNot, qT_eBI, qT_eIf, qT_eLd, qT_eLdR, qT_eLen, qT_eF, qT_eFR, qT_aN, qT_aS, qT_eCl, qT_eClR, qT_eClB, qT_some, qT_x, z_nx_N, z_nx_B, z_nx_R, z_nx_X, z_bk_N, z_bk_B, z_bk_R, z_bk_X, oAdd, oSub, oMul, oNeg, cLt, cLe, cGt, cGe, cEq, cNe, Option.some.injEq, Sum.inl.injEq, Sum.inr.injEq, Prod.mk.injEq, exists_eq_left, exists_eq_left', exists_eq_right, exists_and_left, reduceCtorEq, and_true, true_and, and_false, false_and, List.getElem?_cons_zero, List.getElem?_cons_succ, List.set_cons_zero, List.set_cons_succ, List.replicate, List.length_cons, List.length_nil, List.cons_append, List.nil_append, Nat.reduceAdd, Nat.reduceSub, decide_eq_true_eq, decide_eq_false_iff_not, Bool.true_eq_false, Bool.false_eq_true, true_implies, false_implies, implies_true, Nat.reduceLT, exists_const, z_vB_inj, and_assoc, z_in_iff, oI2L, oL2I, Int.toNat_natCast, z_toNat0, Bool.not_eq_true', Bool.not_eq_false', ne_eq, Bool.not_true, Bool.not_false, Nat.add_zero, Int.add_zero, z_sl_s]
end RO
