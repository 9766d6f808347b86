/-! CHIPS: the class's rank; what a rank is, is one number -/
variable {X : z_Hp}
/-- r is the rank of V, by what is left at 0 -/
def rkOf (B : Nat → Nat → Int) (V : Nat → Int) (r : Int) : Prop := ∃ W, hEq B V W ∧ cRd B 0 W ∧ ((W 0 < 0 ∧ r = -1) ∨ (0 ≤ W 0 ∧ rSp B W 1 0 (W 0) r))
theorem aOk_0 (B : Nat → Nat → Int) (i : Nat) : aOk B i 0 (fun _ => 0) := ⟨fun _ _ => Int.le_refl _, fun _ _ _ => rfl, fun _ _ _ => rfl, by have : s5 (fun _ => (0 : Int)) = 0 := rfl; omega⟩
theorem cLf_0 {B : Nat → Nat → Int} {W : Nat → Int} (h : cRd B 0 W) : cLf B (fun v => W v - (fun _ => (0 : Int)) v) (W 0) := ⟨W, hEq.cg (fun v _ => by simp) (hEq.rf W), h, rfl⟩
theorem rkOf.un {B : Nat → Nat → Int} (c : cOk B 0) {V : Nat → Int} {r r' : Int} (h : rkOf B V r) (h' : rkOf B V r') : r = r' := by
  obtain ⟨W, a1, a2, a3⟩ := h
  obtain ⟨U, b1, b2, b3⟩ := h'
  have e := cRd.un c.1 a2 b2 (a1.sy.tr b1) (by omega) c.2.2.1
  have e0 := e 0 (by omega)
  rcases a3 with ⟨w1, w2⟩ | ⟨w1, w2⟩ <;> rcases b3 with ⟨u1, u2⟩ | ⟨u1, u2⟩
  · omega
  · omega
  · omega
  · have t : ∀ (a : Nat → Int) (x : Int), cLf B (fun v => W v - a v) x → cLf B (fun v => U v - a v) x := fun a x hl => hl.cg (fun v hv => by rw [e v hv])
    have t' : ∀ (a : Nat → Int) (x : Int), cLf B (fun v => U v - a v) x → cLf B (fun v => W v - a v) x := fun a x hl => hl.cg (fun v hv => by rw [e v hv])
    have l1 : r' ≤ r := by
      rcases w2.2.2 with q | ⟨a, x, ha, hl, q⟩
      · have := u2.1; omega
      · rw [q]; exact u2.2.1 a x ha (t a x hl)
    have l2 : r ≤ r' := by
      rcases u2.2.2 with q | ⟨a, x, ha, hl, q⟩
      · have := w2.1; omega
      · rw [q]; exact w2.2.1 a x ha (t' a x hl)
    omega
/-- .. and by the reference's way -/
theorem rkOf.rf {B : Nat → Nat → Int} (c : cOk B 0) {V W : Nat → Int} {r r' : Int} (h : rkOf B V r) (hE : hEq B V W) (hR : cRd B 0 W) (h1 : -1 ≤ r') (h2 : ∀ a x, aOk B 1 0 a → cLf B (fun v => W v - a v) x → r' ≤ cVl 0 a x) (h3 : (nDg B W 5 < 0 ∧ r' = -1) ∨ r' = nDg B W 5 ∨ ∃ a x, aOk B 1 0 a ∧ cLf B (fun v => W v - a v) x ∧ cVl 0 a x < r' + 1) : r' = r := by
  obtain ⟨U, b1, b2, b3⟩ := h
  have e := cRd.un c.1 hR b2 (hE.sy.tr b1) (by omega) c.2.2.1
  have e0 := e 0 (by omega)
  have z := hR.z c.1
  have v0 := h2 _ _ (aOk_0 B 1) (cLf_0 hR)
  have s0 : s5 (fun _ => (0 : Int)) = 0 := rfl
  unfold cVl at v0
  rw [s0] at v0
  rcases b3 with ⟨u1, u2⟩ | ⟨u1, u2⟩
  · rw [if_pos (by omega)] at v0
    omega
  · rw [if_neg (by omega)] at v0
    have t' : ∀ (a : Nat → Int) (x : Int), cLf B (fun v => U v - a v) x → cLf B (fun v => W v - a v) x := fun a x hl => hl.cg (fun v hv => by rw [e v hv])
    have t : ∀ (a : Nat → Int) (x : Int), cLf B (fun v => W v - a v) x → cLf B (fun v => U v - a v) x := fun a x hl => hl.cg (fun v hv => by rw [e v hv])
    have l1 : r' ≤ r := by
      rcases u2.2.2 with q | ⟨a, x, ha, hl, q⟩
      · omega
      · rw [q]; exact h2 a x ha (t' a x hl)
    have l2 : r ≤ r' := by
      rcases h3 with q | q | ⟨a, x, ha, hl, q⟩
      · omega
      · have := u2.1; omega
      · have := u2.2.1 a x ha (t a x hl); omega
    omega
section CZ
variable {S : Nat → Nat → Int}
theorem sl_rank (c : cOk (kF S 10 5) 0) (hV : nVb (S 18) 113) (hd : nDg (kF S 10 5) (S 18) 5 ≤ 8) : ∃ r S', m_X3_rankOfStart [vR 8] (k_W X S) = some (.inl (some (vI r)), k_W X S') ∧ (∀ x, x ≠ 16 → (x < 18 ∨ 22 < x) → S' x = S x) ∧ rkOf (kF S 10 5) (S 18) r := by
  have hB := c.1.bd
  have e1 := s_spread (k_net (X := X) (S := S)) hB (x := 0) (by omega)
  rw [Int.natCast_zero, k_s16] at e1
  have f1 : ∀ g, kF (k_u S 16 g) 10 5 = kF S 10 5 := fun g => kF_u (by omega)
  have r := nAt.redW (k_net (X := X) (S := k_u S 16 (nG (kF S 10 5) (S 16) 0 4))) (q := 0) (by rw [f1]; exact c) (i := 0) (by omega) (fun k hk => by rw [k_u_s, f1]; unfold nG; rw [if_pos (by omega)]) (fun v hv => by
    rw [kF_l (by omega), k_u_n (by omega)]
    have := hV v hv
    show -126 ≤ S 18 v ∧ S 18 v ≤ 126
    omega)
  rw [f1, kF_l (by omega), k_u_n (by omega)] at r
  obtain ⟨W, m, e2, hi, hm, hr⟩ := r
  rw [show 18 + 0 = 18 from rfl, k_s18] at e2
  have f2 : kF (k_u (k_u S 16 (nG (kF S 10 5) (S 16) 0 4)) 18 W) 10 5 = kF S 10 5 := (kF_u (by omega)).trans (f1 _)
  have wb := hi.bd c hm (fun v hv => by have := hV v hv; show -126 ≤ S 18 v ∧ S 18 v ≤ 126; omega)
  have hz := hr.z c.1
  have hdg : nDg (kF S 10 5) W 5 = nDg (kF S 10 5) (S 18) 5 := nDg_eq c.1 hi.1
  have e3 := s_dg (k_net (X := X) (S := k_u (k_u S 16 (nG (kF S 10 5) (S 16) 0 4)) 18 W)) (by rw [f2]; exact hB) (p := 18) (V := W) ((k_get (by omega)).trans (by rw [k_u_s]; rfl)) (fun v hv => by have := wb v hv; show -100000000 ≤ W v ∧ W v ≤ 100000000; omega)
  have e4 := s_gn (k_net (X := X) (S := k_u (k_u S 16 (nG (kF S 10 5) (S 16) 0 4)) 18 W)) (by rw [f2]; exact hB)
  rw [f2] at e3 e4
  have bg : -10 ≤ nGn (kF S 10 5) ∧ nGn (kF S 10 5) ≤ 26000 := by
    have b1 := nEd_b hB
    have b2 := z_cnt_b (fun v => z_dec (nHv (kF S 10 5) v)) 5
    unfold nGn
    omega
  have gn := hr.gn c.1
  have dlo : -20000000 ≤ nDg (kF S 10 5) W 5 := by have := wb 0 (by omega); omega
  have emx : ∀ h, z_mmax [vI 0, vI (nDg (kF S 10 5) W 5 - nGn (kF S 10 5))] h = some (.inl (some (vI (if 0 < nDg (kF S 10 5) W 5 - nGn (kF S 10 5) then nDg (kF S 10 5) W 5 - nGn (kF S 10 5) else 0))), h) := fun h => s_max ⟨by omega, by omega⟩ ⟨by omega, by omega⟩
  generalize hS2 : k_u (k_u S 16 (nG (kF S 10 5) (S 16) 0 4)) 18 W = S2 at e2 e3 e4 f2
  have s18 : S2 18 = W := by rw [← hS2, k_u_s]
  have s16 : ∀ k, k < 5 → S2 16 k = (nNr (kF S 10 5) 0 k : Int) := fun k hk => by rw [← hS2, k_u_n (by omega), k_u_s]; unfold nG; rw [if_pos (by omega)]
  have so : ∀ x, x ≠ 16 → x ≠ 18 → S2 x = S x := fun x h1 h2 => by rw [← hS2, k_u_n h2, k_u_n h1]
  have a18 : z_arr (k_W X S2) 18 0 = some (5, W) := by rw [k_a18, s18]
  have low : 0 ≤ W 0 → ∃ r S', m_X3_leastWithTaken 5 [vR 8, vI 1, vI 0, vI (W 0), vI (if 0 < nDg (kF S 10 5) W 5 - nGn (kF S 10 5) then nDg (kF S 10 5) W 5 - nGn (kF S 10 5) else 0)] (k_W X S2) = some (.inl (some (vI r)), k_W X S') ∧ (∀ x, x < 19 ∨ 22 < x → S' x = S2 x) ∧ rSp (kF S 10 5) W 1 0 (W 0) r := fun h0 => by
    have l := sl_least (X := X) 5 0 rfl (by omega) S2 0 (W 0) (if 0 < nDg (kF S 10 5) W 5 - nGn (kF S 10 5) then nDg (kF S 10 5) W 5 - nGn (kF S 10 5) else 0) (by rw [f2]; exact c) (by rw [f2]; exact s16) (by
      rw [f2, show 18 + 0 = 18 from rfl, s18]
      refine ⟨hr, ⟨by omega, by omega⟩, ⟨by omega, by omega⟩, fun v hv hn => ?_⟩
      rw [hi.2.2.2.2 v hv hn]
      exact hV v hv) (by omega) (by omega) (by split <;> omega) (by
      rw [f2, show 18 + 0 = 18 from rfl, s18]
      intro a x ha hl
      obtain ⟨U, q1, q2, q3⟩ := hl
      have d1 := nDg_eq c.1 q1
      have d2 := q2.gn c.1
      have d3 : nDg (kF S 10 5) (fun v => W v - a v) 5 = nDg (kF S 10 5) W 5 - s5 a := by
        rw [nDg_5, nDg_5, ← s5_sub]
        refine s5_eq (fun v hv => ?_)
        by_cases h : nHv (kF S 10 5) v
        · rw [if_pos ((z_dec_iff _).mpr h), if_pos ((z_dec_iff _).mpr h)]
        · rw [if_neg (fun w => h ((z_dec_iff _).mp w)), if_neg (fun w => h ((z_dec_iff _).mp w)), ha.2.2.1 v hv h]
          rfl
      have sa := s5_nn ha.1
      have z0 : s5 a = 0 → 0 ≤ x := fun z => by
        have za : ∀ v, v < 5 → a v = 0 := fun v hv => by have := s5_one hv ha.1; have := ha.1 v hv; omega
        have := cRd.un c.1 hr q2 (hEq.cg (fun v hv => by rw [za v hv]; omega) q1) (by omega) c.2.2.1 0 (by omega)
        omega
      unfold cVl
      split <;> split <;> omega)
    rw [f2, show 18 + 0 = 18 from rfl, s18] at l
    obtain ⟨r, S', e, fr, sp, -⟩ := l
    exact ⟨r, S', e, fr, sp⟩
  have fin : ∃ r S', m_X3_rankOfStart [vR 8] (k_W X S) = some (.inl (some (vI r)), k_W X S') ∧ ((∀ x, x ≠ 16 → (x < 18 ∨ 22 < x) → S' x = S x) ∧ rkOf (kF S 10 5) (S 18) r) := by
    unfold m_X3_rankOfStart
    rw [k_v8]
    apply q_bodyY
    have e0 : (0 : Int).toNat = 0 := rfl
    have r0 := k_q17 (show 0 < 5 by omega)
    have b0 := wb 0 (by omega)
    simp only [b_X3_rankOfStart, e1, e2, e3, e4, emx, k_o8, k_a17, e0, a18, if_true, Nat.reduceMul, qS_nop, qS_seq, qS_set, qS_setJ, qS_if, qS_brk, qS_ret, qS_retV, qS_throw, qS_inc, qS_cl, qS_ast, qS_aop, qS_fst, qS_fop, qS_sw, qT_eC, qT_eCB, qT_eL, qT_eLJ, qT_eLR, qT_eLB, qT_e1, qT_e2, qT_bCmp, qT_bCmpJ, qT_bAnd, qT_bOr, qT_bNot, qT_eBI, qT_eIf, qT_eLd, qT_eLdR, qT_eLen, qT_eF, qT_eFR, qT_aN, qT_aS, qT_eCl, qT_eClR, qT_eClB, qT_some, qT_x, z_nx_N, z_nx_B, z_nx_R, z_nx_X, z_bk_N, z_bk_B, z_bk_R, z_bk_X, oAdd, oSub, oMul, oNeg, cLt, cLe, cGt, cGe, cEq, cNe, Option.some.injEq, Sum.inl.injEq, Sum.inr.injEq, Prod.mk.injEq, exists_eq_left, exists_eq_left', exists_eq_right, exists_and_left, reduceCtorEq, and_true, true_and, and_false, false_and, List.getElem?_cons_zero, List.getElem?_cons_succ, List.set_cons_zero, List.set_cons_succ, List.replicate, List.length_cons, List.length_nil, List.cons_append, List.nil_append, Nat.reduceAdd, Nat.reduceSub, decide_eq_true_eq, decide_eq_false_iff_not, Bool.true_eq_false, Bool.false_eq_true, true_implies, false_implies, implies_true, Nat.reduceLT, exists_const, z_vB_inj, and_assoc, z_in_iff, oI2L, oL2I, Int.toNat_natCast, z_toNat0, Bool.not_eq_true', Bool.not_eq_false', ne_eq, Bool.not_true, Bool.not_false, Nat.add_zero, Int.add_zero, z_sl_s]
    repeat (refine And.intro (by omega) ?_)
    refine ⟨fun p => ⟨S2, rfl, fun x h1 h2 => so x h1 (by omega), W, hi.1, hr, Or.inl ⟨p, rfl⟩⟩, fun p => ?_⟩
    repeat (refine And.intro (by omega) ?_)
    refine (low (by omega)).elim fun r lw => lw.elim fun S' lw => ?_
    simp only [lw.1, qS_nop, qS_seq, qS_set, qS_setJ, qS_if, qS_brk, qS_ret, qS_retV, qS_throw, qS_inc, qS_cl, qS_ast, qS_aop, qS_fst, qS_fop, qS_sw, qT_eC, qT_eCB, qT_eL, qT_eLJ, qT_eLR, qT_eLB, qT_e1, qT_e2, qT_bCmp, qT_bCmpJ, qT_bAnd, qT_bOr, qT_bNot, qT_eBI, qT_eIf, qT_eLd, qT_eLdR, qT_eLen, qT_eF, qT_eFR, qT_aN, qT_aS, qT_eCl, qT_eClR, qT_eClB, qT_some, qT_x, z_nx_N, z_nx_B, z_nx_R, z_nx_X, z_bk_N, z_bk_B, z_bk_R, z_bk_X, oAdd, oSub, oMul, oNeg, cLt, cLe, cGt, cGe, cEq, cNe, Option.some.injEq, Sum.inl.injEq, Sum.inr.injEq, Prod.mk.injEq, exists_eq_left, exists_eq_left', exists_eq_right, exists_and_left, reduceCtorEq, and_true, true_and, and_false, false_and, List.getElem?_cons_zero, List.getElem?_cons_succ, List.set_cons_zero, List.set_cons_succ, List.replicate, List.length_cons, List.length_nil, List.cons_append, List.nil_append, Nat.reduceAdd, Nat.reduceSub, decide_eq_true_eq, decide_eq_false_iff_not, Bool.true_eq_false, Bool.false_eq_true, true_implies, false_implies, implies_true, Nat.reduceLT, exists_const, z_vB_inj, and_assoc, z_in_iff, oI2L, oL2I, Int.toNat_natCast, z_toNat0, Bool.not_eq_true', Bool.not_eq_false', ne_eq, Bool.not_true, Bool.not_false, Nat.add_zero, Int.add_zero, z_sl_s]
    exact ⟨S', rfl, fun x h1 h2 => (lw.2.1 x (by omega)).trans (so x h1 (by omega)), W, hi.1, hr, Or.inr ⟨by omega, lw.2.2⟩⟩
  exact fin
end CZ
