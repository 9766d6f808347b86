/-! The reference: determinants -/
theorem z_or4 {a b c d e : Prop} (h : a ∨ b ∨ c ∨ d) (x : a → e) (y : b → e) (z : c → e) (w : d → e) : e := h.elim x (fun h => h.elim y (fun h => h.elim z w))
theorem z_or2 {a b e : Prop} (h : a ∨ b) (x : a → e) (y : b → e) : e := h.elim x y
def rBt (s : Nat) : Nat → Int
  | 0 => 0
  | k + 1 => rBt s k + (s : Int) / 2 ^ k % 2
theorem rBt_5 : ∀ s : Fin 32, rBt s.val 5 = (nb s.val : Int) := by decide
theorem z_up_id (f : Nat → Int) (k : Nat) : z_up f k (f k) = f := by
  funext i
  unfold z_up
  split
  · next h => rw [h]
  · rfl
theorem o_rest : ∀ (s : Fin 32) (c : Fin 5), oAnd (s.val : Int) (-((2 ^ c.val : Nat) : Int) - 1) = some ((if s.val.testBit c.val then s.val - 2 ^ c.val else s.val : Nat) : Int) := by decide
section RB
variable {S : Nat → Nat → Int}
theorem rf_bits {s : Nat} (hs : s < 32) {h : z_Hp} : m_X6_bits [vI (s : Int)] h = some (.inl (some (vI (nb s : Int))), h) := by
  unfold m_X6_bits
  apply q_body
  have b6 : INF = 1000000 := rfl
  simp only [b_X6_bits, qS_nop, qS_seq, qS_set, qS_setJ, qS_if, qS_brk, qS_ret, qS_retV, qS_throw, qS_inc, qS_cl, qS_ast, qS_aop, qS_fst, qS_fop, qS_sw, qT_eC, qT_eCB, qT_eL, qT_eLJ, qT_eLR, qT_eLB, qT_e1, qT_e2, qT_bCmp, qT_bCmpJ, qT_bAnd, qT_bOr, qT_bNot, qT_eBI, qT_eIf, qT_eLd, qT_eLdR, qT_eLen, qT_eF, qT_eFR, qT_aN, qT_aS, qT_eCl, qT_eClR, qT_eClB, qT_some, qT_x, z_nx_N, z_nx_B, z_nx_R, z_nx_X, z_bk_N, z_bk_B, z_bk_R, z_bk_X, oAdd, oSub, oMul, oNeg, cLt, cLe, cGt, cGe, cEq, cNe, Option.some.injEq, Sum.inl.injEq, Sum.inr.injEq, Prod.mk.injEq, exists_eq_left, exists_eq_left', exists_eq_right, exists_and_left, reduceCtorEq, and_true, true_and, and_false, false_and, List.getElem?_cons_zero, List.getElem?_cons_succ, List.set_cons_zero, List.set_cons_succ, List.replicate, List.length_cons, List.length_nil, List.cons_append, List.nil_append, Nat.reduceAdd, Nat.reduceSub, decide_eq_true_eq, decide_eq_false_iff_not, Bool.true_eq_false, Bool.false_eq_true, true_implies, false_implies, implies_true, Nat.reduceLT, exists_const, z_vB_inj, and_assoc, z_in_iff, oI2L, oL2I, Int.toNat_natCast, z_toNat0, Bool.not_eq_true', Bool.not_eq_false', ne_eq, Bool.not_true, Bool.not_false, Nat.add_zero, Int.add_zero, z_sl_s]
  refine qS_for (fun k => [vI (s : Int), vI (rBt s k), vI (k : Int)]) (fun _ => h) (fun _ => True) 5 rfl rfl trivial (by omega) ?_ ?_
  · intro k hk _
    have w := i_bits (s := (s : Int)) ⟨by omega, by omega⟩ hk
    have w2 := Classical.choose_spec w
    generalize Classical.choose w = y at w2
    have w3 := w2.1
    have w4 := w2.2
    have wr : rBt s (k + 1) = rBt s k + (s : Int) / 2 ^ k % 2 := rfl
    generalize (s : Int) / 2 ^ k % 2 = z at w4 wr
    simp only [w3, w4, wr, qS_nop, qS_seq, qS_set, qS_setJ, qS_if, qS_brk, qS_ret, qS_retV, qS_throw, qS_inc, qS_cl, qS_ast, qS_aop, qS_fst, qS_fop, qS_sw, qT_eC, qT_eCB, qT_eL, qT_eLJ, qT_eLR, qT_eLB, qT_e1, qT_e2, qT_bCmp, qT_bCmpJ, qT_bAnd, qT_bOr, qT_bNot, qT_eBI, qT_eIf, qT_eLd, qT_eLdR, qT_eLen, qT_eF, qT_eFR, qT_aN, qT_aS, qT_eCl, qT_eClR, qT_eClB, qT_some, qT_x, z_nx_N, z_nx_B, z_nx_R, z_nx_X, z_bk_N, z_bk_B, z_bk_R, z_bk_X, oAdd, oSub, oMul, oNeg, cLt, cLe, cGt, cGe, cEq, cNe, Option.some.injEq, Sum.inl.injEq, Sum.inr.injEq, Prod.mk.injEq, exists_eq_left, exists_eq_left', exists_eq_right, exists_and_left, reduceCtorEq, and_true, true_and, and_false, false_and, List.getElem?_cons_zero, List.getElem?_cons_succ, List.set_cons_zero, List.set_cons_succ, List.replicate, List.length_cons, List.length_nil, List.cons_append, List.nil_append, Nat.reduceAdd, Nat.reduceSub, decide_eq_true_eq, decide_eq_false_iff_not, Bool.true_eq_false, Bool.false_eq_true, true_implies, false_implies, implies_true, Nat.reduceLT, exists_const, z_vB_inj, and_assoc, z_in_iff, oI2L, oL2I, Int.toNat_natCast, z_toNat0, Bool.not_eq_true', Bool.not_eq_false', ne_eq, Bool.not_true, Bool.not_false, Nat.add_zero, Int.add_zero, z_sl_s]
    (repeat' (first | apply And.intro | intro _)) <;> first | omega | rfl | grind
  · intro _
    rw [← rBt_5 ⟨s, hs⟩]
    simp only [qS_nop, qS_seq, qS_set, qS_setJ, qS_if, qS_brk, qS_ret, qS_retV, qS_throw, qS_inc, qS_cl, qS_ast, qS_aop, qS_fst, qS_fop, qS_sw, qT_eC, qT_eCB, qT_eL, qT_eLJ, qT_eLR, qT_eLB, qT_e1, qT_e2, qT_bCmp, qT_bCmpJ, qT_bAnd, qT_bOr, qT_bNot, qT_eBI, qT_eIf, qT_eLd, qT_eLdR, qT_eLen, qT_eF, qT_eFR, qT_aN, qT_aS, qT_eCl, qT_eClR, qT_eClB, qT_some, qT_x, z_nx_N, z_nx_B, z_nx_R, z_nx_X, z_bk_N, z_bk_B, z_bk_R, z_bk_X, oAdd, oSub, oMul, oNeg, cLt, cLe, cGt, cGe, cEq, cNe, Option.some.injEq, Sum.inl.injEq, Sum.inr.injEq, Prod.mk.injEq, exists_eq_left, exists_eq_left', exists_eq_right, exists_and_left, reduceCtorEq, and_true, true_and, and_false, false_and, List.getElem?_cons_zero, List.getElem?_cons_succ, List.set_cons_zero, List.set_cons_succ, List.replicate, List.length_cons, List.length_nil, List.cons_append, List.nil_append, Nat.reduceAdd, Nat.reduceSub, decide_eq_true_eq, decide_eq_false_iff_not, Bool.true_eq_false, Bool.false_eq_true, true_implies, false_implies, implies_true, Nat.reduceLT, exists_const, z_vB_inj, and_assoc, z_in_iff, oI2L, oL2I, Int.toNat_natCast, z_toNat0, Bool.not_eq_true', Bool.not_eq_false', ne_eq, Bool.not_true, Bool.not_false, Nat.add_zero, Int.add_zero, z_sl_s]
    omega
theorem qT_to {α : Type} {x : z_Rs α} {v : α} {h : z_Hp} (H : qT x (fun w h' => w = v ∧ h' = h) (fun _ _ => False)) : x = some (.inl v, h) := by
  rcases x with _ | ⟨a | E, h'⟩
  · exact H.elim
  · obtain ⟨rfl, rfl⟩ := H
    rfl
  · exact H.elim
theorem rf_ch1 {m s l r c : Nat} {a b : z_V} (hm : m < 4) (hl : l < 32) (hs : s < 32) (hr : r < 5) (hc : c < 5) (b1 : -100000000 ≤ S 96 l ∧ S 96 l ≤ 1000000) (b2 : -100000 ≤ rM S m r c ∧ rM S m r c ≤ 1000000) : (eIf (bCmp cEq (eL 6) (eL 3)) (eC 1000000) (eCl (m_X6_plus) (aS vI (aS vI (aN) (eLd 0 (eFR 6 11 (eLR 0)) (eL 6))) (eCl (m_X6_in) (aS vI (aS vI (aS vI (aS vR (aN) (eLR 0)) (eL 1)) (eL 4)) (eL 5)))))) [vR 85, vI (m : Int), a, vI ((s : Nat) : Int), vI ((r : Nat) : Int), vI ((c : Nat) : Int), vI ((l : Nat) : Int), b] (k_W S) = some (.inl (if l = s then INF else z_plus (S 96 l) (rM S m r c)), k_W S) := by
  refine qT_to ?_
  have e1 := rf_in (S := S) hm hr hc
  have e2 := rf_plus (h := k_W S) (x := S 96 l) (y := rM S m r c) ⟨by omega, by omega⟩ ⟨by omega, by omega⟩
  simp only [e1, e2, k_v85, k_o85, k_r0, k_r1, k_r2, k_r3, k_r4, k_r5, k_r6, k_r7, k_r8, k_r9, k_r10, k_r11, k_r12, k_r13, k_r14, k_r15, k_r16, k_r17, k_r18, k_rl, k_sc, k_st, k_a86, k_s86, k_a87, k_s87, k_a88, k_s88, k_a89, k_s89, k_a90, k_s90, k_a91, k_s91, k_a92, k_s92, k_a93, k_s93, k_a94, k_s94, k_a95, k_s95, k_a96, k_s96, k_a97, k_s97, k_a98, k_s98, k_a99, k_s99, k_a100, k_s100, k_a101, k_s101, k_a102, k_s102, k_u_s, k_u_n, k_u_u, Nat.reduceEqDiff, not_false_eq_true, qS_nop, qS_seq, qS_set, qS_setJ, qS_if, qS_brk, qS_ret, qS_retV, qS_throw, qS_inc, qS_cl, qS_ast, qS_aop, qS_fst, qS_fop, qS_sw, qT_eC, qT_eCB, qT_eL, qT_eLJ, qT_eLR, qT_eLB, qT_e1, qT_e2, qT_bCmp, qT_bCmpJ, qT_bAnd, qT_bOr, qT_bNot, qT_eBI, qT_eIf, qT_eLd, qT_eLdR, qT_eLen, qT_eF, qT_eFR, qT_aN, qT_aS, qT_eCl, qT_eClR, qT_eClB, qT_some, qT_x, z_nx_N, z_nx_B, z_nx_R, z_nx_X, z_bk_N, z_bk_B, z_bk_R, z_bk_X, oAdd, oSub, oMul, oNeg, cLt, cLe, cGt, cGe, cEq, cNe, Option.some.injEq, Sum.inl.injEq, Sum.inr.injEq, Prod.mk.injEq, exists_eq_left, exists_eq_left', exists_eq_right, exists_and_left, reduceCtorEq, and_true, true_and, and_false, false_and, List.getElem?_cons_zero, List.getElem?_cons_succ, List.set_cons_zero, List.set_cons_succ, List.replicate, List.length_cons, List.length_nil, List.cons_append, List.nil_append, Nat.reduceAdd, Nat.reduceSub, decide_eq_true_eq, decide_eq_false_iff_not, Bool.true_eq_false, Bool.false_eq_true, true_implies, false_implies, implies_true, Nat.reduceLT, exists_const, z_vB_inj, and_assoc, z_in_iff, oI2L, oL2I, Int.toNat_natCast, z_toNat0, Bool.not_eq_true', Bool.not_eq_false', ne_eq, Bool.not_true, Bool.not_false, Nat.add_zero, Int.add_zero, z_sl_s]
  clear e1 e2
  generalize z_plus (S 96 l) (rM S m r c) = T
  (repeat' (first | apply And.intro | intro _)) <;> first | omega | rfl | grind
theorem rf_ch2 {s l : Nat} {t : Int} {a b c d : z_V} (hl : l < 32) (hs : s < 32) (b1 : -100000000 ≤ S 96 s ∧ S 96 s ≤ 1000000) (b2 : -100000000 ≤ t ∧ t ≤ 2000000) : (eIf (bCmp cLt (eL 7) (eLd 0 (eFR 6 11 (eLR 0)) (eL 3))) (eLd 0 (eFR 6 12 (eLR 0)) (eL 6)) (eIf (bAnd (bCmp cEq (eL 7) (eLd 0 (eFR 6 11 (eLR 0)) (eL 3))) (bCmp cNe (eL 7) (eC 1000000))) (e2 oAdd (eLd 0 (eFR 6 12 (eLR 0)) (eL 3)) (eLd 0 (eFR 6 12 (eLR 0)) (eL 6))) (eLd 0 (eFR 6 12 (eLR 0)) (eL 3)))) [vR 85, a, b, vI ((s : Nat) : Int), c, d, vI ((l : Nat) : Int), vI t] (k_W S) = some (.inl (if t < S 96 s then S 97 l else if t = S 96 s ∧ t ≠ INF then S 97 s + S 97 l else S 97 s), k_W S) := by
  refine qT_to ?_
  have b6 : INF = 1000000 := rfl
  simp only [k_v85, k_o85, k_r0, k_r1, k_r2, k_r3, k_r4, k_r5, k_r6, k_r7, k_r8, k_r9, k_r10, k_r11, k_r12, k_r13, k_r14, k_r15, k_r16, k_r17, k_r18, k_rl, k_sc, k_st, k_a86, k_s86, k_a87, k_s87, k_a88, k_s88, k_a89, k_s89, k_a90, k_s90, k_a91, k_s91, k_a92, k_s92, k_a93, k_s93, k_a94, k_s94, k_a95, k_s95, k_a96, k_s96, k_a97, k_s97, k_a98, k_s98, k_a99, k_s99, k_a100, k_s100, k_a101, k_s101, k_a102, k_s102, k_u_s, k_u_n, k_u_u, Nat.reduceEqDiff, not_false_eq_true, qS_nop, qS_seq, qS_set, qS_setJ, qS_if, qS_brk, qS_ret, qS_retV, qS_throw, qS_inc, qS_cl, qS_ast, qS_aop, qS_fst, qS_fop, qS_sw, qT_eC, qT_eCB, qT_eL, qT_eLJ, qT_eLR, qT_eLB, qT_e1, qT_e2, qT_bCmp, qT_bCmpJ, qT_bAnd, qT_bOr, qT_bNot, qT_eBI, qT_eIf, qT_eLd, qT_eLdR, qT_eLen, qT_eF, qT_eFR, qT_aN, qT_aS, qT_eCl, qT_eClR, qT_eClB, qT_some, qT_x, z_nx_N, z_nx_B, z_nx_R, z_nx_X, z_bk_N, z_bk_B, z_bk_R, z_bk_X, oAdd, oSub, oMul, oNeg, cLt, cLe, cGt, cGe, cEq, cNe, Option.some.injEq, Sum.inl.injEq, Sum.inr.injEq, Prod.mk.injEq, exists_eq_left, exists_eq_left', exists_eq_right, exists_and_left, reduceCtorEq, and_true, true_and, and_false, false_and, List.getElem?_cons_zero, List.getElem?_cons_succ, List.set_cons_zero, List.set_cons_succ, List.replicate, List.length_cons, List.length_nil, List.cons_append, List.nil_append, Nat.reduceAdd, Nat.reduceSub, decide_eq_true_eq, decide_eq_false_iff_not, Bool.true_eq_false, Bool.false_eq_true, true_implies, false_implies, implies_true, Nat.reduceLT, exists_const, z_vB_inj, and_assoc, z_in_iff, oI2L, oL2I, Int.toNat_natCast, z_toNat0, Bool.not_eq_true', Bool.not_eq_false', ne_eq, Bool.not_true, Bool.not_false, Nat.add_zero, Int.add_zero, z_sl_s]
  (repeat' (first | apply And.intro | intro _)) <;> first | omega | rfl | grind
theorem rf_chooses {m n : Nat} (hm : m < 4) (hn : 1 ≤ n ∧ n ≤ 5) (h89 : S 89 m = (n : Int)) (hM : mBd (rM S m) 100000) :
    m_X6_chooses [vR 85, vI (m : Int)] (k_W S) = some (.inl none, k_W (k_u (k_u S 96 (cSets (rM S m) n (S 96, S 97) (2 ^ n - 1)).1) 97 (cSets (rM S m) n (S 96, S 97) (2 ^ n - 1)).2)) := by
  unfold m_X6_chooses
  rw [k_v85]
  apply q_body
  have b6 : INF = 1000000 := rfl
  have hs := o_shl ⟨n, by omega⟩
  simp only at hs
  have p5 : 1 ≤ 2 ^ n ∧ 2 ^ n ≤ 32 := ⟨Nat.pow_pos (by decide), by have := Nat.pow_le_pow_right (show 2 > 0 by decide) hn.2; omega⟩
  have hMu : ∀ f g, rM (k_u (k_u S 96 f) 97 g) m = rM S m := fun f g => by unfold rM; rw [k_u_n (by decide), k_u_n (by decide)]
  generalize hP : (S 96, S 97) = P
  have hP1 : S 96 = P.1 := by rw [← hP]
  have hP2 : S 97 = P.2 := by rw [← hP]
  simp only [b_X6_chooses, h89, hP1, hP2, k_v85, k_o85, k_r0, k_r1, k_r2, k_r3, k_r4, k_r5, k_r6, k_r7, k_r8, k_r9, k_r10, k_r11, k_r12, k_r13, k_r14, k_r15, k_r16, k_r17, k_r18, k_rl, k_sc, k_st, k_a86, k_s86, k_a87, k_s87, k_a88, k_s88, k_a89, k_s89, k_a90, k_s90, k_a91, k_s91, k_a92, k_s92, k_a93, k_s93, k_a94, k_s94, k_a95, k_s95, k_a96, k_s96, k_a97, k_s97, k_a98, k_s98, k_a99, k_s99, k_a100, k_s100, k_a101, k_s101, k_a102, k_s102, k_u_s, k_u_n, k_u_u, Nat.reduceEqDiff, not_false_eq_true, qS_nop, qS_seq, qS_set, qS_setJ, qS_if, qS_brk, qS_ret, qS_retV, qS_throw, qS_inc, qS_cl, qS_ast, qS_aop, qS_fst, qS_fop, qS_sw, qT_eC, qT_eCB, qT_eL, qT_eLJ, qT_eLR, qT_eLB, qT_e1, qT_e2, qT_bCmp, qT_bCmpJ, qT_bAnd, qT_bOr, qT_bNot, qT_eBI, qT_eIf, qT_eLd, qT_eLdR, qT_eLen, qT_eF, qT_eFR, qT_aN, qT_aS, qT_eCl, qT_eClR, qT_eClB, qT_some, qT_x, z_nx_N, z_nx_B, z_nx_R, z_nx_X, z_bk_N, z_bk_B, z_bk_R, z_bk_X, oAdd, oSub, oMul, oNeg, cLt, cLe, cGt, cGe, cEq, cNe, Option.some.injEq, Sum.inl.injEq, Sum.inr.injEq, Prod.mk.injEq, exists_eq_left, exists_eq_left', exists_eq_right, exists_and_left, reduceCtorEq, and_true, true_and, and_false, false_and, List.getElem?_cons_zero, List.getElem?_cons_succ, List.set_cons_zero, List.set_cons_succ, List.replicate, List.length_cons, List.length_nil, List.cons_append, List.nil_append, Nat.reduceAdd, Nat.reduceSub, decide_eq_true_eq, decide_eq_false_iff_not, Bool.true_eq_false, Bool.false_eq_true, true_implies, false_implies, implies_true, Nat.reduceLT, exists_const, z_vB_inj, and_assoc, z_in_iff, oI2L, oL2I, Int.toNat_natCast, z_toNat0, Bool.not_eq_true', Bool.not_eq_false', ne_eq, Bool.not_true, Bool.not_false, Nat.add_zero, Int.add_zero, z_sl_s]
  repeat (refine And.intro (by omega) ?_)
  refine qS_loop (fun k ρ h' => h' = k_W (k_u (k_u S 96 (cSets (rM S m) n P k).1) 97 (cSets (rM S m) n P k).2) ∧ ∃ a b c d, ρ = [vR 85, vI (m : Int), vI (n : Int), vI ((k : Int) + 1), a, b, c, d]) (2 ^ n - 1) ?_ ?_ (2 ^ n - 1) 0 z_fuel _ _ (by omega) (z_fuel_lt (by omega)) ⟨rfl, _, _, _, _, rfl⟩
  · rintro k ρ h' hk ⟨rfl, a, b, c, d, rfl⟩
    have ek : ((k : Int) + 1).toNat = k + 1 := by omega
    have b5 : ∀ h, m_X6_bits [vI ((k : Int) + 1)] h = some (.inl (some (vI (nb (k + 1) : Int))), h) := fun h => by
      have := rf_bits (s := k + 1) (by omega) (h := h)
      rwa [Int.natCast_add, Int.natCast_one] at this
    have n0 := nb_pos ⟨k + 1, by omega⟩ (Nat.succ_pos k)
    have n1 := nb_le ⟨k + 1, by omega⟩
    simp only at n0 n1
    have hin := cSets_in (P := P) hM hn.2 k (by omega)
    have wS : cSets (rM S m) n P (k + 1) = cCols (rM S m) (k + 1) (cSets (rM S m) n P k) n := rfl
    generalize cSets (rM S m) n P k = P1 at hin wS
    simp only [hs, ek, b5, k_v85, k_o85, k_r0, k_r1, k_r2, k_r3, k_r4, k_r5, k_r6, k_r7, k_r8, k_r9, k_r10, k_r11, k_r12, k_r13, k_r14, k_r15, k_r16, k_r17, k_r18, k_rl, k_sc, k_st, k_a86, k_s86, k_a87, k_s87, k_a88, k_s88, k_a89, k_s89, k_a90, k_s90, k_a91, k_s91, k_a92, k_s92, k_a93, k_s93, k_a94, k_s94, k_a95, k_s95, k_a96, k_s96, k_a97, k_s97, k_a98, k_s98, k_a99, k_s99, k_a100, k_s100, k_a101, k_s101, k_a102, k_s102, k_u_s, k_u_n, k_u_u, Nat.reduceEqDiff, not_false_eq_true, qS_nop, qS_seq, qS_set, qS_setJ, qS_if, qS_brk, qS_ret, qS_retV, qS_throw, qS_inc, qS_cl, qS_ast, qS_aop, qS_fst, qS_fop, qS_sw, qT_eC, qT_eCB, qT_eL, qT_eLJ, qT_eLR, qT_eLB, qT_e1, qT_e2, qT_bCmp, qT_bCmpJ, qT_bAnd, qT_bOr, qT_bNot, qT_eBI, qT_eIf, qT_eLd, qT_eLdR, qT_eLen, qT_eF, qT_eFR, qT_aN, qT_aS, qT_eCl, qT_eClR, qT_eClB, qT_some, qT_x, z_nx_N, z_nx_B, z_nx_R, z_nx_X, z_bk_N, z_bk_B, z_bk_R, z_bk_X, oAdd, oSub, oMul, oNeg, cLt, cLe, cGt, cGe, cEq, cNe, Option.some.injEq, Sum.inl.injEq, Sum.inr.injEq, Prod.mk.injEq, exists_eq_left, exists_eq_left', exists_eq_right, exists_and_left, reduceCtorEq, and_true, true_and, and_false, false_and, List.getElem?_cons_zero, List.getElem?_cons_succ, List.set_cons_zero, List.set_cons_succ, List.replicate, List.length_cons, List.length_nil, List.cons_append, List.nil_append, Nat.reduceAdd, Nat.reduceSub, decide_eq_true_eq, decide_eq_false_iff_not, Bool.true_eq_false, Bool.false_eq_true, true_implies, false_implies, implies_true, Nat.reduceLT, exists_const, z_vB_inj, and_assoc, z_in_iff, oI2L, oL2I, Int.toNat_natCast, z_toNat0, Bool.not_eq_true', Bool.not_eq_false', ne_eq, Bool.not_true, Bool.not_false, Nat.add_zero, Int.add_zero, z_sl_s]
    repeat (refine And.intro (by omega) ?_)
    refine qS_loop (fun j ρ h' => h' = k_W (k_u (k_u S 96 (cCols (rM S m) (k + 1) P1 j).1) 97 (cCols (rM S m) (k + 1) P1 j).2) ∧ ∃ c d, ρ = [vR 85, vI (m : Int), vI (n : Int), vI ((k : Int) + 1), vI ((nb (k + 1) : Int) - 1), vI (j : Int), c, d]) n ?_ ?_ n 0 z_fuel _ _ (by omega) (z_fuel_lt (by omega)) ⟨?_, _, _, rfl⟩
    · intro j
      rcases Nat.lt_or_ge j n with hj | hj
      rotate_left
      · intro ρ h' hj2
        exact absurd hj2 (by omega)
      have hcol := cCols_in hM (show 0 < k + 1 by omega) (show k + 1 < 32 by omega) hin j (by omega)
      have wC : cCols (rM S m) (k + 1) P1 (j + 1) = cCol (rM S m) (k + 1) j (cCols (rM S m) (k + 1) P1 j) := rfl
      have o1 := o_shl ⟨j, by omega⟩
      have o2 := o_not ⟨2 ^ j, p2_b ⟨j, by omega⟩⟩
      have o3 := o_rest ⟨k + 1, by omega⟩ ⟨j, by omega⟩
      simp only [Int.natCast_add, Int.natCast_one] at o1 o2 o3
      have u3 := hMu (cCols (rM S m) (k + 1) P1 j).1 (cCols (rM S m) (k + 1) P1 j).2
      have e1 := rf_in (S := k_u (k_u S 96 (cCols (rM S m) (k + 1) P1 j).1) 97 (cCols (rM S m) (k + 1) P1 j).2) (m := m) (i := nb (k + 1) - 1) (j := j) hm (by omega) (by omega)
      rw [u3, show ((nb (k + 1) - 1 : Nat) : Int) = (nb (k + 1) : Int) - 1 by omega] at e1
      have me := hM (nb (k + 1) - 1) j (by omega) (by omega)
      have pj : 0 < 2 ^ j := Nat.pow_pos (by decide)
      have p6 : (j : Int) * (5 : Int) ^ (nb (k + 1) - 1) ≤ 15625 := by
        have : j * 5 ^ (nb (k + 1) - 1) ≤ 5 * 5 ^ 5 := Nat.mul_le_mul (by omega) (Nat.pow_le_pow_right (by decide) (by omega))
        have := Int.ofNat_le.mpr this
        simpa using this
      have ns : (k + 1).testBit j = true → nb (k + 1 - 2 ^ j) + 1 = nb (k + 1) ∧ 2 ^ j ≤ k + 1 := fun tb => nb_sub ⟨k + 1, by omega⟩ ⟨j, by omega⟩ tb
      have hl : ((k + 1).testBit j = true ∧ (if (k + 1).testBit j = true then k + 1 - 2 ^ j else k + 1) = k + 1 - 2 ^ j) ∨ (¬ (k + 1).testBit j = true ∧ (if (k + 1).testBit j = true then k + 1 - 2 ^ j else k + 1) = k + 1) := by
        by_cases tb : (k + 1).testBit j = true
        · exact Or.inl ⟨tb, if_pos tb⟩
        · exact Or.inr ⟨tb, if_neg tb⟩
      generalize (if (k + 1).testBit j = true then k + 1 - 2 ^ j else k + 1) = l at o3 hl
      have hl2 : l ≤ k + 1 := by omega
      have bl : -600000 ≤ (cCols (rM S m) (k + 1) P1 j).1 l ∧ (cCols (rM S m) (k + 1) P1 j).1 l ≤ 1000000 ∧ 0 ≤ (cCols (rM S m) (k + 1) P1 j).2 l ∧ (cCols (rM S m) (k + 1) P1 j).2 l ≤ 20000 := by
        rcases Nat.lt_or_ge l (k + 1) with c | c
        · have h1 := hcol.1 l (by omega)
          have h2 := hin l c
          have h3 := nb_le ⟨l, by omega⟩
          simp only at h3
          have p7 : (5 : Int) ^ nb l ≤ 3125 := by
            have : 5 ^ nb l ≤ 5 ^ 5 := Nat.pow_le_pow_right (by decide) h3
            have := Int.ofNat_le.mpr this
            simpa using this
          rw [h1.1, h1.2]
          omega
        · have : l = k + 1 := by omega
          subst this
          omega
      have bs : -600000 ≤ (cCols (rM S m) (k + 1) P1 j).1 (k + 1) ∧ (cCols (rM S m) (k + 1) P1 j).1 (k + 1) ≤ 1000000 ∧ 0 ≤ (cCols (rM S m) (k + 1) P1 j).2 (k + 1) ∧ (cCols (rM S m) (k + 1) P1 j).2 (k + 1) ≤ 20000 := by omega
      generalize cCols (rM S m) (k + 1) P1 j = P2 at bl bs wC e1 ⊢
      have vb := z_plus_b (x := P2.1 l) (y := rM S m (nb (k + 1) - 1) j) (a := -600000) (b := -100000) ⟨by omega, by omega⟩ me (by decide) (by decide)
      have u2 := hMu P2.1 P2.2
      have x1 := fun a b => rf_ch1 (S := k_u (k_u S 96 P2.1) 97 P2.2) (m := m) (s := k + 1) (l := l) (r := nb (k + 1) - 1) (c := j) (a := a) (b := b) hm (by omega) (by omega) (by omega) (by omega) (by rw [k_u_n (by decide), k_u_s]; omega) (by rw [u2]; exact me)
      have x2 := fun t a b c d (ht : -100000000 ≤ t ∧ t ≤ 2000000) => rf_ch2 (S := k_u (k_u S 96 P2.1) 97 P2.2) (s := k + 1) (l := l) (t := t) (a := a) (b := b) (c := c) (d := d) (by omega) (by omega) (by rw [k_u_n (by decide), k_u_s]; omega) ht
      rw [u2] at x1
      rw [k_u_n (show 96 ≠ 97 by decide), k_u_s] at x1 x2
      simp only [k_u_s] at x2
      rw [show ((nb (k + 1) - 1 : Nat) : Int) = (nb (k + 1) : Int) - 1 by omega] at x1
      rw [Int.natCast_add, Int.natCast_one] at x1 x2
      unfold cCol cOff at wC
      have wt : (k + 1).testBit j = true → k + 1 - 2 ^ j = l := fun tb => hl.elim (fun q => q.2.symm) (fun q => absurd tb q.1)
      have fin : cCols (rM S m) (k + 1) P1 (j + 1) = (z_up P2.1 (k + 1) (if (if l = k + 1 then INF else z_plus (P2.1 l) (rM S m (nb (k + 1) - 1) j)) < P2.1 (k + 1) then (if l = k + 1 then INF else z_plus (P2.1 l) (rM S m (nb (k + 1) - 1) j)) else P2.1 (k + 1)), z_up P2.2 (k + 1) (if (if l = k + 1 then INF else z_plus (P2.1 l) (rM S m (nb (k + 1) - 1) j)) < P2.1 (k + 1) then P2.2 l else if (if l = k + 1 then INF else z_plus (P2.1 l) (rM S m (nb (k + 1) - 1) j)) = P2.1 (k + 1) ∧ (if l = k + 1 then INF else z_plus (P2.1 l) (rM S m (nb (k + 1) - 1) j)) ≠ INF then P2.2 (k + 1) + P2.2 l else P2.2 (k + 1))) := by
        rcases hl with ⟨tb, el⟩ | ⟨tb, el⟩
        · have nl : l ≠ k + 1 := by omega
          rw [if_neg nl, wC, if_pos tb, ← el]
          generalize z_plus (P2.1 l) (rM S m (nb (k + 1) - 1) j) = t
          by_cases t1 : t = INF
          · rw [if_pos t1, if_neg (by omega), if_neg (by omega), if_neg (fun w => w.2 t1), z_up_id, z_up_id]
          · rw [if_neg t1]
            by_cases t2 : t < P2.1 (k + 1)
            · rw [if_pos t2, if_pos t2, if_pos t2]
            · rw [if_neg t2, if_neg t2, if_neg t2, z_up_id]
              by_cases t3 : t = P2.1 (k + 1)
              · rw [if_pos t3, if_pos ⟨t3, t1⟩]
              · rw [if_neg t3, if_neg (fun w => t3 w.1), z_up_id]
        · rw [if_pos el, wC, if_neg tb, if_neg (by omega), if_neg (by omega), if_neg (fun w => w.2 rfl), z_up_id, z_up_id]
      have bt : -100000000 ≤ (if l = k + 1 then INF else z_plus (P2.1 l) (rM S m (nb (k + 1) - 1) j)) ∧ (if l = k + 1 then INF else z_plus (P2.1 l) (rM S m (nb (k + 1) - 1) j)) ≤ 2000000 := by split <;> omega
      rw [fin]
      generalize (if l = k + 1 then INF else z_plus (P2.1 l) (rM S m (nb (k + 1) - 1) j)) = t at *
      have x3 := fun a b c d => x2 t a b c d bt
      have e4 : ∀ h, m_X6_lesser [vI (P2.1 (k + 1)), vI t] h = some (.inl (some (vI (if t < P2.1 (k + 1) then t else P2.1 (k + 1)))), h) := fun h => rf_lesser ⟨by omega, by omega⟩ ⟨by omega, by omega⟩
      clear x2 wC fin hMu hM e1
      generalize (if t < P2.1 (k + 1) then P2.2 l else if t = P2.1 (k + 1) ∧ t ≠ INF then P2.2 (k + 1) + P2.2 l else P2.2 (k + 1)) = G at x3 ⊢
      rintro ρ h' _ ⟨rfl, c, d, rfl⟩
      simp only [o1, o2, o3, x1, x3, e4, ek, k_v85, k_o85, k_r0, k_r1, k_r2, k_r3, k_r4, k_r5, k_r6, k_r7, k_r8, k_r9, k_r10, k_r11, k_r12, k_r13, k_r14, k_r15, k_r16, k_r17, k_r18, k_rl, k_sc, k_st, k_a86, k_s86, k_a87, k_s87, k_a88, k_s88, k_a89, k_s89, k_a90, k_s90, k_a91, k_s91, k_a92, k_s92, k_a93, k_s93, k_a94, k_s94, k_a95, k_s95, k_a96, k_s96, k_a97, k_s97, k_a98, k_s98, k_a99, k_s99, k_a100, k_s100, k_a101, k_s101, k_a102, k_s102, k_u_s, k_u_n, k_u_u, Nat.reduceEqDiff, not_false_eq_true, qS_nop, qS_seq, qS_set, qS_setJ, qS_if, qS_brk, qS_ret, qS_retV, qS_throw, qS_inc, qS_cl, qS_ast, qS_aop, qS_fst, qS_fop, qS_sw, qT_eC, qT_eCB, qT_eL, qT_eLJ, qT_eLR, qT_eLB, qT_e1, qT_e2, qT_bCmp, qT_bCmpJ, qT_bAnd, qT_bOr, qT_bNot, qT_eBI, qT_eLd, qT_eLdR, qT_eLen, qT_eF, qT_eFR, qT_aN, qT_aS, qT_eCl, qT_eClR, qT_eClB, qT_some, qT_x, z_nx_N, z_nx_B, z_nx_R, z_nx_X, z_bk_N, z_bk_B, z_bk_R, z_bk_X, oAdd, oSub, oMul, oNeg, cLt, cLe, cGt, cGe, cEq, cNe, Option.some.injEq, Sum.inl.injEq, Sum.inr.injEq, Prod.mk.injEq, exists_eq_left, exists_eq_left', exists_eq_right, exists_and_left, reduceCtorEq, and_true, true_and, and_false, false_and, List.getElem?_cons_zero, List.getElem?_cons_succ, List.set_cons_zero, List.set_cons_succ, List.replicate, List.length_cons, List.length_nil, List.cons_append, List.nil_append, Nat.reduceAdd, Nat.reduceSub, decide_eq_true_eq, decide_eq_false_iff_not, Bool.true_eq_false, Bool.false_eq_true, true_implies, false_implies, implies_true, Nat.reduceLT, exists_const, z_vB_inj, and_assoc, z_in_iff, oI2L, oL2I, Int.toNat_natCast, z_toNat0, Bool.not_eq_true', Bool.not_eq_false', ne_eq, Bool.not_true, Bool.not_false, Nat.add_zero, Int.add_zero, z_sl_s]
      repeat (refine And.intro (by omega) ?_)
      refine ⟨?_, _, _, rfl⟩
      rw [k_u_c (show 97 ≠ 96 by decide), k_u_u]
    · rintro ρ h' ⟨rfl, c, d, rfl⟩
      rw [wS]
      simp only [qS_nop, qS_seq, qS_set, qS_setJ, qS_if, qS_brk, qS_ret, qS_retV, qS_throw, qS_inc, qS_cl, qS_ast, qS_aop, qS_fst, qS_fop, qS_sw, qT_eC, qT_eCB, qT_eL, qT_eLJ, qT_eLR, qT_eLB, qT_e1, qT_e2, qT_bCmp, qT_bCmpJ, qT_bAnd, qT_bOr, qT_bNot, qT_eBI, qT_eIf, qT_eLd, qT_eLdR, qT_eLen, qT_eF, qT_eFR, qT_aN, qT_aS, qT_eCl, qT_eClR, qT_eClB, qT_some, qT_x, z_nx_N, z_nx_B, z_nx_R, z_nx_X, z_bk_N, z_bk_B, z_bk_R, z_bk_X, oAdd, oSub, oMul, oNeg, cLt, cLe, cGt, cGe, cEq, cNe, Option.some.injEq, Sum.inl.injEq, Sum.inr.injEq, Prod.mk.injEq, exists_eq_left, exists_eq_left', exists_eq_right, exists_and_left, reduceCtorEq, and_true, true_and, and_false, false_and, List.getElem?_cons_zero, List.getElem?_cons_succ, List.set_cons_zero, List.set_cons_succ, List.replicate, List.length_cons, List.length_nil, List.cons_append, List.nil_append, Nat.reduceAdd, Nat.reduceSub, decide_eq_true_eq, decide_eq_false_iff_not, Bool.true_eq_false, Bool.false_eq_true, true_implies, false_implies, implies_true, Nat.reduceLT, exists_const, z_vB_inj, and_assoc, z_in_iff, oI2L, oL2I, Int.toNat_natCast, z_toNat0, Bool.not_eq_true', Bool.not_eq_false', ne_eq, Bool.not_true, Bool.not_false, Nat.add_zero, Int.add_zero, z_sl_s]
      repeat (refine And.intro (by omega) ?_)
      exact ⟨_, _, _, _, rfl⟩
    · rw [k_u_4 (by decide)]
      rfl
  · rintro ρ h' ⟨rfl, a, b, c, d, rfl⟩
    simp only [hs, qS_nop, qS_seq, qS_set, qS_setJ, qS_if, qS_brk, qS_ret, qS_retV, qS_throw, qS_inc, qS_cl, qS_ast, qS_aop, qS_fst, qS_fop, qS_sw, qT_eC, qT_eCB, qT_eL, qT_eLJ, qT_eLR, qT_eLB, qT_e1, qT_e2, qT_bCmp, qT_bCmpJ, qT_bAnd, qT_bOr, qT_bNot, qT_eBI, qT_eIf, qT_eLd, qT_eLdR, qT_eLen, qT_eF, qT_eFR, qT_aN, qT_aS, qT_eCl, qT_eClR, qT_eClB, qT_some, qT_x, z_nx_N, z_nx_B, z_nx_R, z_nx_X, z_bk_N, z_bk_B, z_bk_R, z_bk_X, oAdd, oSub, oMul, oNeg, cLt, cLe, cGt, cGe, cEq, cNe, Option.some.injEq, Sum.inl.injEq, Sum.inr.injEq, Prod.mk.injEq, exists_eq_left, exists_eq_left', exists_eq_right, exists_and_left, reduceCtorEq, and_true, true_and, and_false, false_and, List.getElem?_cons_zero, List.getElem?_cons_succ, List.set_cons_zero, List.set_cons_succ, List.replicate, List.length_cons, List.length_nil, List.cons_append, List.nil_append, Nat.reduceAdd, Nat.reduceSub, decide_eq_true_eq, decide_eq_false_iff_not, Bool.true_eq_false, Bool.false_eq_true, true_implies, false_implies, implies_true, Nat.reduceLT, exists_const, z_vB_inj, and_assoc, z_in_iff, oI2L, oL2I, Int.toNat_natCast, z_toNat0, Bool.not_eq_true', Bool.not_eq_false', ne_eq, Bool.not_true, Bool.not_false, Nat.add_zero, Int.add_zero, z_sl_s]
    omega
end RB
