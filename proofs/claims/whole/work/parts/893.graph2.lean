/-! THE FACE: graph -/
section GF
variable {S : Nat → Nat → Int} {B : Nat → Nat → Int}
theorem tT_cg {L L' : Nat → Nat → Int} (h : ∀ x y, x < 4 → y < 4 → L x y = L' x y) : tT L = tT L' := by
  have h1 : ∀ x y, x < 4 → y < 4 → tE L 0 1 x y = tE L' 0 1 x y := fun x y hx hy => tE_cg (by decide) h hx hy
  have h2 : ∀ x y, x < 4 → y < 4 → tE (tE L 0 1) 1 (L 0 0) x y = tE (tE L' 0 1) 1 (L' 0 0) x y := fun x y hx hy => by
    rw [h 0 0 (by decide) (by decide)]
    exact tE_cg (by decide) h1 hx hy
  have h3 : tE (tE (tE L 0 1) 1 (L 0 0)) 2 (tE L 0 1 1 1) 3 3 = tE (tE (tE L' 0 1) 1 (L' 0 0)) 2 (tE L' 0 1 1 1) 3 3 := by
    rw [h1 1 1 (by decide) (by decide)]
    exact tE_cg (by decide) h2 (by decide) (by decide)
  unfold tT
  rw [h3, h1 1 1 (by decide) (by decide), h2 2 2 (by decide) (by decide), h 0 0 (by decide) (by decide)]
theorem tD4_cg {L L' : Nat → Nat → Int} (h : ∀ x y, x < 4 → y < 4 → L x y = L' x y) : tD4 L = tD4 L' := by
  unfold tD4 tV3 tV2
  rw [h 0 0 (by decide) (by decide), h 0 1 (by decide) (by decide), h 0 2 (by decide) (by decide), h 0 3 (by decide) (by decide), h 1 0 (by decide) (by decide), h 1 1 (by decide) (by decide), h 1 2 (by decide) (by decide), h 1 3 (by decide) (by decide), h 2 0 (by decide) (by decide), h 2 1 (by decide) (by decide), h 2 2 (by decide) (by decide), h 2 3 (by decide) (by decide), h 3 0 (by decide) (by decide), h 3 1 (by decide) (by decide), h 3 2 (by decide) (by decide), h 3 3 (by decide) (by decide)]
/-- an edge to the vertex 0, or one for a vertex that is not of the graph -/
def tw (B : Nat → Nat → Int) (i : Nat) : Int := if nAll B i = 0 then 1 else B 0 i
def tM (B : Nat → Nat → Int) : Nat → Nat → Int := tLm (tw B 1) (tw B 2) (tw B 3) (tw B 4) (B 1 2) (B 1 3) (B 1 4) (B 2 3) (B 2 4) (B 3 4)
theorem nAll_e (B : Nat → Nat → Int) (v : Nat) : nAll B v = B v 0 + B v 1 + B v 2 + B v 3 + B v 4 := by
  rw [nAll_5]
  simp only [s5]
theorem tM_e (g : gOk B) : ∀ x y, x < 4 → y < 4 → tL B x y = tM B x y := by
  intro x y hx hy
  have cx : x = 0 ∨ x = 1 ∨ x = 2 ∨ x = 3 := by omega
  have cy : y = 0 ∨ y = 1 ∨ y = 2 ∨ y = 3 := by omega
  unfold tL tM
  rcases cx with rfl | rfl | rfl | rfl <;> rcases cy with rfl | rfl | rfl | rfl
  · rw [if_pos rfl, tl00]
    have n := nAll_e B 1
    have g0 := g 1 0 (by decide) (by decide)
    have g1 := g 1 1 (by decide) (by decide)
    have g2 := g 1 2 (by decide) (by decide)
    have g3 := g 1 3 (by decide) (by decide)
    have g4 := g 1 4 (by decide) (by decide)
    have h0 := (g 0 1 (by decide) (by decide)).2.2.1
    have d := g1.2.2.2 rfl
    unfold tw
    simp only [Nat.reduceAdd]
    generalize nAll B 1 = N at *
    (repeat' split) <;> omega
  · have h := (g 1 2 (by decide) (by decide)).2.2.1
    rw [if_neg (by decide), tl01]
    try simp only [Nat.reduceAdd]
    try omega
  · have h := (g 1 3 (by decide) (by decide)).2.2.1
    rw [if_neg (by decide), tl02]
    try simp only [Nat.reduceAdd]
    try omega
  · have h := (g 1 4 (by decide) (by decide)).2.2.1
    rw [if_neg (by decide), tl03]
    try simp only [Nat.reduceAdd]
    try omega
  · have h := (g 2 1 (by decide) (by decide)).2.2.1
    rw [if_neg (by decide), tl10]
    try simp only [Nat.reduceAdd]
    try omega
  · rw [if_pos rfl, tl11]
    have n := nAll_e B 2
    have g0 := g 2 0 (by decide) (by decide)
    have g1 := g 2 1 (by decide) (by decide)
    have g2 := g 2 2 (by decide) (by decide)
    have g3 := g 2 3 (by decide) (by decide)
    have g4 := g 2 4 (by decide) (by decide)
    have h0 := (g 0 2 (by decide) (by decide)).2.2.1
    have h1 := (g 1 2 (by decide) (by decide)).2.2.1
    have d := g2.2.2.2 rfl
    unfold tw
    simp only [Nat.reduceAdd]
    generalize nAll B 2 = N at *
    (repeat' split) <;> omega
  · have h := (g 2 3 (by decide) (by decide)).2.2.1
    rw [if_neg (by decide), tl12]
    try simp only [Nat.reduceAdd]
    try omega
  · have h := (g 2 4 (by decide) (by decide)).2.2.1
    rw [if_neg (by decide), tl13]
    try simp only [Nat.reduceAdd]
    try omega
  · have h := (g 3 1 (by decide) (by decide)).2.2.1
    rw [if_neg (by decide), tl20]
    try simp only [Nat.reduceAdd]
    try omega
  · have h := (g 3 2 (by decide) (by decide)).2.2.1
    rw [if_neg (by decide), tl21]
    try simp only [Nat.reduceAdd]
    try omega
  · rw [if_pos rfl, tl22]
    have n := nAll_e B 3
    have g0 := g 3 0 (by decide) (by decide)
    have g1 := g 3 1 (by decide) (by decide)
    have g2 := g 3 2 (by decide) (by decide)
    have g3 := g 3 3 (by decide) (by decide)
    have g4 := g 3 4 (by decide) (by decide)
    have h0 := (g 0 3 (by decide) (by decide)).2.2.1
    have h1 := (g 1 3 (by decide) (by decide)).2.2.1
    have h2 := (g 2 3 (by decide) (by decide)).2.2.1
    have d := g3.2.2.2 rfl
    unfold tw
    simp only [Nat.reduceAdd]
    generalize nAll B 3 = N at *
    (repeat' split) <;> omega
  · have h := (g 3 4 (by decide) (by decide)).2.2.1
    rw [if_neg (by decide), tl23]
    try simp only [Nat.reduceAdd]
    try omega
  · have h := (g 4 1 (by decide) (by decide)).2.2.1
    rw [if_neg (by decide), tl30]
    try simp only [Nat.reduceAdd]
    try omega
  · have h := (g 4 2 (by decide) (by decide)).2.2.1
    rw [if_neg (by decide), tl31]
    try simp only [Nat.reduceAdd]
    try omega
  · have h := (g 4 3 (by decide) (by decide)).2.2.1
    rw [if_neg (by decide), tl32]
    try simp only [Nat.reduceAdd]
    try omega
  · rw [if_pos rfl, tl33]
    have n := nAll_e B 4
    have g0 := g 4 0 (by decide) (by decide)
    have g1 := g 4 1 (by decide) (by decide)
    have g2 := g 4 2 (by decide) (by decide)
    have g3 := g 4 3 (by decide) (by decide)
    have g4 := g 4 4 (by decide) (by decide)
    have h0 := (g 0 4 (by decide) (by decide)).2.2.1
    have h1 := (g 1 4 (by decide) (by decide)).2.2.1
    have h2 := (g 2 4 (by decide) (by decide)).2.2.1
    have h3 := (g 3 4 (by decide) (by decide)).2.2.1
    have d := g4.2.2.2 rfl
    unfold tw
    simp only [Nat.reduceAdd]
    generalize nAll B 4 = N at *
    (repeat' split) <;> omega
theorem tw_b (g : gOk B) {i : Nat} (hi : i < 5) : 0 ≤ tw B i := by
  have := g 0 i (by decide) hi
  unfold tw
  split <;> omega
theorem tT_D4 (g : gOk B) : tT (tL B) = tD4 (tL B) := by
  rw [tT_cg (tM_e g), tD4_cg (tM_e g)]
  have d := (tL_b g).2
  have w := fun i (hi : i < 5) => tw_b g hi
  have e := tM_e g
  have b := fun i j (hi : i < 5) (hj : j < 5) => (g i j hi hj).1
  have d1 : 1 ≤ tM B 0 0 := by
    rw [← e 0 0 (by decide) (by decide)]
    exact d
  have dd : ∀ i, i < 4 → 1 ≤ tM B i i := fun i hi => by
    rw [← e i i hi hi]
    unfold tL
    rw [if_pos rfl]
    split <;> omega
  exact tT_4 (w 1 (by decide)) (w 2 (by decide)) (w 3 (by decide)) (b 1 2 (by decide) (by decide)) (b 1 3 (by decide) (by decide)) (b 1 4 (by decide) (by decide)) (b 2 3 (by decide) (by decide)) (b 2 4 (by decide) (by decide)) (b 3 4 (by decide) (by decide)) (dd 0 (by decide)) (dd 1 (by decide)) (dd 2 (by decide))
/-- not connected: no tree -/
theorem tD4_0 (g : gOk B) (h : ¬ ∀ v, v < 5 → nHv B v → iB ((nNr B 0 4 : Nat) : Int) v) : tD4 (tL B) = 0 := by
  rw [tD4_cg (tM_e g)]
  have z0 : m5 (nNr B 0 4) 0 := nNr_mono (B := B) (by decide : 0 < 5) (by decide : 0 < 5) 0 4 ((m5_p ⟨0, by decide⟩ ⟨0, by decide⟩).mpr rfl)
  have cl : ∀ u v, u < 5 → v < 5 → m5 (nNr B 0 4) u → 0 < B v u → m5 (nNr B 0 4) v := fun u v hu hv m e => nNr_cl g (by decide) hu hv m e
  have hv1 : ∀ i j, i < 5 → j < 5 → 0 < B i j → nHv B i := fun i j hi hj e => Or.inr ((nCe_pos g hi _).mpr ⟨j, hj, i_31 ⟨j, hj⟩, e⟩)
  obtain ⟨c, hc⟩ : ∃ c : Nat → Bool, c = fun v => z_dec (nHv B v ∧ ¬ m5 (nNr B 0 4) v) := ⟨_, rfl⟩
  have ct : ∀ v, c v = true → nHv B v ∧ ¬ m5 (nNr B 0 4) v := fun v q => by
    rw [hc] at q
    exact (z_dec_iff _).mp q
  have cf : ∀ v, c v = false → ¬ (nHv B v ∧ ¬ m5 (nNr B 0 4) v) := fun v q => by
    rw [hc] at q
    exact (z_dec_f _).mp q
  have pr : ∀ i j, i < 5 → j < 5 → c i ≠ c j → B i j = 0 := fun i j hi hj ne => by
    have gg := g i j hi hj
    refine Classical.byContradiction fun nz => ?_
    have pos : 0 < B i j := by omega
    have pos' : 0 < B j i := by omega
    have key : ∀ x y, x < 5 → y < 5 → 0 < B x y → 0 < B y x → c x = true → c y = false → False := fun x y hx hy p1 p2 q1 q2 => by
      have w1 := ct x q1
      have w2 := cf y q2
      have r : m5 (nNr B 0 4) y := Classical.byContradiction fun w => w2 ⟨hv1 y x hy hx p2, w⟩
      exact w1.2 (cl y x hy hx r p1)
    cases ci : c i with
    | true =>
      cases cj : c j with
      | true => exact ne (by rw [ci, cj])
      | false => exact key i j hi hj pos pos' ci cj
    | false =>
      cases cj : c j with
      | true => exact key j i hj hi pos' pos cj ci
      | false => exact ne (by rw [ci, cj])
  have wz : ∀ i, 0 < i → i < 5 → c i = true → tw B i = 0 := fun i h0 hi q => by
    have w := ct i q
    have p : 0 < nAll B i := w.1.resolve_left (by omega)
    have gg := g 0 i (by decide) hi
    unfold tw
    rw [if_neg (by omega)]
    refine Classical.byContradiction fun nz => w.2 (cl 0 i (by decide) hi z0 (by omega))
  have ne : (c 1 || c 2 || c 3 || c 4) = true := by
    refine Classical.byContradiction fun no => h (fun v hv hn => ?_)
    simp only [Bool.or_eq_true, not_or] at no
    refine Classical.byContradiction fun w => ?_
    have q : c v = true := by
      rw [hc]
      exact (z_dec_iff _).mpr ⟨hn, w⟩
    have vc : v = 0 ∨ v = 1 ∨ v = 2 ∨ v = 3 ∨ v = 4 := by omega
    rcases vc with rfl | rfl | rfl | rfl | rfl
    · exact w z0
    · exact no.1.1.1 q
    · exact no.1.1.2 q
    · exact no.1.2 q
    · exact no.2 q
  exact tLm_c (c 1) (c 2) (c 3) (c 4) ne (wz 1 (by decide) (by decide)) (wz 2 (by decide) (by decide)) (wz 3 (by decide) (by decide)) (wz 4 (by decide) (by decide)) (pr 1 2 (by decide) (by decide)) (pr 1 3 (by decide) (by decide)) (pr 1 4 (by decide) (by decide)) (pr 2 3 (by decide) (by decide)) (pr 2 4 (by decide) (by decide)) (pr 3 4 (by decide) (by decide))
theorem tL_sm {B' : Nat → Nat → Int} (e : kSm B B') : ∀ x y, x < 4 → y < 4 → tL B x y = tL B' x y := fun x y hx hy => by
  unfold tL
  rw [show nAll B (x + 1) = nAll B' (x + 1) from nCe_cg e (by omega) _ 5 (by omega), e (x + 1) (y + 1) (by omega) (by omega)]
theorem k_C24 : ∀ j, j < 4 → ∀ f, k_C (24 + j) f = .inr (0, 4, f) := fun j hj f => by
  obtain rfl | rfl | rfl | rfl : j = 0 ∨ j = 1 ∨ j = 2 ∨ j = 3 := by omega
  all_goals rfl
/-- a heap in which the minors alone have changed -/
theorem k_backD {P D : Nat → Nat → Int} {C N : Nat → Int} {h' : z_Hp} (a : nAt h' B C N P D) (f : z_fr tFr (k_W S) h') : h' = k_W (fun q => if 24 ≤ q ∧ q < 28 then D (q - 24) else S q) := by
  have hf : ∀ q, ¬ (24 ≤ q ∧ q < 28) → h'[q]? = (k_W S)[q]? := fun q h1 => f q h1
  refine k_ext ?_ (fun x hx => ?_)
  · have l1 := hf 104 (by omega)
    have l2 := hf 103 (by omega)
    rw [k_get (by omega)] at l2
    rw [(List.getElem?_eq_none (Nat.le_of_eq (k_len S)) : (k_W S)[104]? = none)] at l1
    have l3 := List.getElem?_eq_none_iff.mp l1
    have l4 : 103 < h'.length := by
      by_cases c : 103 < h'.length
      · exact c
      · rw [List.getElem?_eq_none (by omega)] at l2
        cases l2
    omega
  · by_cases c : 24 ≤ x ∧ x < 28
    · obtain ⟨y, rfl⟩ : ∃ y, x = 24 + y := ⟨x - 24, by omega⟩
      rw [a.2.2.2.2.2.2 y (by omega), k_C24 y (by omega)]
      rw [if_pos c, Nat.add_sub_cancel_left]
    · rw [hf x c, k_get hx, if_neg c]
theorem s_trees (I : kInv S) : ∃ T, m_X3_countSpanningTrees [vR 8] (k_W S) = some (.inl (some (vI (tD4 (tL (kF S 10 5))))), k_W T) ∧ ∀ a, a ≠ 16 → ¬ (24 ≤ a ∧ a < 28) → T a = S a := by
  have g := I.g
  have cn := s_cn I
  obtain ⟨S1, hS1⟩ : ∃ S1, S1 = k_u S 16 (nG (kF S 10 5) (S 16) 0 4) := ⟨_, rfl⟩
  rw [← hS1] at cn
  have o1 : ∀ a, a ≠ 16 → S1 a = S a := fun a h => by rw [hS1, k_u_n h]
  by_cases q : kQ S
  · rw [(z_dec_iff _).mpr q] at cn
    have a := k_net (S := S1)
    have f1 : kF S1 10 5 = kF S 10 5 := by rw [hS1, kF_u (by omega)]
    rw [f1] at a
    obtain ⟨h', y1, D', a', f'⟩ := s_treesC (h := k_W S) (k_net (S := S)).1 g cn a
    have e := k_backD a' f'
    rw [e, tT_D4 g] at y1
    refine ⟨_, y1, fun a h1 h2 => ?_⟩
    rw [if_neg h2, o1 a h1]
  · rw [(z_dec_f _).mpr q] at cn
    rw [tD4_0 g q]
    refine ⟨S1, ?_, fun a h1 _ => o1 a h1⟩
    unfold m_X3_countSpanningTrees
    rw [q_vm (k_net (S := S)).1]
    apply q_body
    have b6 : INF = 1000000 := rfl
    have b6 : INF = 1000000 := rfl
    simp only [b_X3_countSpanningTrees, cn, z_vB1, z_vB0, if_true, if_false, not_true_eq_false, not_false_eq_true, k_t_n, k_t_1, exists_eq, qS_nop, qS_seq, qS_set, qS_setJ, qS_if, qS_brk, qS_ret, qS_retV, qS_throw, qS_inc, qS_cl, qS_ast, qS_aop, qS_fst, qS_fop, qS_sw, qT_eC, qT_eCB, qT_eL, qT_eLJ, qT_eLR, qT_eLB, qT_e1, qT_e2, qT_bCmp, qT_bCmpJ, qT_bAnd, qT_bOr, qT_bNot, qT_eBI, qT_eIf, qT_eLd, qT_eLdR, qT_eLen, qT_eF, qT_eFR, qT_aN, qT_aS, qT_eCl, qT_eClR, qT_eClB, qT_some, qT_x, z_nx_N, z_nx_B, z_nx_R, z_nx_X, z_bk_N, z_bk_B, z_bk_R, z_bk_X, oAdd, oSub, oMul, oNeg, cLt, cLe, cGt, cGe, cEq, cNe, Option.some.injEq, Sum.inl.injEq, Sum.inr.injEq, Prod.mk.injEq, exists_eq_left, exists_eq_left', exists_eq_right, exists_and_left, reduceCtorEq, and_true, true_and, and_false, false_and, List.getElem?_cons_zero, List.getElem?_cons_succ, List.set_cons_zero, List.set_cons_succ, List.replicate, List.length_cons, List.length_nil, List.cons_append, List.nil_append, Nat.reduceAdd, Nat.reduceSub, decide_eq_true_eq, decide_eq_false_iff_not, Bool.true_eq_false, Bool.false_eq_true, true_implies, false_implies, implies_true, Nat.reduceLT, exists_const, z_vB_inj, and_assoc, z_in_iff, oI2L, oL2I, Int.toNat_natCast, z_toNat0, Bool.not_eq_true', Bool.not_eq_false', ne_eq, Bool.not_true, Bool.not_false, Nat.add_zero, Int.add_zero, z_sl_s]
theorem op_graph (I : kInv S) {w : Int} (hw : kR w) : kOp m_X5_graph m_X6_graph kIA "" [vI w] S := by
  by_cases q0 : 0 ≤ w ∧ w ≤ 5
  rotate_left
  · have c0 := s_nW0 (n := w) (a := 0) (b := 5) hw (by decide) (by decide) q0
    have r0 := rf_in0 (n := w) (a := 0) (b := 5) hw (by decide) (by decide) q0
    refine kOp.x1 (r := vI 0) (S1 := S) (S2 := fun g => k_t (k_u S 103 g) 1) ?_ (fun g => ?_) (fun g => I.t g 1) (fun g => k_t_103) (fun g => k_t_1)
    · unfold m_X5_graph
      rw [k_v0]
      apply q_body
      have b6 : INF = 1000000 := rfl
      simp only [b_X5_graph, c0, qS_nop, qS_seq, qS_set, qS_setJ, qS_if, qS_brk, qS_ret, qS_retV, qS_throw, qS_inc, qS_cl, qS_ast, qS_aop, qS_fst, qS_fop, qS_sw, qT_eC, qT_eCB, qT_eL, qT_eLJ, qT_eLR, qT_eLB, qT_e1, qT_e2, qT_bCmp, qT_bCmpJ, qT_bAnd, qT_bOr, qT_bNot, qT_eBI, qT_eIf, qT_eLd, qT_eLdR, qT_eLen, qT_eF, qT_eFR, qT_aN, qT_aS, qT_eCl, qT_eClR, qT_eClB, qT_some, qT_x, z_nx_N, z_nx_B, z_nx_R, z_nx_X, z_bk_N, z_bk_B, z_bk_R, z_bk_X, oAdd, oSub, oMul, oNeg, cLt, cLe, cGt, cGe, cEq, cNe, Option.some.injEq, Sum.inl.injEq, Sum.inr.injEq, Prod.mk.injEq, exists_eq_left, exists_eq_left', exists_eq_right, exists_and_left, reduceCtorEq, and_true, true_and, and_false, false_and, List.getElem?_cons_zero, List.getElem?_cons_succ, List.set_cons_zero, List.set_cons_succ, List.replicate, List.length_cons, List.length_nil, List.cons_append, List.nil_append, Nat.reduceAdd, Nat.reduceSub, decide_eq_true_eq, decide_eq_false_iff_not, Bool.true_eq_false, Bool.false_eq_true, true_implies, false_implies, implies_true, Nat.reduceLT, exists_const, z_vB_inj, and_assoc, z_in_iff, oI2L, oL2I, Int.toNat_natCast, z_toNat0, Bool.not_eq_true', Bool.not_eq_false', ne_eq, Bool.not_true, Bool.not_false, Nat.add_zero, Int.add_zero, z_sl_s]
    · unfold m_X6_graph
      rw [k_v85]
      apply q_body
      have b6 : INF = 1000000 := rfl
      simp only [b_X6_graph, r0, rf_can1, z_vB1, z_vB0, if_true, if_false, not_true_eq_false, not_false_eq_true, k_t_n, k_t_1, exists_eq, k_v85, k_o85, k_r0, k_r1, k_r2, k_r3, k_r4, k_r5, k_r6, k_r7, k_r8, k_r9, k_r10, k_r11, k_r12, k_r13, k_r14, k_r15, k_r16, k_r17, k_r18, k_rl, k_sc, k_st, k_a86, k_s86, k_a87, k_s87, k_a88, k_s88, k_a89, k_s89, k_a90, k_s90, k_a91, k_s91, k_a92, k_s92, k_a93, k_s93, k_a94, k_s94, k_a95, k_s95, k_a96, k_s96, k_a97, k_s97, k_a98, k_s98, k_a99, k_s99, k_a100, k_s100, k_a101, k_s101, k_a102, k_s102, k_u_s, k_u_n, k_u_u, Nat.reduceEqDiff, not_false_eq_true, qS_nop, qS_seq, qS_set, qS_setJ, qS_if, qS_brk, qS_ret, qS_retV, qS_throw, qS_inc, qS_cl, qS_ast, qS_aop, qS_fst, qS_fop, qS_sw, qT_eC, qT_eCB, qT_eL, qT_eLJ, qT_eLR, qT_eLB, qT_e1, qT_e2, qT_bCmp, qT_bCmpJ, qT_bAnd, qT_bOr, qT_bNot, qT_eBI, qT_eIf, qT_eLd, qT_eLdR, qT_eLen, qT_eF, qT_eFR, qT_aN, qT_aS, qT_eCl, qT_eClR, qT_eClB, qT_some, qT_x, z_nx_N, z_nx_B, z_nx_R, z_nx_X, z_bk_N, z_bk_B, z_bk_R, z_bk_X, oAdd, oSub, oMul, oNeg, cLt, cLe, cGt, cGe, cEq, cNe, Option.some.injEq, Sum.inl.injEq, Sum.inr.injEq, Prod.mk.injEq, exists_eq_left, exists_eq_left', exists_eq_right, exists_and_left, reduceCtorEq, and_true, true_and, and_false, false_and, List.getElem?_cons_zero, List.getElem?_cons_succ, List.set_cons_zero, List.set_cons_succ, List.replicate, List.length_cons, List.length_nil, List.cons_append, List.nil_append, Nat.reduceAdd, Nat.reduceSub, decide_eq_true_eq, decide_eq_false_iff_not, Bool.true_eq_false, Bool.false_eq_true, true_implies, false_implies, implies_true, Nat.reduceLT, exists_const, z_vB_inj, and_assoc, z_in_iff, oI2L, oL2I, Int.toNat_natCast, z_toNat0, Bool.not_eq_true', Bool.not_eq_false', ne_eq, Bool.not_true, Bool.not_false, Nat.add_zero, Int.add_zero, z_sl_s]
  have c0 := s_nW1 (n := w) (a := 0) (b := 5) (by decide) (by decide) q0
  have r0 := rf_in1 (n := w) (a := 0) (b := 5) (by decide) (by decide) q0
  have n := k_net (S := S)
  have hB := I.g.bd
  have e98 : ∀ g, k_t (k_u S 103 g) 0 98 = S 98 := fun g => by rw [k_t_n (by decide), k_u_n (by decide)]
  have wc : w = 0 ∨ w = 1 ∨ w = 2 ∨ w = 3 ∨ w = 4 ∨ w = 5 := by omega
  have sw : ∀ n : Nat, n < 6 → (0 ≤ ((n : Nat) : Int)) ∧ ((n : Nat) : Int) < 6 := fun n hn => by omega
  rcases wc with rfl | rfl | rfl | rfl | rfl | rfl
  · have c := s_cv n hB
    refine kOp.ok (r := vI (z_cnt (fun v => z_dec (nHv (kF S 10 5) v)) 5)) (S1 := S) (S2 := fun g => k_t (k_u S 103 g) 0) ?_ (fun g => ?_) (fun g => I.t g 0) (fun g => k_t_103) (fun g => k_t_1)
    · unfold m_X5_graph
      rw [k_v0]
      apply q_body
      have b6 : INF = 1000000 := rfl
      simp only [b_X5_graph, c0, k_o0, c, z_vB1, z_vB0, if_true, if_false, not_true_eq_false, not_false_eq_true, k_t_n, k_t_1, exists_eq, qS_nop, qS_seq, qS_set, qS_setJ, qS_if, qS_brk, qS_ret, qS_retV, qS_throw, qS_inc, qS_cl, qS_ast, qS_aop, qS_fst, qS_fop, qS_sw, qT_eC, qT_eCB, qT_eL, qT_eLJ, qT_eLR, qT_eLB, qT_e1, qT_e2, qT_bCmp, qT_bCmpJ, qT_bAnd, qT_bOr, qT_bNot, qT_eBI, qT_eIf, qT_eLd, qT_eLdR, qT_eLen, qT_eF, qT_eFR, qT_aN, qT_aS, qT_eCl, qT_eClR, qT_eClB, qT_some, qT_x, z_nx_N, z_nx_B, z_nx_R, z_nx_X, z_bk_N, z_bk_B, z_bk_R, z_bk_X, oAdd, oSub, oMul, oNeg, cLt, cLe, cGt, cGe, cEq, cNe, Option.some.injEq, Sum.inl.injEq, Sum.inr.injEq, Prod.mk.injEq, exists_eq_left, exists_eq_left', exists_eq_right, exists_and_left, reduceCtorEq, and_true, true_and, and_false, false_and, List.getElem?_cons_zero, List.getElem?_cons_succ, List.set_cons_zero, List.set_cons_succ, List.replicate, List.length_cons, List.length_nil, List.cons_append, List.nil_append, Nat.reduceAdd, Nat.reduceSub, decide_eq_true_eq, decide_eq_false_iff_not, Bool.true_eq_false, Bool.false_eq_true, true_implies, false_implies, implies_true, Nat.reduceLT, exists_const, z_vB_inj, and_assoc, z_in_iff, oI2L, oL2I, Int.toNat_natCast, z_toNat0, Bool.not_eq_true', Bool.not_eq_false', ne_eq, Bool.not_true, Bool.not_false, Nat.add_zero, Int.add_zero, z_sl_s]
      split
      · first | trivial | omega | (refine ⟨_, rfl, ?_⟩; simp only [b_X5_graph, c0, k_o0, c, z_vB1, z_vB0, if_true, if_false, not_true_eq_false, not_false_eq_true, k_t_n, k_t_1, exists_eq, qS_nop, qS_seq, qS_set, qS_setJ, qS_if, qS_brk, qS_ret, qS_retV, qS_throw, qS_inc, qS_cl, qS_ast, qS_aop, qS_fst, qS_fop, qS_sw, qT_eC, qT_eCB, qT_eL, qT_eLJ, qT_eLR, qT_eLB, qT_e1, qT_e2, qT_bCmp, qT_bCmpJ, qT_bAnd, qT_bOr, qT_bNot, qT_eBI, qT_eIf, qT_eLd, qT_eLdR, qT_eLen, qT_eF, qT_eFR, qT_aN, qT_aS, qT_eCl, qT_eClR, qT_eClB, qT_some, qT_x, z_nx_N, z_nx_B, z_nx_R, z_nx_X, z_bk_N, z_bk_B, z_bk_R, z_bk_X, oAdd, oSub, oMul, oNeg, cLt, cLe, cGt, cGe, cEq, cNe, Option.some.injEq, Sum.inl.injEq, Sum.inr.injEq, Prod.mk.injEq, exists_eq_left, exists_eq_left', exists_eq_right, exists_and_left, reduceCtorEq, and_true, true_and, and_false, false_and, List.getElem?_cons_zero, List.getElem?_cons_succ, List.set_cons_zero, List.set_cons_succ, List.replicate, List.length_cons, List.length_nil, List.cons_append, List.nil_append, Nat.reduceAdd, Nat.reduceSub, decide_eq_true_eq, decide_eq_false_iff_not, Bool.true_eq_false, Bool.false_eq_true, true_implies, false_implies, implies_true, Nat.reduceLT, exists_const, z_vB_inj, and_assoc, z_in_iff, oI2L, oL2I, Int.toNat_natCast, z_toNat0, Bool.not_eq_true', Bool.not_eq_false', ne_eq, Bool.not_true, Bool.not_false, Nat.add_zero, Int.add_zero, z_sl_s]; first | done | omega | exact ⟨id, id⟩)
      · first | trivial | omega | done
    · have d := rf_vs I (e98 g)
      unfold m_X6_graph
      rw [k_v85]
      apply q_body
      have b6 : INF = 1000000 := rfl
      simp only [b_X6_graph, r0, rf_can0, d, z_vB1, z_vB0, if_true, if_false, not_true_eq_false, not_false_eq_true, k_t_n, k_t_1, exists_eq, qS_nop, qS_seq, qS_set, qS_setJ, qS_if, qS_brk, qS_ret, qS_retV, qS_throw, qS_inc, qS_cl, qS_ast, qS_aop, qS_fst, qS_fop, qS_sw, qT_eC, qT_eCB, qT_eL, qT_eLJ, qT_eLR, qT_eLB, qT_e1, qT_e2, qT_bCmp, qT_bCmpJ, qT_bAnd, qT_bOr, qT_bNot, qT_eBI, qT_eIf, qT_eLd, qT_eLdR, qT_eLen, qT_eF, qT_eFR, qT_aN, qT_aS, qT_eCl, qT_eClR, qT_eClB, qT_some, qT_x, z_nx_N, z_nx_B, z_nx_R, z_nx_X, z_bk_N, z_bk_B, z_bk_R, z_bk_X, oAdd, oSub, oMul, oNeg, cLt, cLe, cGt, cGe, cEq, cNe, Option.some.injEq, Sum.inl.injEq, Sum.inr.injEq, Prod.mk.injEq, exists_eq_left, exists_eq_left', exists_eq_right, exists_and_left, reduceCtorEq, and_true, true_and, and_false, false_and, List.getElem?_cons_zero, List.getElem?_cons_succ, List.set_cons_zero, List.set_cons_succ, List.replicate, List.length_cons, List.length_nil, List.cons_append, List.nil_append, Nat.reduceAdd, Nat.reduceSub, decide_eq_true_eq, decide_eq_false_iff_not, Bool.true_eq_false, Bool.false_eq_true, true_implies, false_implies, implies_true, Nat.reduceLT, exists_const, z_vB_inj, and_assoc, z_in_iff, oI2L, oL2I, Int.toNat_natCast, z_toNat0, Bool.not_eq_true', Bool.not_eq_false', ne_eq, Bool.not_true, Bool.not_false, Nat.add_zero, Int.add_zero, z_sl_s]
      split
      · first | trivial | omega | (refine ⟨_, rfl, ?_⟩; simp only [b_X6_graph, r0, rf_can0, d, z_vB1, z_vB0, if_true, if_false, not_true_eq_false, not_false_eq_true, k_t_n, k_t_1, exists_eq, qS_nop, qS_seq, qS_set, qS_setJ, qS_if, qS_brk, qS_ret, qS_retV, qS_throw, qS_inc, qS_cl, qS_ast, qS_aop, qS_fst, qS_fop, qS_sw, qT_eC, qT_eCB, qT_eL, qT_eLJ, qT_eLR, qT_eLB, qT_e1, qT_e2, qT_bCmp, qT_bCmpJ, qT_bAnd, qT_bOr, qT_bNot, qT_eBI, qT_eIf, qT_eLd, qT_eLdR, qT_eLen, qT_eF, qT_eFR, qT_aN, qT_aS, qT_eCl, qT_eClR, qT_eClB, qT_some, qT_x, z_nx_N, z_nx_B, z_nx_R, z_nx_X, z_bk_N, z_bk_B, z_bk_R, z_bk_X, oAdd, oSub, oMul, oNeg, cLt, cLe, cGt, cGe, cEq, cNe, Option.some.injEq, Sum.inl.injEq, Sum.inr.injEq, Prod.mk.injEq, exists_eq_left, exists_eq_left', exists_eq_right, exists_and_left, reduceCtorEq, and_true, true_and, and_false, false_and, List.getElem?_cons_zero, List.getElem?_cons_succ, List.set_cons_zero, List.set_cons_succ, List.replicate, List.length_cons, List.length_nil, List.cons_append, List.nil_append, Nat.reduceAdd, Nat.reduceSub, decide_eq_true_eq, decide_eq_false_iff_not, Bool.true_eq_false, Bool.false_eq_true, true_implies, false_implies, implies_true, Nat.reduceLT, exists_const, z_vB_inj, and_assoc, z_in_iff, oI2L, oL2I, Int.toNat_natCast, z_toNat0, Bool.not_eq_true', Bool.not_eq_false', ne_eq, Bool.not_true, Bool.not_false, Nat.add_zero, Int.add_zero, z_sl_s]; first | done | omega | exact ⟨id, id⟩)
      · first | trivial | omega | done
  · have c := s_ne n hB
    refine kOp.ok (r := vI (nEd (kF S 10 5))) (S1 := S) (S2 := fun g => k_t (k_u S 103 g) 0) ?_ (fun g => ?_) (fun g => I.t g 0) (fun g => k_t_103) (fun g => k_t_1)
    · unfold m_X5_graph
      rw [k_v0]
      apply q_body
      have b6 : INF = 1000000 := rfl
      simp only [b_X5_graph, c0, k_o0, c, z_vB1, z_vB0, if_true, if_false, not_true_eq_false, not_false_eq_true, k_t_n, k_t_1, exists_eq, qS_nop, qS_seq, qS_set, qS_setJ, qS_if, qS_brk, qS_ret, qS_retV, qS_throw, qS_inc, qS_cl, qS_ast, qS_aop, qS_fst, qS_fop, qS_sw, qT_eC, qT_eCB, qT_eL, qT_eLJ, qT_eLR, qT_eLB, qT_e1, qT_e2, qT_bCmp, qT_bCmpJ, qT_bAnd, qT_bOr, qT_bNot, qT_eBI, qT_eIf, qT_eLd, qT_eLdR, qT_eLen, qT_eF, qT_eFR, qT_aN, qT_aS, qT_eCl, qT_eClR, qT_eClB, qT_some, qT_x, z_nx_N, z_nx_B, z_nx_R, z_nx_X, z_bk_N, z_bk_B, z_bk_R, z_bk_X, oAdd, oSub, oMul, oNeg, cLt, cLe, cGt, cGe, cEq, cNe, Option.some.injEq, Sum.inl.injEq, Sum.inr.injEq, Prod.mk.injEq, exists_eq_left, exists_eq_left', exists_eq_right, exists_and_left, reduceCtorEq, and_true, true_and, and_false, false_and, List.getElem?_cons_zero, List.getElem?_cons_succ, List.set_cons_zero, List.set_cons_succ, List.replicate, List.length_cons, List.length_nil, List.cons_append, List.nil_append, Nat.reduceAdd, Nat.reduceSub, decide_eq_true_eq, decide_eq_false_iff_not, Bool.true_eq_false, Bool.false_eq_true, true_implies, false_implies, implies_true, Nat.reduceLT, exists_const, z_vB_inj, and_assoc, z_in_iff, oI2L, oL2I, Int.toNat_natCast, z_toNat0, Bool.not_eq_true', Bool.not_eq_false', ne_eq, Bool.not_true, Bool.not_false, Nat.add_zero, Int.add_zero, z_sl_s]
      split
      · first | trivial | omega | (refine ⟨_, rfl, ?_⟩; simp only [b_X5_graph, c0, k_o0, c, z_vB1, z_vB0, if_true, if_false, not_true_eq_false, not_false_eq_true, k_t_n, k_t_1, exists_eq, qS_nop, qS_seq, qS_set, qS_setJ, qS_if, qS_brk, qS_ret, qS_retV, qS_throw, qS_inc, qS_cl, qS_ast, qS_aop, qS_fst, qS_fop, qS_sw, qT_eC, qT_eCB, qT_eL, qT_eLJ, qT_eLR, qT_eLB, qT_e1, qT_e2, qT_bCmp, qT_bCmpJ, qT_bAnd, qT_bOr, qT_bNot, qT_eBI, qT_eIf, qT_eLd, qT_eLdR, qT_eLen, qT_eF, qT_eFR, qT_aN, qT_aS, qT_eCl, qT_eClR, qT_eClB, qT_some, qT_x, z_nx_N, z_nx_B, z_nx_R, z_nx_X, z_bk_N, z_bk_B, z_bk_R, z_bk_X, oAdd, oSub, oMul, oNeg, cLt, cLe, cGt, cGe, cEq, cNe, Option.some.injEq, Sum.inl.injEq, Sum.inr.injEq, Prod.mk.injEq, exists_eq_left, exists_eq_left', exists_eq_right, exists_and_left, reduceCtorEq, and_true, true_and, and_false, false_and, List.getElem?_cons_zero, List.getElem?_cons_succ, List.set_cons_zero, List.set_cons_succ, List.replicate, List.length_cons, List.length_nil, List.cons_append, List.nil_append, Nat.reduceAdd, Nat.reduceSub, decide_eq_true_eq, decide_eq_false_iff_not, Bool.true_eq_false, Bool.false_eq_true, true_implies, false_implies, implies_true, Nat.reduceLT, exists_const, z_vB_inj, and_assoc, z_in_iff, oI2L, oL2I, Int.toNat_natCast, z_toNat0, Bool.not_eq_true', Bool.not_eq_false', ne_eq, Bool.not_true, Bool.not_false, Nat.add_zero, Int.add_zero, z_sl_s]; first | done | omega | exact ⟨id, id⟩)
      · first | trivial | omega | done
    · have d := rf_allE I (e98 g)
      unfold m_X6_graph
      rw [k_v85]
      apply q_body
      have b6 : INF = 1000000 := rfl
      simp only [b_X6_graph, r0, rf_can0, d, z_vB1, z_vB0, if_true, if_false, not_true_eq_false, not_false_eq_true, k_t_n, k_t_1, exists_eq, qS_nop, qS_seq, qS_set, qS_setJ, qS_if, qS_brk, qS_ret, qS_retV, qS_throw, qS_inc, qS_cl, qS_ast, qS_aop, qS_fst, qS_fop, qS_sw, qT_eC, qT_eCB, qT_eL, qT_eLJ, qT_eLR, qT_eLB, qT_e1, qT_e2, qT_bCmp, qT_bCmpJ, qT_bAnd, qT_bOr, qT_bNot, qT_eBI, qT_eIf, qT_eLd, qT_eLdR, qT_eLen, qT_eF, qT_eFR, qT_aN, qT_aS, qT_eCl, qT_eClR, qT_eClB, qT_some, qT_x, z_nx_N, z_nx_B, z_nx_R, z_nx_X, z_bk_N, z_bk_B, z_bk_R, z_bk_X, oAdd, oSub, oMul, oNeg, cLt, cLe, cGt, cGe, cEq, cNe, Option.some.injEq, Sum.inl.injEq, Sum.inr.injEq, Prod.mk.injEq, exists_eq_left, exists_eq_left', exists_eq_right, exists_and_left, reduceCtorEq, and_true, true_and, and_false, false_and, List.getElem?_cons_zero, List.getElem?_cons_succ, List.set_cons_zero, List.set_cons_succ, List.replicate, List.length_cons, List.length_nil, List.cons_append, List.nil_append, Nat.reduceAdd, Nat.reduceSub, decide_eq_true_eq, decide_eq_false_iff_not, Bool.true_eq_false, Bool.false_eq_true, true_implies, false_implies, implies_true, Nat.reduceLT, exists_const, z_vB_inj, and_assoc, z_in_iff, oI2L, oL2I, Int.toNat_natCast, z_toNat0, Bool.not_eq_true', Bool.not_eq_false', ne_eq, Bool.not_true, Bool.not_false, Nat.add_zero, Int.add_zero, z_sl_s]
      split
      · first | trivial | omega | (refine ⟨_, rfl, ?_⟩; simp only [b_X6_graph, r0, rf_can0, d, z_vB1, z_vB0, if_true, if_false, not_true_eq_false, not_false_eq_true, k_t_n, k_t_1, exists_eq, qS_nop, qS_seq, qS_set, qS_setJ, qS_if, qS_brk, qS_ret, qS_retV, qS_throw, qS_inc, qS_cl, qS_ast, qS_aop, qS_fst, qS_fop, qS_sw, qT_eC, qT_eCB, qT_eL, qT_eLJ, qT_eLR, qT_eLB, qT_e1, qT_e2, qT_bCmp, qT_bCmpJ, qT_bAnd, qT_bOr, qT_bNot, qT_eBI, qT_eIf, qT_eLd, qT_eLdR, qT_eLen, qT_eF, qT_eFR, qT_aN, qT_aS, qT_eCl, qT_eClR, qT_eClB, qT_some, qT_x, z_nx_N, z_nx_B, z_nx_R, z_nx_X, z_bk_N, z_bk_B, z_bk_R, z_bk_X, oAdd, oSub, oMul, oNeg, cLt, cLe, cGt, cGe, cEq, cNe, Option.some.injEq, Sum.inl.injEq, Sum.inr.injEq, Prod.mk.injEq, exists_eq_left, exists_eq_left', exists_eq_right, exists_and_left, reduceCtorEq, and_true, true_and, and_false, false_and, List.getElem?_cons_zero, List.getElem?_cons_succ, List.set_cons_zero, List.set_cons_succ, List.replicate, List.length_cons, List.length_nil, List.cons_append, List.nil_append, Nat.reduceAdd, Nat.reduceSub, decide_eq_true_eq, decide_eq_false_iff_not, Bool.true_eq_false, Bool.false_eq_true, true_implies, false_implies, implies_true, Nat.reduceLT, exists_const, z_vB_inj, and_assoc, z_in_iff, oI2L, oL2I, Int.toNat_natCast, z_toNat0, Bool.not_eq_true', Bool.not_eq_false', ne_eq, Bool.not_true, Bool.not_false, Nat.add_zero, Int.add_zero, z_sl_s]; first | done | omega | exact ⟨id, id⟩)
      · first | trivial | omega | done
  · have c := s_gn n hB
    refine kOp.ok (r := vI (nGn (kF S 10 5))) (S1 := S) (S2 := fun g => k_t (k_u S 103 g) 0) ?_ (fun g => ?_) (fun g => I.t g 0) (fun g => k_t_103) (fun g => k_t_1)
    · unfold m_X5_graph
      rw [k_v0]
      apply q_body
      have b6 : INF = 1000000 := rfl
      simp only [b_X5_graph, c0, k_o0, c, z_vB1, z_vB0, if_true, if_false, not_true_eq_false, not_false_eq_true, k_t_n, k_t_1, exists_eq, qS_nop, qS_seq, qS_set, qS_setJ, qS_if, qS_brk, qS_ret, qS_retV, qS_throw, qS_inc, qS_cl, qS_ast, qS_aop, qS_fst, qS_fop, qS_sw, qT_eC, qT_eCB, qT_eL, qT_eLJ, qT_eLR, qT_eLB, qT_e1, qT_e2, qT_bCmp, qT_bCmpJ, qT_bAnd, qT_bOr, qT_bNot, qT_eBI, qT_eIf, qT_eLd, qT_eLdR, qT_eLen, qT_eF, qT_eFR, qT_aN, qT_aS, qT_eCl, qT_eClR, qT_eClB, qT_some, qT_x, z_nx_N, z_nx_B, z_nx_R, z_nx_X, z_bk_N, z_bk_B, z_bk_R, z_bk_X, oAdd, oSub, oMul, oNeg, cLt, cLe, cGt, cGe, cEq, cNe, Option.some.injEq, Sum.inl.injEq, Sum.inr.injEq, Prod.mk.injEq, exists_eq_left, exists_eq_left', exists_eq_right, exists_and_left, reduceCtorEq, and_true, true_and, and_false, false_and, List.getElem?_cons_zero, List.getElem?_cons_succ, List.set_cons_zero, List.set_cons_succ, List.replicate, List.length_cons, List.length_nil, List.cons_append, List.nil_append, Nat.reduceAdd, Nat.reduceSub, decide_eq_true_eq, decide_eq_false_iff_not, Bool.true_eq_false, Bool.false_eq_true, true_implies, false_implies, implies_true, Nat.reduceLT, exists_const, z_vB_inj, and_assoc, z_in_iff, oI2L, oL2I, Int.toNat_natCast, z_toNat0, Bool.not_eq_true', Bool.not_eq_false', ne_eq, Bool.not_true, Bool.not_false, Nat.add_zero, Int.add_zero, z_sl_s]
      split
      · first | trivial | omega | (refine ⟨_, rfl, ?_⟩; simp only [b_X5_graph, c0, k_o0, c, z_vB1, z_vB0, if_true, if_false, not_true_eq_false, not_false_eq_true, k_t_n, k_t_1, exists_eq, qS_nop, qS_seq, qS_set, qS_setJ, qS_if, qS_brk, qS_ret, qS_retV, qS_throw, qS_inc, qS_cl, qS_ast, qS_aop, qS_fst, qS_fop, qS_sw, qT_eC, qT_eCB, qT_eL, qT_eLJ, qT_eLR, qT_eLB, qT_e1, qT_e2, qT_bCmp, qT_bCmpJ, qT_bAnd, qT_bOr, qT_bNot, qT_eBI, qT_eIf, qT_eLd, qT_eLdR, qT_eLen, qT_eF, qT_eFR, qT_aN, qT_aS, qT_eCl, qT_eClR, qT_eClB, qT_some, qT_x, z_nx_N, z_nx_B, z_nx_R, z_nx_X, z_bk_N, z_bk_B, z_bk_R, z_bk_X, oAdd, oSub, oMul, oNeg, cLt, cLe, cGt, cGe, cEq, cNe, Option.some.injEq, Sum.inl.injEq, Sum.inr.injEq, Prod.mk.injEq, exists_eq_left, exists_eq_left', exists_eq_right, exists_and_left, reduceCtorEq, and_true, true_and, and_false, false_and, List.getElem?_cons_zero, List.getElem?_cons_succ, List.set_cons_zero, List.set_cons_succ, List.replicate, List.length_cons, List.length_nil, List.cons_append, List.nil_append, Nat.reduceAdd, Nat.reduceSub, decide_eq_true_eq, decide_eq_false_iff_not, Bool.true_eq_false, Bool.false_eq_true, true_implies, false_implies, implies_true, Nat.reduceLT, exists_const, z_vB_inj, and_assoc, z_in_iff, oI2L, oL2I, Int.toNat_natCast, z_toNat0, Bool.not_eq_true', Bool.not_eq_false', ne_eq, Bool.not_true, Bool.not_false, Nat.add_zero, Int.add_zero, z_sl_s]; first | done | omega | exact ⟨id, id⟩)
      · first | trivial | omega | done
    · have d := rf_allE I (e98 g)
      have d2 := rf_vs I (e98 g)
      unfold nGn
      unfold m_X6_graph
      rw [k_v85]
      apply q_body
      have b6 : INF = 1000000 := rfl
      simp only [b_X6_graph, r0, rf_can0, d, d2, z_vB1, z_vB0, if_true, if_false, not_true_eq_false, not_false_eq_true, k_t_n, k_t_1, exists_eq, qS_nop, qS_seq, qS_set, qS_setJ, qS_if, qS_brk, qS_ret, qS_retV, qS_throw, qS_inc, qS_cl, qS_ast, qS_aop, qS_fst, qS_fop, qS_sw, qT_eC, qT_eCB, qT_eL, qT_eLJ, qT_eLR, qT_eLB, qT_e1, qT_e2, qT_bCmp, qT_bCmpJ, qT_bAnd, qT_bOr, qT_bNot, qT_eBI, qT_eIf, qT_eLd, qT_eLdR, qT_eLen, qT_eF, qT_eFR, qT_aN, qT_aS, qT_eCl, qT_eClR, qT_eClB, qT_some, qT_x, z_nx_N, z_nx_B, z_nx_R, z_nx_X, z_bk_N, z_bk_B, z_bk_R, z_bk_X, oAdd, oSub, oMul, oNeg, cLt, cLe, cGt, cGe, cEq, cNe, Option.some.injEq, Sum.inl.injEq, Sum.inr.injEq, Prod.mk.injEq, exists_eq_left, exists_eq_left', exists_eq_right, exists_and_left, reduceCtorEq, and_true, true_and, and_false, false_and, List.getElem?_cons_zero, List.getElem?_cons_succ, List.set_cons_zero, List.set_cons_succ, List.replicate, List.length_cons, List.length_nil, List.cons_append, List.nil_append, Nat.reduceAdd, Nat.reduceSub, decide_eq_true_eq, decide_eq_false_iff_not, Bool.true_eq_false, Bool.false_eq_true, true_implies, false_implies, implies_true, Nat.reduceLT, exists_const, z_vB_inj, and_assoc, z_in_iff, oI2L, oL2I, Int.toNat_natCast, z_toNat0, Bool.not_eq_true', Bool.not_eq_false', ne_eq, Bool.not_true, Bool.not_false, Nat.add_zero, Int.add_zero, z_sl_s]
      split
      · first | trivial | omega | (refine ⟨_, rfl, ?_⟩; simp only [b_X6_graph, r0, rf_can0, d, d2, z_vB1, z_vB0, if_true, if_false, not_true_eq_false, not_false_eq_true, k_t_n, k_t_1, exists_eq, qS_nop, qS_seq, qS_set, qS_setJ, qS_if, qS_brk, qS_ret, qS_retV, qS_throw, qS_inc, qS_cl, qS_ast, qS_aop, qS_fst, qS_fop, qS_sw, qT_eC, qT_eCB, qT_eL, qT_eLJ, qT_eLR, qT_eLB, qT_e1, qT_e2, qT_bCmp, qT_bCmpJ, qT_bAnd, qT_bOr, qT_bNot, qT_eBI, qT_eIf, qT_eLd, qT_eLdR, qT_eLen, qT_eF, qT_eFR, qT_aN, qT_aS, qT_eCl, qT_eClR, qT_eClB, qT_some, qT_x, z_nx_N, z_nx_B, z_nx_R, z_nx_X, z_bk_N, z_bk_B, z_bk_R, z_bk_X, oAdd, oSub, oMul, oNeg, cLt, cLe, cGt, cGe, cEq, cNe, Option.some.injEq, Sum.inl.injEq, Sum.inr.injEq, Prod.mk.injEq, exists_eq_left, exists_eq_left', exists_eq_right, exists_and_left, reduceCtorEq, and_true, true_and, and_false, false_and, List.getElem?_cons_zero, List.getElem?_cons_succ, List.set_cons_zero, List.set_cons_succ, List.replicate, List.length_cons, List.length_nil, List.cons_append, List.nil_append, Nat.reduceAdd, Nat.reduceSub, decide_eq_true_eq, decide_eq_false_iff_not, Bool.true_eq_false, Bool.false_eq_true, true_implies, false_implies, implies_true, Nat.reduceLT, exists_const, z_vB_inj, and_assoc, z_in_iff, oI2L, oL2I, Int.toNat_natCast, z_toNat0, Bool.not_eq_true', Bool.not_eq_false', ne_eq, Bool.not_true, Bool.not_false, Nat.add_zero, Int.add_zero, z_sl_s]; first | done | omega | exact ⟨id, id⟩)
      · first | trivial | omega | done
  · have cn := s_cn I
    refine kOp.ok (r := vI (if z_dec (kQ S) = true then 1 else 0)) (S1 := k_u S 16 (nG (kF S 10 5) (S 16) 0 4)) (S2 := fun g => k_t (k_u (k_u S 16 (nG (kF S 10 5) (S 16) 0 4)) 103 g) 0) ?_ (fun g => ?_) (fun g => I.eq (fun a ha => ?_)) (fun g => k_t_103) (fun g => k_t_1)
    · unfold m_X5_graph
      rw [k_v0]
      apply q_body
      have b6 : INF = 1000000 := rfl
      generalize z_dec (kQ S) = b at *
      simp only [b_X5_graph, c0, k_o0, cn, z_vB1, z_vB0, if_true, if_false, not_true_eq_false, not_false_eq_true, k_t_n, k_t_1, exists_eq, qS_nop, qS_seq, qS_set, qS_setJ, qS_if, qS_brk, qS_ret, qS_retV, qS_throw, qS_inc, qS_cl, qS_ast, qS_aop, qS_fst, qS_fop, qS_sw, qT_eC, qT_eCB, qT_eL, qT_eLJ, qT_eLR, qT_eLB, qT_e1, qT_e2, qT_bCmp, qT_bCmpJ, qT_bAnd, qT_bOr, qT_bNot, qT_eBI, qT_eIf, qT_eLd, qT_eLdR, qT_eLen, qT_eF, qT_eFR, qT_aN, qT_aS, qT_eCl, qT_eClR, qT_eClB, qT_some, qT_x, z_nx_N, z_nx_B, z_nx_R, z_nx_X, z_bk_N, z_bk_B, z_bk_R, z_bk_X, oAdd, oSub, oMul, oNeg, cLt, cLe, cGt, cGe, cEq, cNe, Option.some.injEq, Sum.inl.injEq, Sum.inr.injEq, Prod.mk.injEq, exists_eq_left, exists_eq_left', exists_eq_right, exists_and_left, reduceCtorEq, and_true, true_and, and_false, false_and, List.getElem?_cons_zero, List.getElem?_cons_succ, List.set_cons_zero, List.set_cons_succ, List.replicate, List.length_cons, List.length_nil, List.cons_append, List.nil_append, Nat.reduceAdd, Nat.reduceSub, decide_eq_true_eq, decide_eq_false_iff_not, Bool.true_eq_false, Bool.false_eq_true, true_implies, false_implies, implies_true, Nat.reduceLT, exists_const, z_vB_inj, and_assoc, z_in_iff, oI2L, oL2I, Int.toNat_natCast, z_toNat0, Bool.not_eq_true', Bool.not_eq_false', ne_eq, Bool.not_true, Bool.not_false, Nat.add_zero, Int.add_zero, z_sl_s]
      split
      · first | trivial | omega | (refine ⟨_, rfl, ?_⟩; simp only [b_X5_graph, c0, k_o0, cn, z_vB1, z_vB0, if_true, if_false, not_true_eq_false, not_false_eq_true, k_t_n, k_t_1, exists_eq, qS_nop, qS_seq, qS_set, qS_setJ, qS_if, qS_brk, qS_ret, qS_retV, qS_throw, qS_inc, qS_cl, qS_ast, qS_aop, qS_fst, qS_fop, qS_sw, qT_eC, qT_eCB, qT_eL, qT_eLJ, qT_eLR, qT_eLB, qT_e1, qT_e2, qT_bCmp, qT_bCmpJ, qT_bAnd, qT_bOr, qT_bNot, qT_eBI, qT_eIf, qT_eLd, qT_eLdR, qT_eLen, qT_eF, qT_eFR, qT_aN, qT_aS, qT_eCl, qT_eClR, qT_eClB, qT_some, qT_x, z_nx_N, z_nx_B, z_nx_R, z_nx_X, z_bk_N, z_bk_B, z_bk_R, z_bk_X, oAdd, oSub, oMul, oNeg, cLt, cLe, cGt, cGe, cEq, cNe, Option.some.injEq, Sum.inl.injEq, Sum.inr.injEq, Prod.mk.injEq, exists_eq_left, exists_eq_left', exists_eq_right, exists_and_left, reduceCtorEq, and_true, true_and, and_false, false_and, List.getElem?_cons_zero, List.getElem?_cons_succ, List.set_cons_zero, List.set_cons_succ, List.replicate, List.length_cons, List.length_nil, List.cons_append, List.nil_append, Nat.reduceAdd, Nat.reduceSub, decide_eq_true_eq, decide_eq_false_iff_not, Bool.true_eq_false, Bool.false_eq_true, true_implies, false_implies, implies_true, Nat.reduceLT, exists_const, z_vB_inj, and_assoc, z_in_iff, oI2L, oL2I, Int.toNat_natCast, z_toNat0, Bool.not_eq_true', Bool.not_eq_false', ne_eq, Bool.not_true, Bool.not_false, Nat.add_zero, Int.add_zero, z_sl_s]; first | done | omega | exact ⟨id, id⟩)
      · first | trivial | omega | done
    · have d := rf_cn I (T := k_t (k_u (k_u S 16 (nG (kF S 10 5) (S 16) 0 4)) 103 g) 0) (by rw [k_t_n (by decide), k_u_n (by decide), k_u_n (by decide)])
      unfold m_X6_graph
      rw [k_v85]
      apply q_body
      have b6 : INF = 1000000 := rfl
      generalize z_dec (kQ S) = b at *
      simp only [b_X6_graph, r0, rf_can0, d, z_vB1, z_vB0, if_true, if_false, not_true_eq_false, not_false_eq_true, k_t_n, k_t_1, exists_eq, qS_nop, qS_seq, qS_set, qS_setJ, qS_if, qS_brk, qS_ret, qS_retV, qS_throw, qS_inc, qS_cl, qS_ast, qS_aop, qS_fst, qS_fop, qS_sw, qT_eC, qT_eCB, qT_eL, qT_eLJ, qT_eLR, qT_eLB, qT_e1, qT_e2, qT_bCmp, qT_bCmpJ, qT_bAnd, qT_bOr, qT_bNot, qT_eBI, qT_eIf, qT_eLd, qT_eLdR, qT_eLen, qT_eF, qT_eFR, qT_aN, qT_aS, qT_eCl, qT_eClR, qT_eClB, qT_some, qT_x, z_nx_N, z_nx_B, z_nx_R, z_nx_X, z_bk_N, z_bk_B, z_bk_R, z_bk_X, oAdd, oSub, oMul, oNeg, cLt, cLe, cGt, cGe, cEq, cNe, Option.some.injEq, Sum.inl.injEq, Sum.inr.injEq, Prod.mk.injEq, exists_eq_left, exists_eq_left', exists_eq_right, exists_and_left, reduceCtorEq, and_true, true_and, and_false, false_and, List.getElem?_cons_zero, List.getElem?_cons_succ, List.set_cons_zero, List.set_cons_succ, List.replicate, List.length_cons, List.length_nil, List.cons_append, List.nil_append, Nat.reduceAdd, Nat.reduceSub, decide_eq_true_eq, decide_eq_false_iff_not, Bool.true_eq_false, Bool.false_eq_true, true_implies, false_implies, implies_true, Nat.reduceLT, exists_const, z_vB_inj, and_assoc, z_in_iff, oI2L, oL2I, Int.toNat_natCast, z_toNat0, Bool.not_eq_true', Bool.not_eq_false', ne_eq, Bool.not_true, Bool.not_false, Nat.add_zero, Int.add_zero, z_sl_s]
      split
      · first | trivial | omega | (refine ⟨_, rfl, ?_⟩; simp only [b_X6_graph, r0, rf_can0, d, z_vB1, z_vB0, if_true, if_false, not_true_eq_false, not_false_eq_true, k_t_n, k_t_1, exists_eq, qS_nop, qS_seq, qS_set, qS_setJ, qS_if, qS_brk, qS_ret, qS_retV, qS_throw, qS_inc, qS_cl, qS_ast, qS_aop, qS_fst, qS_fop, qS_sw, qT_eC, qT_eCB, qT_eL, qT_eLJ, qT_eLR, qT_eLB, qT_e1, qT_e2, qT_bCmp, qT_bCmpJ, qT_bAnd, qT_bOr, qT_bNot, qT_eBI, qT_eIf, qT_eLd, qT_eLdR, qT_eLen, qT_eF, qT_eFR, qT_aN, qT_aS, qT_eCl, qT_eClR, qT_eClB, qT_some, qT_x, z_nx_N, z_nx_B, z_nx_R, z_nx_X, z_bk_N, z_bk_B, z_bk_R, z_bk_X, oAdd, oSub, oMul, oNeg, cLt, cLe, cGt, cGe, cEq, cNe, Option.some.injEq, Sum.inl.injEq, Sum.inr.injEq, Prod.mk.injEq, exists_eq_left, exists_eq_left', exists_eq_right, exists_and_left, reduceCtorEq, and_true, true_and, and_false, false_and, List.getElem?_cons_zero, List.getElem?_cons_succ, List.set_cons_zero, List.set_cons_succ, List.replicate, List.length_cons, List.length_nil, List.cons_append, List.nil_append, Nat.reduceAdd, Nat.reduceSub, decide_eq_true_eq, decide_eq_false_iff_not, Bool.true_eq_false, Bool.false_eq_true, true_implies, false_implies, implies_true, Nat.reduceLT, exists_const, z_vB_inj, and_assoc, z_in_iff, oI2L, oL2I, Int.toNat_natCast, z_toNat0, Bool.not_eq_true', Bool.not_eq_false', ne_eq, Bool.not_true, Bool.not_false, Nat.add_zero, Int.add_zero, z_sl_s]; first | done | omega | exact ⟨id, id⟩)
      · first | trivial | omega | done
    · rw [k_t_n (fun e => ha (by subst e; unfold kFree; omega)), k_u_n (fun e => ha (by subst e; unfold kFree; omega)), k_u_n (fun e => ha (by subst e; unfold kFree; omega))]
  · have x1 := s_copyChips n
    rw [k_s18] at x1
    obtain ⟨P, hP⟩ : ∃ P, P = fun k => if k < 5 then S 15 k else kF S 18 5 0 k := ⟨_, rfl⟩
    rw [← hP] at x1
    have Pe : ∀ v, v < 5 → P v = S 15 v := fun v hv => by rw [hP]; exact if_pos hv
    obtain ⟨X, hX⟩ : ∃ X, X = k_u S 18 P := ⟨_, rfl⟩
    rw [← hX] at x1
    have f1 : kF X 10 5 = kF S 10 5 := by rw [hX, kF_u (by omega)]
    have X18 : X 18 = P := by rw [hX, k_u_s]
    have sp := s_sp X
    have dg := s_dg18 (S := X) (by rw [f1]; exact hB) (by
      rw [X18]
      intro v hv
      rw [Pe v hv]
      have := (I.2.2.2.1.2.2 v hv).2
      omega)
    rw [f1, X18] at dg
    have Xo : ∀ a, a ≠ 18 → X a = S a := fun a h => by rw [hX, k_u_n h]
    refine kOp.ok (r := vI (nDg (kF S 10 5) P 5)) (S1 := X) (S2 := fun g => k_u (k_t (k_u X 103 g) 0) 101 (z_to 5 (rLb (rE S) (S 99) false) (S 101))) ?_ (fun g => ?_) (fun g => I.eq (fun a ha => ?_)) (fun g => ?_) (fun g => ?_)
    · unfold m_X5_graph
      rw [k_v0]
      apply q_body
      have b6 : INF = 1000000 := rfl
      simp only [b_X5_graph, c0, k_o0, x1, sp, dg, z_vB1, z_vB0, if_true, if_false, not_true_eq_false, not_false_eq_true, k_t_n, k_t_1, exists_eq, qS_nop, qS_seq, qS_set, qS_setJ, qS_if, qS_brk, qS_ret, qS_retV, qS_throw, qS_inc, qS_cl, qS_ast, qS_aop, qS_fst, qS_fop, qS_sw, qT_eC, qT_eCB, qT_eL, qT_eLJ, qT_eLR, qT_eLB, qT_e1, qT_e2, qT_bCmp, qT_bCmpJ, qT_bAnd, qT_bOr, qT_bNot, qT_eBI, qT_eIf, qT_eLd, qT_eLdR, qT_eLen, qT_eF, qT_eFR, qT_aN, qT_aS, qT_eCl, qT_eClR, qT_eClB, qT_some, qT_x, z_nx_N, z_nx_B, z_nx_R, z_nx_X, z_bk_N, z_bk_B, z_bk_R, z_bk_X, oAdd, oSub, oMul, oNeg, cLt, cLe, cGt, cGe, cEq, cNe, Option.some.injEq, Sum.inl.injEq, Sum.inr.injEq, Prod.mk.injEq, exists_eq_left, exists_eq_left', exists_eq_right, exists_and_left, reduceCtorEq, and_true, true_and, and_false, false_and, List.getElem?_cons_zero, List.getElem?_cons_succ, List.set_cons_zero, List.set_cons_succ, List.replicate, List.length_cons, List.length_nil, List.cons_append, List.nil_append, Nat.reduceAdd, Nat.reduceSub, decide_eq_true_eq, decide_eq_false_iff_not, Bool.true_eq_false, Bool.false_eq_true, true_implies, false_implies, implies_true, Nat.reduceLT, exists_const, z_vB_inj, and_assoc, z_in_iff, oI2L, oL2I, Int.toNat_natCast, z_toNat0, Bool.not_eq_true', Bool.not_eq_false', ne_eq, Bool.not_true, Bool.not_false, Nat.add_zero, Int.add_zero, z_sl_s]
      split
      · first | trivial | omega | (refine ⟨_, rfl, ?_⟩; simp only [b_X5_graph, c0, k_o0, x1, sp, dg, z_vB1, z_vB0, if_true, if_false, not_true_eq_false, not_false_eq_true, k_t_n, k_t_1, exists_eq, qS_nop, qS_seq, qS_set, qS_setJ, qS_if, qS_brk, qS_ret, qS_retV, qS_throw, qS_inc, qS_cl, qS_ast, qS_aop, qS_fst, qS_fop, qS_sw, qT_eC, qT_eCB, qT_eL, qT_eLJ, qT_eLR, qT_eLB, qT_e1, qT_e2, qT_bCmp, qT_bCmpJ, qT_bAnd, qT_bOr, qT_bNot, qT_eBI, qT_eIf, qT_eLd, qT_eLdR, qT_eLen, qT_eF, qT_eFR, qT_aN, qT_aS, qT_eCl, qT_eClR, qT_eClB, qT_some, qT_x, z_nx_N, z_nx_B, z_nx_R, z_nx_X, z_bk_N, z_bk_B, z_bk_R, z_bk_X, oAdd, oSub, oMul, oNeg, cLt, cLe, cGt, cGe, cEq, cNe, Option.some.injEq, Sum.inl.injEq, Sum.inr.injEq, Prod.mk.injEq, exists_eq_left, exists_eq_left', exists_eq_right, exists_and_left, reduceCtorEq, and_true, true_and, and_false, false_and, List.getElem?_cons_zero, List.getElem?_cons_succ, List.set_cons_zero, List.set_cons_succ, List.replicate, List.length_cons, List.length_nil, List.cons_append, List.nil_append, Nat.reduceAdd, Nat.reduceSub, decide_eq_true_eq, decide_eq_false_iff_not, Bool.true_eq_false, Bool.false_eq_true, true_implies, false_implies, implies_true, Nat.reduceLT, exists_const, z_vB_inj, and_assoc, z_in_iff, oI2L, oL2I, Int.toNat_natCast, z_toNat0, Bool.not_eq_true', Bool.not_eq_false', ne_eq, Bool.not_true, Bool.not_false, Nat.add_zero, Int.add_zero, z_sl_s]; first | done | omega | exact ⟨id, id⟩)
      · first | trivial | omega | done
    · obtain ⟨T, hT⟩ : ∃ T, T = k_t (k_u X 103 g) 0 := ⟨_, rfl⟩
      have To : ∀ a, a ≠ 85 → a ≠ 103 → a ≠ 18 → T a = S a := fun a h1 h2 h3 => by rw [hT, k_t_n h1, k_u_n h2, Xo a h3]
      have eE : rE T = rE S := rE_e (To 98 (by decide) (by decide) (by decide))
      have lb := rf_layBase (S := T) (by rw [eE]; exact I.g'.bd) false
      rw [eE, To 99 (by decide) (by decide) (by decide), To 101 (by decide) (by decide) (by decide)] at lb
      obtain ⟨U, hU⟩ : ∃ U, U = k_u T 101 (z_to 5 (rLb (rE S) (S 99) false) (S 101)) := ⟨_, rfl⟩
      rw [← hU] at lb
      have eU : rE U = rE S := rE_e (by rw [hU, k_u_n (by decide), To 98 (by decide) (by decide) (by decide)])
      have db := rf_degreeOfBase (S := U) (by rw [eU]; exact I.g'.bd)
      have de : nDg (rE U) (U 101) 5 = nDg (kF S 10 5) P 5 := by
        rw [eU]
        refine nDg_bg I.sm.sy (fun v hv hn => ?_) 5 (by omega)
        rw [hU, k_u_s, z_to_lt hv, Pe v hv]
        unfold rLb
        rw [if_pos ((z_dec_iff _).mpr hn), if_neg Bool.false_ne_true]
        exact (I.2.2.2.1.2.2 v hv).1
      rw [de] at db
      have vb : vB false = vI 0 := rfl
      rw [← hT, ← hU]
      unfold m_X6_graph
      rw [k_v85]
      apply q_body
      have b6 : INF = 1000000 := rfl
      simp only [b_X6_graph, r0, rf_can0, ← hT, lb, db, z_vB1, z_vB0, if_true, if_false, not_true_eq_false, not_false_eq_true, k_t_n, k_t_1, exists_eq, qS_nop, qS_seq, qS_set, qS_setJ, qS_if, qS_brk, qS_ret, qS_retV, qS_throw, qS_inc, qS_cl, qS_ast, qS_aop, qS_fst, qS_fop, qS_sw, qT_eC, qT_eCB, qT_eL, qT_eLJ, qT_eLR, qT_eLB, qT_e1, qT_e2, qT_bCmp, qT_bCmpJ, qT_bAnd, qT_bOr, qT_bNot, qT_eBI, qT_eIf, qT_eLd, qT_eLdR, qT_eLen, qT_eF, qT_eFR, qT_aN, qT_aS, qT_eCl, qT_eClR, qT_eClB, qT_some, qT_x, z_nx_N, z_nx_B, z_nx_R, z_nx_X, z_bk_N, z_bk_B, z_bk_R, z_bk_X, oAdd, oSub, oMul, oNeg, cLt, cLe, cGt, cGe, cEq, cNe, Option.some.injEq, Sum.inl.injEq, Sum.inr.injEq, Prod.mk.injEq, exists_eq_left, exists_eq_left', exists_eq_right, exists_and_left, reduceCtorEq, and_true, true_and, and_false, false_and, List.getElem?_cons_zero, List.getElem?_cons_succ, List.set_cons_zero, List.set_cons_succ, List.replicate, List.length_cons, List.length_nil, List.cons_append, List.nil_append, Nat.reduceAdd, Nat.reduceSub, decide_eq_true_eq, decide_eq_false_iff_not, Bool.true_eq_false, Bool.false_eq_true, true_implies, false_implies, implies_true, Nat.reduceLT, exists_const, z_vB_inj, and_assoc, z_in_iff, oI2L, oL2I, Int.toNat_natCast, z_toNat0, Bool.not_eq_true', Bool.not_eq_false', ne_eq, Bool.not_true, Bool.not_false, Nat.add_zero, Int.add_zero, z_sl_s]
      split
      · first | trivial | omega | (refine ⟨_, rfl, ?_⟩; simp only [b_X6_graph, r0, rf_can0, ← hT, lb, db, z_vB1, z_vB0, if_true, if_false, not_true_eq_false, not_false_eq_true, k_t_n, k_t_1, exists_eq, qS_nop, qS_seq, qS_set, qS_setJ, qS_if, qS_brk, qS_ret, qS_retV, qS_throw, qS_inc, qS_cl, qS_ast, qS_aop, qS_fst, qS_fop, qS_sw, qT_eC, qT_eCB, qT_eL, qT_eLJ, qT_eLR, qT_eLB, qT_e1, qT_e2, qT_bCmp, qT_bCmpJ, qT_bAnd, qT_bOr, qT_bNot, qT_eBI, qT_eIf, qT_eLd, qT_eLdR, qT_eLen, qT_eF, qT_eFR, qT_aN, qT_aS, qT_eCl, qT_eClR, qT_eClB, qT_some, qT_x, z_nx_N, z_nx_B, z_nx_R, z_nx_X, z_bk_N, z_bk_B, z_bk_R, z_bk_X, oAdd, oSub, oMul, oNeg, cLt, cLe, cGt, cGe, cEq, cNe, Option.some.injEq, Sum.inl.injEq, Sum.inr.injEq, Prod.mk.injEq, exists_eq_left, exists_eq_left', exists_eq_right, exists_and_left, reduceCtorEq, and_true, true_and, and_false, false_and, List.getElem?_cons_zero, List.getElem?_cons_succ, List.set_cons_zero, List.set_cons_succ, List.replicate, List.length_cons, List.length_nil, List.cons_append, List.nil_append, Nat.reduceAdd, Nat.reduceSub, decide_eq_true_eq, decide_eq_false_iff_not, Bool.true_eq_false, Bool.false_eq_true, true_implies, false_implies, implies_true, Nat.reduceLT, exists_const, z_vB_inj, and_assoc, z_in_iff, oI2L, oL2I, Int.toNat_natCast, z_toNat0, Bool.not_eq_true', Bool.not_eq_false', ne_eq, Bool.not_true, Bool.not_false, Nat.add_zero, Int.add_zero, z_sl_s]; first | done | omega | exact ⟨id, id⟩)
      · first | trivial | omega | done
    · rw [k_u_n (fun e => ha (by subst e; unfold kFree; omega)), k_t_n (fun e => ha (by subst e; unfold kFree; omega)), k_u_n (fun e => ha (by subst e; unfold kFree; omega)), Xo a (fun e => ha (by subst e; unfold kFree; omega))]
    · rw [k_u_n (by decide), k_t_103]
    · rw [k_u_n (by decide), k_t_1]
  · obtain ⟨T, x1, To⟩ := s_trees I
    refine ⟨_, T, (?_ : _ = some (.inl (some (vI (tD4 (tL (kF S 10 5))))), k_W T)), fun g => ?_⟩
    · unfold m_X5_graph
      rw [k_v0]
      apply q_body
      have b6 : INF = 1000000 := rfl
      simp only [b_X5_graph, c0, k_o0, x1, z_vB1, z_vB0, if_true, if_false, not_true_eq_false, not_false_eq_true, k_t_n, k_t_1, exists_eq, qS_nop, qS_seq, qS_set, qS_setJ, qS_if, qS_brk, qS_ret, qS_retV, qS_throw, qS_inc, qS_cl, qS_ast, qS_aop, qS_fst, qS_fop, qS_sw, qT_eC, qT_eCB, qT_eL, qT_eLJ, qT_eLR, qT_eLB, qT_e1, qT_e2, qT_bCmp, qT_bCmpJ, qT_bAnd, qT_bOr, qT_bNot, qT_eBI, qT_eIf, qT_eLd, qT_eLdR, qT_eLen, qT_eF, qT_eFR, qT_aN, qT_aS, qT_eCl, qT_eClR, qT_eClB, qT_some, qT_x, z_nx_N, z_nx_B, z_nx_R, z_nx_X, z_bk_N, z_bk_B, z_bk_R, z_bk_X, oAdd, oSub, oMul, oNeg, cLt, cLe, cGt, cGe, cEq, cNe, Option.some.injEq, Sum.inl.injEq, Sum.inr.injEq, Prod.mk.injEq, exists_eq_left, exists_eq_left', exists_eq_right, exists_and_left, reduceCtorEq, and_true, true_and, and_false, false_and, List.getElem?_cons_zero, List.getElem?_cons_succ, List.set_cons_zero, List.set_cons_succ, List.replicate, List.length_cons, List.length_nil, List.cons_append, List.nil_append, Nat.reduceAdd, Nat.reduceSub, decide_eq_true_eq, decide_eq_false_iff_not, Bool.true_eq_false, Bool.false_eq_true, true_implies, false_implies, implies_true, Nat.reduceLT, exists_const, z_vB_inj, and_assoc, z_in_iff, oI2L, oL2I, Int.toNat_natCast, z_toNat0, Bool.not_eq_true', Bool.not_eq_false', ne_eq, Bool.not_true, Bool.not_false, Nat.add_zero, Int.add_zero, z_sl_s]
      split
      · first | trivial | omega | (refine ⟨_, rfl, ?_⟩; simp only [b_X5_graph, c0, k_o0, x1, z_vB1, z_vB0, if_true, if_false, not_true_eq_false, not_false_eq_true, k_t_n, k_t_1, exists_eq, qS_nop, qS_seq, qS_set, qS_setJ, qS_if, qS_brk, qS_ret, qS_retV, qS_throw, qS_inc, qS_cl, qS_ast, qS_aop, qS_fst, qS_fop, qS_sw, qT_eC, qT_eCB, qT_eL, qT_eLJ, qT_eLR, qT_eLB, qT_e1, qT_e2, qT_bCmp, qT_bCmpJ, qT_bAnd, qT_bOr, qT_bNot, qT_eBI, qT_eIf, qT_eLd, qT_eLdR, qT_eLen, qT_eF, qT_eFR, qT_aN, qT_aS, qT_eCl, qT_eClR, qT_eClB, qT_some, qT_x, z_nx_N, z_nx_B, z_nx_R, z_nx_X, z_bk_N, z_bk_B, z_bk_R, z_bk_X, oAdd, oSub, oMul, oNeg, cLt, cLe, cGt, cGe, cEq, cNe, Option.some.injEq, Sum.inl.injEq, Sum.inr.injEq, Prod.mk.injEq, exists_eq_left, exists_eq_left', exists_eq_right, exists_and_left, reduceCtorEq, and_true, true_and, and_false, false_and, List.getElem?_cons_zero, List.getElem?_cons_succ, List.set_cons_zero, List.set_cons_succ, List.replicate, List.length_cons, List.length_nil, List.cons_append, List.nil_append, Nat.reduceAdd, Nat.reduceSub, decide_eq_true_eq, decide_eq_false_iff_not, Bool.true_eq_false, Bool.false_eq_true, true_implies, false_implies, implies_true, Nat.reduceLT, exists_const, z_vB_inj, and_assoc, z_in_iff, oI2L, oL2I, Int.toNat_natCast, z_toNat0, Bool.not_eq_true', Bool.not_eq_false', ne_eq, Bool.not_true, Bool.not_false, Nat.add_zero, Int.add_zero, z_sl_s]; first | done | omega | exact ⟨id, id⟩)
      · first | trivial | omega | done
    · have e98 : k_t (k_u T 103 g) 0 98 = S 98 := by rw [k_t_n (by decide), k_u_n (by decide), To 98 (by decide) (by decide)]
      obtain ⟨V, d, Vo⟩ := rf_trees (S := k_t (k_u T 103 g) 0) (by rw [rE_e e98]; exact I.g')
      rw [rE_e e98, tD4_cg (tL_sm I.sm.sy)] at d
      refine ⟨_, V, ?_, I.eq (fun a ha => ?_), ?_, Or.inl ⟨rfl, ?_⟩⟩
      · unfold m_X6_graph
        rw [k_v85]
        apply q_body
        have b6 : INF = 1000000 := rfl
        simp only [b_X6_graph, r0, rf_can0, d, z_vB1, z_vB0, if_true, if_false, not_true_eq_false, not_false_eq_true, k_t_n, k_t_1, exists_eq, qS_nop, qS_seq, qS_set, qS_setJ, qS_if, qS_brk, qS_ret, qS_retV, qS_throw, qS_inc, qS_cl, qS_ast, qS_aop, qS_fst, qS_fop, qS_sw, qT_eC, qT_eCB, qT_eL, qT_eLJ, qT_eLR, qT_eLB, qT_e1, qT_e2, qT_bCmp, qT_bCmpJ, qT_bAnd, qT_bOr, qT_bNot, qT_eBI, qT_eIf, qT_eLd, qT_eLdR, qT_eLen, qT_eF, qT_eFR, qT_aN, qT_aS, qT_eCl, qT_eClR, qT_eClB, qT_some, qT_x, z_nx_N, z_nx_B, z_nx_R, z_nx_X, z_bk_N, z_bk_B, z_bk_R, z_bk_X, oAdd, oSub, oMul, oNeg, cLt, cLe, cGt, cGe, cEq, cNe, Option.some.injEq, Sum.inl.injEq, Sum.inr.injEq, Prod.mk.injEq, exists_eq_left, exists_eq_left', exists_eq_right, exists_and_left, reduceCtorEq, and_true, true_and, and_false, false_and, List.getElem?_cons_zero, List.getElem?_cons_succ, List.set_cons_zero, List.set_cons_succ, List.replicate, List.length_cons, List.length_nil, List.cons_append, List.nil_append, Nat.reduceAdd, Nat.reduceSub, decide_eq_true_eq, decide_eq_false_iff_not, Bool.true_eq_false, Bool.false_eq_true, true_implies, false_implies, implies_true, Nat.reduceLT, exists_const, z_vB_inj, and_assoc, z_in_iff, oI2L, oL2I, Int.toNat_natCast, z_toNat0, Bool.not_eq_true', Bool.not_eq_false', ne_eq, Bool.not_true, Bool.not_false, Nat.add_zero, Int.add_zero, z_sl_s]
        split
        · first | trivial | omega | (refine ⟨_, rfl, ?_⟩; simp only [b_X6_graph, r0, rf_can0, d, z_vB1, z_vB0, if_true, if_false, not_true_eq_false, not_false_eq_true, k_t_n, k_t_1, exists_eq, qS_nop, qS_seq, qS_set, qS_setJ, qS_if, qS_brk, qS_ret, qS_retV, qS_throw, qS_inc, qS_cl, qS_ast, qS_aop, qS_fst, qS_fop, qS_sw, qT_eC, qT_eCB, qT_eL, qT_eLJ, qT_eLR, qT_eLB, qT_e1, qT_e2, qT_bCmp, qT_bCmpJ, qT_bAnd, qT_bOr, qT_bNot, qT_eBI, qT_eIf, qT_eLd, qT_eLdR, qT_eLen, qT_eF, qT_eFR, qT_aN, qT_aS, qT_eCl, qT_eClR, qT_eClB, qT_some, qT_x, z_nx_N, z_nx_B, z_nx_R, z_nx_X, z_bk_N, z_bk_B, z_bk_R, z_bk_X, oAdd, oSub, oMul, oNeg, cLt, cLe, cGt, cGe, cEq, cNe, Option.some.injEq, Sum.inl.injEq, Sum.inr.injEq, Prod.mk.injEq, exists_eq_left, exists_eq_left', exists_eq_right, exists_and_left, reduceCtorEq, and_true, true_and, and_false, false_and, List.getElem?_cons_zero, List.getElem?_cons_succ, List.set_cons_zero, List.set_cons_succ, List.replicate, List.length_cons, List.length_nil, List.cons_append, List.nil_append, Nat.reduceAdd, Nat.reduceSub, decide_eq_true_eq, decide_eq_false_iff_not, Bool.true_eq_false, Bool.false_eq_true, true_implies, false_implies, implies_true, Nat.reduceLT, exists_const, z_vB_inj, and_assoc, z_in_iff, oI2L, oL2I, Int.toNat_natCast, z_toNat0, Bool.not_eq_true', Bool.not_eq_false', ne_eq, Bool.not_true, Bool.not_false, Nat.add_zero, Int.add_zero, z_sl_s]; first | done | omega | exact ⟨id, id⟩)
        · first | trivial | omega | done
      · rw [Vo a (fun e => ha (by subst e; unfold kFree; omega)), k_t_n (fun e => ha (by subst e; unfold kFree; omega)), k_u_n (fun e => ha (by subst e; unfold kFree; omega)), To a (fun e => ha (by subst e; unfold kFree; omega)) (fun e => ha (by unfold kFree; omega))]
      · rw [Vo _ (by decide), k_t_103]
      · rw [Vo _ (by decide), k_t_1]
end GF
