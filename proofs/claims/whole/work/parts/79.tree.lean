/-! THE FACE: tree -/
section FTr
variable {S : Nat → Nat → Int}
def rTw (a b c : Int) : Prop := (a = b ∧ c ≤ a) ∨ (a = c ∧ b ≤ a) ∨ (b = c ∧ a ≤ b)
theorem rf_isTwice {a b c : Int} {h : z_Hp} (ha : -2147483648 ≤ a ∧ a < 2147483648) (hb : -2147483648 ≤ b ∧ b < 2147483648) (hc : -2147483648 ≤ c ∧ c < 2147483648) : m_X6_isTwice [vI a, vI b, vI c] h = some (.inl (some (vB (z_dec (rTw a b c)))), h) := by
  unfold m_X6_isTwice
  apply q_body
  have b6 : INF = 1000000 := rfl
  unfold rTw
  simp only [b_X6_isTwice, qS_nop, qS_seq, qS_set, qS_setJ, qS_if, qS_brk, qS_ret, qS_retV, qS_throw, qS_inc, qS_cl, qS_ast, qS_aop, qS_fst, qS_fop, qS_sw, qT_eC, qT_eCB, qT_eL, qT_eLJ, qT_eLR, qT_eLB, qT_e1, qT_e2, qT_bCmp, qT_bCmpJ, qT_bAnd, qT_bOr, qT_bNot, qT_eBI, qT_eIf, qT_eLd, qT_eLdR, qT_eLen, qT_eF, qT_eFR, qT_aN, qT_aS, qT_eCl, qT_eClR, qT_eClB, qT_some, qT_x, z_nx_N, z_nx_B, z_nx_R, z_nx_X, z_bk_N, z_bk_B, z_bk_R, z_bk_X, oAdd, oSub, oMul, oNeg, cLt, cLe, cGt, cGe, cEq, cNe, Option.some.injEq, Sum.inl.injEq, Sum.inr.injEq, Prod.mk.injEq, exists_eq_left, exists_eq_left', exists_eq_right, exists_and_left, reduceCtorEq, and_true, true_and, and_false, false_and, List.getElem?_cons_zero, List.getElem?_cons_succ, List.set_cons_zero, List.set_cons_succ, List.replicate, List.length_cons, List.length_nil, List.cons_append, List.nil_append, Nat.reduceAdd, Nat.reduceSub, decide_eq_true_eq, decide_eq_false_iff_not, Bool.true_eq_false, Bool.false_eq_true, true_implies, false_implies, implies_true, Nat.reduceLT, exists_const, z_vB_inj, and_assoc, z_in_iff, oI2L, oL2I, Int.toNat_natCast, z_toNat0, Bool.not_eq_true', Bool.not_eq_false', ne_eq, Bool.not_true, Bool.not_false, Nat.add_zero, Int.add_zero, z_sl_s]
  try simp only [List.cons.injEq, Sum.inl.injEq, Sum.inr.injEq, z_vB_inj, and_true, true_and, exists_eq', exists_eq_left, exists_eq_left', exists_eq_right, exists_eq_right', exists_and_left, exists_and_right, exists_const, if_true, if_false, z_vB1, z_vB0, z_vBP, z_bd, decide_eq_true_eq, decide_eq_false_iff_not, Bool.not_eq_true', Bool.false_eq_true, Bool.true_eq_false, z_dec_iff, z_dec_f, z_dec_inj, true_iff, iff_true, false_iff, iff_false, not_true_eq_false, not_false_eq_true, Classical.not_not]
  (repeat' (first | apply And.intro | intro _)) <;> first | omega | rfl | grind
/-- the reference's four -/
def rT4 (M : Nat → Nat → Int) (i j k l : Nat) : Prop := rTw (M i j + M k l) (M i k + M j l) (M i l + M j k)
theorem rT4_c (M : Nat → Nat → Int) (i j k l : Nat) : mT4 M i j k l ↔ rT4 M i j k l := by
  unfold mT4 rT4 rTw
  (repeat' split) <;> omega
section T4
variable {M : Nat → Nat → Int} {n : Nat}
theorem rT4_12 (hs : ∀ x y, x < n → y < n → M x y = M y x) {i j k l : Nat} (hi : i < n) (hj : j < n) (h : rT4 M i j k l) : rT4 M j i k l := by
  unfold rT4 rTw at h ⊢
  rw [hs j i hj hi]
  omega
theorem rT4_23 (hs : ∀ x y, x < n → y < n → M x y = M y x) {i j k l : Nat} (hj : j < n) (hk : k < n) (h : rT4 M i j k l) : rT4 M i k j l := by
  unfold rT4 rTw at h ⊢
  rw [hs k j hk hj]
  omega
theorem rT4_34 (hs : ∀ x y, x < n → y < n → M x y = M y x) {i j k l : Nat} (hk : k < n) (hl : l < n) (h : rT4 M i j k l) : rT4 M i j l k := by
  unfold rT4 rTw at h ⊢
  rw [hs l k hl hk]
  omega
theorem rT4_all (hs : ∀ x y, x < n → y < n → M x y = M y x) (h : ∀ i j k l, i ≤ j → j ≤ k → k ≤ l → l < n → rT4 M i j k l) : ∀ i j k l, i < n → j < n → k < n → l < n → rT4 M i j k l := by
  have B : ∀ i j k l, i ≤ j → j ≤ k → k < n → l < n → rT4 M i j k l := fun i j k l h1 h2 hk hl => by
    by_cases c : k ≤ l
    · exact h i j k l h1 h2 c hl
    · refine rT4_34 hs hl hk ?_
      by_cases d : j ≤ l
      · exact h i j l k h1 d (by omega) hk
      · refine rT4_23 hs hl (by omega) ?_
        by_cases e : i ≤ l
        · exact h i l j k e (by omega) h2 hk
        · exact rT4_12 hs hl (by omega) (h l i j k (by omega) h1 h2 hk)
  have C : ∀ i j k l, i ≤ j → j < n → k < n → l < n → rT4 M i j k l := fun i j k l h1 hj hk hl => by
    by_cases c : j ≤ k
    · exact B i j k l h1 c hk hl
    · refine rT4_23 hs hk hj ?_
      by_cases d : i ≤ k
      · exact B i k j l d (by omega) hj hl
      · exact rT4_12 hs hk (by omega) (B k i j l (by omega) h1 hj hl)
  intro i j k l hi hj hk hl
  by_cases c : i ≤ j
  · exact C i j k l c hj hk hl
  · exact rT4_12 hs hj hi (C j i k l (by omega) hi hk hl)
/-- the four of a code -/
def rTc (M : Nat → Nat → Int) (n c : Nat) : Prop := rT4 M (c % n) (c / n % n) (c / n / n % n) (c / n / n / n)
theorem rTc_all (hn : 1 ≤ n) : (∀ c, c < n * n * n * n → rTc M n c) ↔ ∀ i j k l, i < n → j < n → k < n → l < n → rT4 M i j k l := by
  constructor
  · intro q i j k l hi hj hk hl
    have u1 : n * l + k < n * n := Nat.lt_of_lt_of_le (show n * l + k < n * (l + 1) by rw [Nat.mul_succ]; omega) (Nat.mul_le_mul_left n (by omega))
    have u2 : n * (n * l + k) + j < n * n * n := Nat.lt_of_lt_of_le (show n * (n * l + k) + j < n * (n * l + k + 1) by rw [Nat.mul_succ n (n * l + k)]; omega) (by rw [Nat.mul_assoc]; exact Nat.mul_le_mul_left n (by omega))
    have u3 : n * (n * (n * l + k) + j) + i < n * n * n * n := Nat.lt_of_lt_of_le (show n * (n * (n * l + k) + j) + i < n * (n * (n * l + k) + j + 1) by rw [Nat.mul_succ n (n * (n * l + k) + j)]; omega) (by rw [Nat.mul_assoc (n * n) n n, Nat.mul_comm (n * n), Nat.mul_assoc n n (n * n), ← Nat.mul_assoc n n n]; exact Nat.mul_le_mul_left n (by omega))
    have w := q _ u3
    unfold rTc at w
    have d1 : (n * (n * (n * l + k) + j) + i) / n = n * (n * l + k) + j := by rw [Nat.mul_add_div (by omega), Nat.div_eq_of_lt hi, Nat.add_zero]
    have d2 : (n * (n * l + k) + j) / n = n * l + k := by rw [Nat.mul_add_div (by omega), Nat.div_eq_of_lt hj, Nat.add_zero]
    have d3 : (n * l + k) / n = l := by rw [Nat.mul_add_div (by omega), Nat.div_eq_of_lt hk, Nat.add_zero]
    rw [d1, d2, d3, Nat.mul_add_mod, Nat.mul_add_mod, Nat.mul_add_mod, Nat.mod_eq_of_lt hi, Nat.mod_eq_of_lt hj, Nat.mod_eq_of_lt hk] at w
    exact w
  · intro q c hc
    refine q _ _ _ _ (Nat.mod_lt _ (by omega)) (Nat.mod_lt _ (by omega)) (Nat.mod_lt _ (by omega)) ?_
    refine Nat.div_lt_of_lt_mul (Nat.div_lt_of_lt_mul (Nat.div_lt_of_lt_mul ?_))
    rw [← Nat.mul_assoc, ← Nat.mul_assoc]
    exact hc
theorem z_first {P : Nat → Prop} : ∀ N, ¬ (∀ c, c < N → P c) → ∃ c0, c0 < N ∧ ¬ P c0 ∧ ∀ c, c < c0 → P c
  | 0, h => absurd (fun c hc => absurd hc (Nat.not_lt_zero c)) h
  | N + 1, h => by
    by_cases q : ∀ c, c < N → P c
    · exact ⟨N, by omega, fun w => h (fun c hc => by rcases Nat.lt_succ_iff_lt_or_eq.mp hc with l | rfl; exact q c l; exact w), q⟩
    · obtain ⟨c0, a, b, c⟩ := z_first N q
      exact ⟨c0, by omega, b, c⟩
end T4
/-- distances, as the reference asks it -/
def rDs (M : Nat → Nat → Int) (n k : Nat) : Prop := M (k / n) (k % n) ≠ INF ∧ M (k / n) (k % n) = M (k % n) (k / n) ∧ (k / n ≠ k % n ∨ M (k / n) (k % n) = 0)
theorem rDs_all {M : Nat → Nat → Int} {n : Nat} (hn : 1 ≤ n) : (∀ k, k < n * n → rDs M n k) ↔ mNum M n ∧ mDs M n := by
  constructor
  · intro q
    have w : ∀ x y, x < n → y < n → M x y ≠ INF ∧ M x y = M y x ∧ (x ≠ y ∨ M x y = 0) := fun x y hx hy => by
      have w := q (n * x + y) (Nat.lt_of_lt_of_le (show n * x + y < n * (x + 1) by rw [Nat.mul_succ]; omega) (Nat.mul_le_mul_left n (by omega)))
      unfold rDs at w
      rw [Nat.mul_add_div (by omega), Nat.div_eq_of_lt hy, Nat.add_zero, Nat.mul_add_mod, Nat.mod_eq_of_lt hy] at w
      exact w
    refine ⟨fun x y hx hy => (w x y hx hy).1, fun x y hx hy => ⟨(w x y hx (by omega)).2.1, fun e => ?_⟩⟩
    have := (w x y hx (by omega)).2.2
    rcases this with v | v
    · exact absurd e v
    · exact v
  · intro ⟨q1, q2⟩ k hk
    have d1 : k / n < n := Nat.div_lt_of_lt_mul hk
    have d2 : k % n < n := Nat.mod_lt _ (by omega)
    refine ⟨q1 _ _ d1 d2, ?_, ?_⟩
    · by_cases c : k % n ≤ k / n
      · exact (q2 _ _ d1 c).1
      · exact ((q2 _ _ d2 (by omega)).1).symm
    · by_cases c : k / n = k % n
      · exact Or.inr ((q2 _ _ d1 (by omega)).2 c)
      · exact Or.inl c
theorem rf_areDistances {m n : Nat} (hm : m < 4) (hn : 1 ≤ n ∧ n ≤ 5) (h89 : S 89 m = (n : Int)) (hM : mBd (rM S m) 100000) :
    m_X6_areDistances [vR 85, vI (m : Int)] (k_W S) = some (.inl (some (vB (z_dec (∀ k, k < n * n → rDs (rM S m) n k)))), k_W S) := by
  obtain ⟨N, hN⟩ : ∃ N, N = n * n := ⟨_, rfl⟩
  have hNi : (n : Int) * (n : Int) = (N : Int) := by rw [hN]; rfl
  have hN25 : N ≤ 25 := by rw [hN]; exact Nat.mul_le_mul hn.2 hn.2
  rw [← hN]
  unfold m_X6_areDistances
  rw [k_v85]
  apply q_body
  have b6 : INF = 1000000 := rfl
  simp only [b_X6_areDistances, h89, k_v85, k_o85, k_r0, k_r1, k_r2, k_r3, k_r4, k_r5, k_r6, k_r7, k_r8, k_r9, k_r10, k_r11, k_r12, k_r13, k_r14, k_r15, k_r16, k_r17, k_r18, k_rl, k_sc, k_st, k_a86, k_s86, k_a87, k_s87, k_a88, k_s88, k_a89, k_s89, k_a90, k_s90, k_a91, k_s91, k_a92, k_s92, k_a93, k_s93, k_a94, k_s94, k_a95, k_s95, k_a96, k_s96, k_a97, k_s97, k_a98, k_s98, k_a99, k_s99, k_a100, k_s100, k_a101, k_s101, k_a102, k_s102, k_u_s, k_u_n, k_u_u, Nat.reduceEqDiff, not_false_eq_true, qS_nop, qS_seq, qS_set, qS_setJ, qS_if, qS_brk, qS_ret, qS_retV, qS_throw, qS_inc, qS_cl, qS_ast, qS_aop, qS_fst, qS_fop, qS_sw, qT_eC, qT_eCB, qT_eL, qT_eLJ, qT_eLR, qT_eLB, qT_e1, qT_e2, qT_bCmp, qT_bCmpJ, qT_bAnd, qT_bOr, qT_bNot, qT_eBI, qT_eIf, qT_eLd, qT_eLdR, qT_eLen, qT_eF, qT_eFR, qT_aN, qT_aS, qT_eCl, qT_eClR, qT_eClB, qT_some, qT_x, z_nx_N, z_nx_B, z_nx_R, z_nx_X, z_bk_N, z_bk_B, z_bk_R, z_bk_X, oAdd, oSub, oMul, oNeg, cLt, cLe, cGt, cGe, cEq, cNe, Option.some.injEq, Sum.inl.injEq, Sum.inr.injEq, Prod.mk.injEq, exists_eq_left, exists_eq_left', exists_eq_right, exists_and_left, reduceCtorEq, and_true, true_and, and_false, false_and, List.getElem?_cons_zero, List.getElem?_cons_succ, List.set_cons_zero, List.set_cons_succ, List.replicate, List.length_cons, List.length_nil, List.cons_append, List.nil_append, Nat.reduceAdd, Nat.reduceSub, decide_eq_true_eq, decide_eq_false_iff_not, Bool.true_eq_false, Bool.false_eq_true, true_implies, false_implies, implies_true, Nat.reduceLT, exists_const, z_vB_inj, and_assoc, z_in_iff, oI2L, oL2I, Int.toNat_natCast, z_toNat0, Bool.not_eq_true', Bool.not_eq_false', ne_eq, Bool.not_true, Bool.not_false, Nat.add_zero, Int.add_zero, z_sl_s]
  repeat (refine And.intro (by omega) ?_)
  refine qS_loop (fun k ρ h' => h' = k_W S ∧ ∃ e, ρ = [vR 85, vI (m : Int), vI (n : Int), vB (z_dec (∀ x, x < k → rDs (rM S m) n x)), vI (k : Int), e]) N ?_ ?_ N 0 z_fuel _ _ (by omega) (z_fuel_lt (by omega)) ⟨rfl, _, by rw [z_fa_0, z_dec_t]; rfl⟩
  · rintro k ρ h' hk ⟨rfl, e, rfl⟩
    have d1 : k / n < n := Nat.div_lt_of_lt_mul (by rw [← hN]; exact hk)
    have d2 : k % n < n := Nat.mod_lt _ (by omega)
    have e1 := rf_in (S := S) (m := m) (i := k / n) (j := k % n) hm (by omega) (by omega)
    have e1' := rf_in (S := S) (m := m) (i := k % n) (j := k / n) hm (by omega) (by omega)
    have e2 := z_dv (k := k) (m := n) (by omega) (by omega) (by omega)
    have e3 := z_rm (k := k) (m := n) (by omega) (by omega) (by omega)
    have b1 := hM (k / n) (k % n) (by omega) (by omega)
    have b2 := hM (k % n) (k / n) (by omega) (by omega)
    have dd : ((k / n : Nat) : Int) ≠ ((k % n : Nat) : Int) ↔ k / n ≠ k % n := by omega
    rw [z_fa_s]
    generalize (∀ x, x < k → rDs (rM S m) n x) = P
    unfold rDs
    generalize rM S m (k / n) (k % n) = y at *
    generalize rM S m (k % n) (k / n) = z at *
    generalize k / n = u at *
    generalize k % n = v at *
    simp only [e1, e1', e2, e3, hNi, qS_nop, qS_seq, qS_set, qS_setJ, qS_if, qS_brk, qS_ret, qS_retV, qS_throw, qS_inc, qS_cl, qS_ast, qS_aop, qS_fst, qS_fop, qS_sw, qT_eC, qT_eCB, qT_eL, qT_eLJ, qT_eLR, qT_eLB, qT_e1, qT_e2, qT_bCmp, qT_bCmpJ, qT_bAnd, qT_bOr, qT_bNot, qT_eBI, qT_eIf, qT_eLd, qT_eLdR, qT_eLen, qT_eF, qT_eFR, qT_aN, qT_aS, qT_eCl, qT_eClR, qT_eClB, qT_some, qT_x, z_nx_N, z_nx_B, z_nx_R, z_nx_X, z_bk_N, z_bk_B, z_bk_R, z_bk_X, oAdd, oSub, oMul, oNeg, cLt, cLe, cGt, cGe, cEq, cNe, Option.some.injEq, Sum.inl.injEq, Sum.inr.injEq, Prod.mk.injEq, exists_eq_left, exists_eq_left', exists_eq_right, exists_and_left, reduceCtorEq, and_true, true_and, and_false, false_and, List.getElem?_cons_zero, List.getElem?_cons_succ, List.set_cons_zero, List.set_cons_succ, List.replicate, List.length_cons, List.length_nil, List.cons_append, List.nil_append, Nat.reduceAdd, Nat.reduceSub, decide_eq_true_eq, decide_eq_false_iff_not, Bool.true_eq_false, Bool.false_eq_true, true_implies, false_implies, implies_true, Nat.reduceLT, exists_const, z_vB_inj, and_assoc, z_in_iff, oI2L, oL2I, Int.toNat_natCast, z_toNat0, Bool.not_eq_true', Bool.not_eq_false', ne_eq, Bool.not_true, Bool.not_false, Nat.add_zero, Int.add_zero, z_sl_s]
    try simp only [List.cons.injEq, Sum.inl.injEq, Sum.inr.injEq, z_vB_inj, and_true, true_and, exists_eq', exists_eq_left, exists_eq_left', exists_eq_right, exists_eq_right', exists_and_left, exists_and_right, exists_const, if_true, if_false, z_vB1, z_vB0, z_vBP, z_bd, decide_eq_true_eq, decide_eq_false_iff_not, Bool.not_eq_true', Bool.false_eq_true, Bool.true_eq_false, z_dec_iff, z_dec_f, z_dec_inj, true_iff, iff_true, false_iff, iff_false, not_true_eq_false, not_false_eq_true, Classical.not_not]
    (try clear e1 e1' e2 e3)
    (repeat' (first | apply And.intro | intro _)) <;> first | omega | rfl | grind
  · rintro ρ h' ⟨rfl, e, rfl⟩
    simp only [hNi, qS_nop, qS_seq, qS_set, qS_setJ, qS_if, qS_brk, qS_ret, qS_retV, qS_throw, qS_inc, qS_cl, qS_ast, qS_aop, qS_fst, qS_fop, qS_sw, qT_eC, qT_eCB, qT_eL, qT_eLJ, qT_eLR, qT_eLB, qT_e1, qT_e2, qT_bCmp, qT_bCmpJ, qT_bAnd, qT_bOr, qT_bNot, qT_eBI, qT_eIf, qT_eLd, qT_eLdR, qT_eLen, qT_eF, qT_eFR, qT_aN, qT_aS, qT_eCl, qT_eClR, qT_eClB, qT_some, qT_x, z_nx_N, z_nx_B, z_nx_R, z_nx_X, z_bk_N, z_bk_B, z_bk_R, z_bk_X, oAdd, oSub, oMul, oNeg, cLt, cLe, cGt, cGe, cEq, cNe, Option.some.injEq, Sum.inl.injEq, Sum.inr.injEq, Prod.mk.injEq, exists_eq_left, exists_eq_left', exists_eq_right, exists_and_left, reduceCtorEq, and_true, true_and, and_false, false_and, List.getElem?_cons_zero, List.getElem?_cons_succ, List.set_cons_zero, List.set_cons_succ, List.replicate, List.length_cons, List.length_nil, List.cons_append, List.nil_append, Nat.reduceAdd, Nat.reduceSub, decide_eq_true_eq, decide_eq_false_iff_not, Bool.true_eq_false, Bool.false_eq_true, true_implies, false_implies, implies_true, Nat.reduceLT, exists_const, z_vB_inj, and_assoc, z_in_iff, oI2L, oL2I, Int.toNat_natCast, z_toNat0, Bool.not_eq_true', Bool.not_eq_false', ne_eq, Bool.not_true, Bool.not_false, Nat.add_zero, Int.add_zero, z_sl_s]
    repeat (refine And.intro (by omega) ?_)
    first | rfl | omega
theorem rf_isTree {m n : Nat} (hm : m < 4) (hn : 1 ≤ n ∧ n ≤ 5) (h89 : S 89 m = (n : Int)) (hM : mBd (rM S m) 100000) :
    m_X6_isTree [vR 85, vI (m : Int)] (k_W S) = some (.inl (some (vB (z_dec (∀ c, c < n * n * n * n → rTc (rM S m) n c)))), k_W S) := by
  obtain ⟨N, hN⟩ : ∃ N, N = n * n * n * n := ⟨_, rfl⟩
  have hNi : (n : Int) * (n : Int) * (n : Int) * (n : Int) = (N : Int) := by rw [hN]; rfl
  have hN2 : -2147483648 ≤ (n : Int) * (n : Int) * (n : Int) ∧ (n : Int) * (n : Int) * (n : Int) < 2147483648 := by
    have : n * n * n ≤ 125 := Nat.mul_le_mul (Nat.mul_le_mul hn.2 hn.2) hn.2
    have e : (n : Int) * (n : Int) * (n : Int) = ((n * n * n : Nat) : Int) := rfl
    omega
  have hN25 : N ≤ 625 := by rw [hN]; exact Nat.mul_le_mul (Nat.mul_le_mul (Nat.mul_le_mul hn.2 hn.2) hn.2) hn.2
  have hdiv : ∀ c, c < N → c / n / n / n < n := fun c hc => by
    refine Nat.div_lt_of_lt_mul (Nat.div_lt_of_lt_mul (Nat.div_lt_of_lt_mul ?_))
    rw [← Nat.mul_assoc, ← Nat.mul_assoc, ← hN]
    exact hc
  rw [← hN]
  obtain ⟨P, hP⟩ : ∃ P, P = rTc (rM S m) n := ⟨_, rfl⟩
  rw [← hP]
  have step : ∀ (N0 : Nat) (k : Nat) (a b c d : z_V) (Q : z_Oc → z_Hp → Prop), k < N → (∀ x, x < k → P x) → (∀ a b c d, Q (oN [vR 85, vI (m : Int), vI (n : Int), vB (z_dec (∀ x, x < k + 1 → P x)), vI ((k : Int)), a, b, c, d]) (k_W S)) → qS (sSeq (sSet vI 5 (e2 oRem (eL 4) (eL 2)))
    (sSeq (sSet vI 6 (e2 oRem (e2 oDiv (eL 4) (eL 2)) (eL 2)))
    (sSeq (sSet vI 7 (e2 oRem (e2 oDiv (e2 oDiv (eL 4) (eL 2)) (eL 2)) (eL 2)))
    (sSeq (sSet vI 8 (e2 oDiv (e2 oDiv (e2 oDiv (eL 4) (eL 2)) (eL 2)) (eL 2)))
    (sSet vB 3 (eClB (m_X6_isTwice) (aS vI (aS vI (aS vI (aN) (e2 oAdd (eCl (m_X6_in) (aS vI (aS vI (aS vI (aS vR (aN) (eLR 0)) (eL 1)) (eL 5)) (eL 6))) (eCl (m_X6_in) (aS vI (aS vI (aS vI (aS vR (aN) (eLR 0)) (eL 1)) (eL 7)) (eL 8))))) (e2 oAdd (eCl (m_X6_in) (aS vI (aS vI (aS vI (aS vR (aN) (eLR 0)) (eL 1)) (eL 5)) (eL 7))) (eCl (m_X6_in) (aS vI (aS vI (aS vI (aS vR (aN) (eLR 0)) (eL 1)) (eL 6)) (eL 8))))) (e2 oAdd (eCl (m_X6_in) (aS vI (aS vI (aS vI (aS vR (aN) (eLR 0)) (eL 1)) (eL 5)) (eL 8))) (eCl (m_X6_in) (aS vI (aS vI (aS vI (aS vR (aN) (eLR 0)) (eL 1)) (eL 6)) (eL 7))))))))))) [vR 85, vI (m : Int), vI (n : Int), vB true, vI (k : Int), a, b, c, d] (k_W S) Q := by
    intro N0 k a b c d Q hk hA hQ
    have d4 := hdiv k hk
    have m1 : k % n < n := Nat.mod_lt _ (by omega)
    have m2 : k / n % n < n := Nat.mod_lt _ (by omega)
    have m3 : k / n / n % n < n := Nat.mod_lt _ (by omega)
    have l1 : k / n ≤ k := Nat.div_le_self _ _
    have l2 : k / n / n ≤ k / n := Nat.div_le_self _ _
    have g1 := z_rm (k := k) (m := n) (by omega) (by omega) (by omega)
    have g2 := z_dv (k := k) (m := n) (by omega) (by omega) (by omega)
    have g3 := z_rm (k := k / n) (m := n) (by omega) (by omega) (by omega)
    have g4 := z_dv (k := k / n) (m := n) (by omega) (by omega) (by omega)
    have g5 := z_rm (k := k / n / n) (m := n) (by omega) (by omega) (by omega)
    have g6 := z_dv (k := k / n / n) (m := n) (by omega) (by omega) (by omega)
    have lastP : z_dec (∀ x, x < k + 1 → P x) = z_dec (P k) := z_dec_c _ _ ⟨fun q => q k (by omega), fun q x hx => by rcases Nat.lt_succ_iff_lt_or_eq.mp hx with l | rfl; exact hA x l; exact q⟩
    rw [lastP, hP] at hQ
    unfold rTc at hQ
    generalize k % n = i at *
    generalize k / n % n = j at *
    generalize k / n / n % n = x at *
    generalize k / n / n / n = y at *
    have i1 := rf_in (S := S) (m := m) (i := i) (j := j) hm (by omega) (by omega)
    have i2 := rf_in (S := S) (m := m) (i := x) (j := y) hm (by omega) (by omega)
    have i3 := rf_in (S := S) (m := m) (i := i) (j := x) hm (by omega) (by omega)
    have i4 := rf_in (S := S) (m := m) (i := j) (j := y) hm (by omega) (by omega)
    have i5 := rf_in (S := S) (m := m) (i := i) (j := y) hm (by omega) (by omega)
    have i6 := rf_in (S := S) (m := m) (i := j) (j := x) hm (by omega) (by omega)
    have b1 := hM i j (by omega) (by omega)
    have b2 := hM x y (by omega) (by omega)
    have b3 := hM i x (by omega) (by omega)
    have b4 := hM j y (by omega) (by omega)
    have b5 := hM i y (by omega) (by omega)
    have b6' := hM j x (by omega) (by omega)
    have tw := rf_isTwice (h := k_W S) (a := rM S m i j + rM S m x y) (b := rM S m i x + rM S m j y) (c := rM S m i y + rM S m j x) ⟨by omega, by omega⟩ ⟨by omega, by omega⟩ ⟨by omega, by omega⟩
    unfold rT4 at hQ
    generalize z_dec (rTw (rM S m i j + rM S m x y) (rM S m i x + rM S m j y) (rM S m i y + rM S m j x)) = bb at tw hQ
    simp only [g1, g2, g3, g4, g5, g6, i1, i2, i3, i4, i5, i6, tw, qS_nop, qS_seq, qS_set, qS_setJ, qS_if, qS_brk, qS_ret, qS_retV, qS_throw, qS_inc, qS_cl, qS_ast, qS_aop, qS_fst, qS_fop, qS_sw, qT_eC, qT_eCB, qT_eL, qT_eLJ, qT_eLR, qT_eLB, qT_e1, qT_e2, qT_bCmp, qT_bCmpJ, qT_bAnd, qT_bOr, qT_bNot, qT_eBI, qT_eIf, qT_eLd, qT_eLdR, qT_eLen, qT_eF, qT_eFR, qT_aN, qT_aS, qT_eCl, qT_eClR, qT_eClB, qT_some, qT_x, z_nx_N, z_nx_B, z_nx_R, z_nx_X, z_bk_N, z_bk_B, z_bk_R, z_bk_X, oAdd, oSub, oMul, oNeg, cLt, cLe, cGt, cGe, cEq, cNe, Option.some.injEq, Sum.inl.injEq, Sum.inr.injEq, Prod.mk.injEq, exists_eq_left, exists_eq_left', exists_eq_right, exists_and_left, reduceCtorEq, and_true, true_and, and_false, false_and, List.getElem?_cons_zero, List.getElem?_cons_succ, List.set_cons_zero, List.set_cons_succ, List.replicate, List.length_cons, List.length_nil, List.cons_append, List.nil_append, Nat.reduceAdd, Nat.reduceSub, decide_eq_true_eq, decide_eq_false_iff_not, Bool.true_eq_false, Bool.false_eq_true, true_implies, false_implies, implies_true, Nat.reduceLT, exists_const, z_vB_inj, and_assoc, z_in_iff, oI2L, oL2I, Int.toNat_natCast, z_toNat0, Bool.not_eq_true', Bool.not_eq_false', ne_eq, Bool.not_true, Bool.not_false, Nat.add_zero, Int.add_zero, z_sl_s]
    exact hQ _ _ _ _
  obtain ⟨bd, hbd⟩ : ∃ bd, bd = (sSeq (sSet vI 5 (e2 oRem (eL 4) (eL 2)))
    (sSeq (sSet vI 6 (e2 oRem (e2 oDiv (eL 4) (eL 2)) (eL 2)))
    (sSeq (sSet vI 7 (e2 oRem (e2 oDiv (e2 oDiv (eL 4) (eL 2)) (eL 2)) (eL 2)))
    (sSeq (sSet vI 8 (e2 oDiv (e2 oDiv (e2 oDiv (eL 4) (eL 2)) (eL 2)) (eL 2)))
    (sSet vB 3 (eClB (m_X6_isTwice) (aS vI (aS vI (aS vI (aN) (e2 oAdd (eCl (m_X6_in) (aS vI (aS vI (aS vI (aS vR (aN) (eLR 0)) (eL 1)) (eL 5)) (eL 6))) (eCl (m_X6_in) (aS vI (aS vI (aS vI (aS vR (aN) (eLR 0)) (eL 1)) (eL 7)) (eL 8))))) (e2 oAdd (eCl (m_X6_in) (aS vI (aS vI (aS vI (aS vR (aN) (eLR 0)) (eL 1)) (eL 5)) (eL 7))) (eCl (m_X6_in) (aS vI (aS vI (aS vI (aS vR (aN) (eLR 0)) (eL 1)) (eL 6)) (eL 8))))) (e2 oAdd (eCl (m_X6_in) (aS vI (aS vI (aS vI (aS vR (aN) (eLR 0)) (eL 1)) (eL 5)) (eL 8))) (eCl (m_X6_in) (aS vI (aS vI (aS vI (aS vR (aN) (eLR 0)) (eL 1)) (eL 6)) (eL 7))))))))))) := ⟨_, rfl⟩
  rw [← hbd] at step
  unfold m_X6_isTree
  rw [k_v85]
  apply q_body
  have b6 : INF = 1000000 := rfl
  by_cases hA : ∀ c, c < N → P c
  · rw [(z_dec_iff _).mpr hA]
    simp only [b_X6_isTree, ← hbd, h89, k_v85, k_o85, k_r0, k_r1, k_r2, k_r3, k_r4, k_r5, k_r6, k_r7, k_r8, k_r9, k_r10, k_r11, k_r12, k_r13, k_r14, k_r15, k_r16, k_r17, k_r18, k_rl, k_sc, k_st, k_a86, k_s86, k_a87, k_s87, k_a88, k_s88, k_a89, k_s89, k_a90, k_s90, k_a91, k_s91, k_a92, k_s92, k_a93, k_s93, k_a94, k_s94, k_a95, k_s95, k_a96, k_s96, k_a97, k_s97, k_a98, k_s98, k_a99, k_s99, k_a100, k_s100, k_a101, k_s101, k_a102, k_s102, k_u_s, k_u_n, k_u_u, Nat.reduceEqDiff, not_false_eq_true, qS_nop, qS_seq, qS_set, qS_setJ, qS_if, qS_brk, qS_ret, qS_retV, qS_throw, qS_inc, qS_cl, qS_ast, qS_aop, qS_fst, qS_fop, qS_sw, qT_eC, qT_eCB, qT_eL, qT_eLJ, qT_eLR, qT_eLB, qT_e1, qT_e2, qT_bCmp, qT_bCmpJ, qT_bAnd, qT_bOr, qT_bNot, qT_eBI, qT_eIf, qT_eLd, qT_eLdR, qT_eLen, qT_eF, qT_eFR, qT_aN, qT_aS, qT_eCl, qT_eClR, qT_eClB, qT_some, qT_x, z_nx_N, z_nx_B, z_nx_R, z_nx_X, z_bk_N, z_bk_B, z_bk_R, z_bk_X, oAdd, oSub, oMul, oNeg, cLt, cLe, cGt, cGe, cEq, cNe, Option.some.injEq, Sum.inl.injEq, Sum.inr.injEq, Prod.mk.injEq, exists_eq_left, exists_eq_left', exists_eq_right, exists_and_left, reduceCtorEq, and_true, true_and, and_false, false_and, List.getElem?_cons_zero, List.getElem?_cons_succ, List.set_cons_zero, List.set_cons_succ, List.replicate, List.length_cons, List.length_nil, List.cons_append, List.nil_append, Nat.reduceAdd, Nat.reduceSub, decide_eq_true_eq, decide_eq_false_iff_not, Bool.true_eq_false, Bool.false_eq_true, true_implies, false_implies, implies_true, Nat.reduceLT, exists_const, z_vB_inj, and_assoc, z_in_iff, oI2L, oL2I, Int.toNat_natCast, z_toNat0, Bool.not_eq_true', Bool.not_eq_false', ne_eq, Bool.not_true, Bool.not_false, Nat.add_zero, Int.add_zero, z_sl_s]
    repeat (refine And.intro (by omega) ?_)
    refine qS_loop (fun k ρ h' => h' = k_W S ∧ ∃ a b c d, ρ = [vR 85, vI (m : Int), vI (n : Int), vB true, vI (k : Int), a, b, c, d]) N ?_ ?_ N 0 z_fuel _ _ (by omega) (z_fuel_lt (by omega)) ⟨rfl, _, _, _, _, rfl⟩
    · rintro k ρ h' hk ⟨rfl, a, b, c, d, rfl⟩
      have kN : (k : Int) < (N : Int) := by omega
      have kA : z_dec (∀ x, x < k + 1 → P x) = true := (z_dec_iff _).mpr (fun x hx => hA x (by omega))
      simp only [hNi, kN, z_vB1, z_vB0, if_true, if_false, not_true_eq_false, not_false_eq_true, k_t_n, k_t_1, exists_eq, qS_nop, qS_seq, qS_set, qS_setJ, qS_if, qS_brk, qS_ret, qS_retV, qS_throw, qS_inc, qS_cl, qS_ast, qS_aop, qS_fst, qS_fop, qS_sw, qT_eC, qT_eCB, qT_eL, qT_eLJ, qT_eLR, qT_eLB, qT_e1, qT_e2, qT_bCmp, qT_bCmpJ, qT_bAnd, qT_bOr, qT_bNot, qT_eBI, qT_eIf, qT_eLd, qT_eLdR, qT_eLen, qT_eF, qT_eFR, qT_aN, qT_aS, qT_eCl, qT_eClR, qT_eClB, qT_some, qT_x, z_nx_N, z_nx_B, z_nx_R, z_nx_X, z_bk_N, z_bk_B, z_bk_R, z_bk_X, oAdd, oSub, oMul, oNeg, cLt, cLe, cGt, cGe, cEq, cNe, Option.some.injEq, Sum.inl.injEq, Sum.inr.injEq, Prod.mk.injEq, exists_eq_left, exists_eq_left', exists_eq_right, exists_and_left, reduceCtorEq, and_true, true_and, and_false, false_and, List.getElem?_cons_zero, List.getElem?_cons_succ, List.set_cons_zero, List.set_cons_succ, List.replicate, List.length_cons, List.length_nil, List.cons_append, List.nil_append, Nat.reduceAdd, Nat.reduceSub, decide_eq_true_eq, decide_eq_false_iff_not, Bool.true_eq_false, Bool.false_eq_true, true_implies, false_implies, implies_true, Nat.reduceLT, exists_const, z_vB_inj, and_assoc, z_in_iff, oI2L, oL2I, Int.toNat_natCast, z_toNat0, Bool.not_eq_true', Bool.not_eq_false', ne_eq, Bool.not_true, Bool.not_false, Nat.add_zero, Int.add_zero, z_sl_s]
      repeat (refine And.intro (by omega) ?_)
      refine step 0 k a b c d _ hk (fun x hx => hA x (by omega)) (fun a b c d => ?_)
      simp only [kA, z_vB1, z_vB0, if_true, if_false, not_true_eq_false, not_false_eq_true, k_t_n, k_t_1, exists_eq, qS_nop, qS_seq, qS_set, qS_setJ, qS_if, qS_brk, qS_ret, qS_retV, qS_throw, qS_inc, qS_cl, qS_ast, qS_aop, qS_fst, qS_fop, qS_sw, qT_eC, qT_eCB, qT_eL, qT_eLJ, qT_eLR, qT_eLB, qT_e1, qT_e2, qT_bCmp, qT_bCmpJ, qT_bAnd, qT_bOr, qT_bNot, qT_eBI, qT_eIf, qT_eLd, qT_eLdR, qT_eLen, qT_eF, qT_eFR, qT_aN, qT_aS, qT_eCl, qT_eClR, qT_eClB, qT_some, qT_x, z_nx_N, z_nx_B, z_nx_R, z_nx_X, z_bk_N, z_bk_B, z_bk_R, z_bk_X, oAdd, oSub, oMul, oNeg, cLt, cLe, cGt, cGe, cEq, cNe, Option.some.injEq, Sum.inl.injEq, Sum.inr.injEq, Prod.mk.injEq, exists_eq_left, exists_eq_left', exists_eq_right, exists_and_left, reduceCtorEq, and_true, true_and, and_false, false_and, List.getElem?_cons_zero, List.getElem?_cons_succ, List.set_cons_zero, List.set_cons_succ, List.replicate, List.length_cons, List.length_nil, List.cons_append, List.nil_append, Nat.reduceAdd, Nat.reduceSub, decide_eq_true_eq, decide_eq_false_iff_not, Bool.true_eq_false, Bool.false_eq_true, true_implies, false_implies, implies_true, Nat.reduceLT, exists_const, z_vB_inj, and_assoc, z_in_iff, oI2L, oL2I, Int.toNat_natCast, z_toNat0, Bool.not_eq_true', Bool.not_eq_false', ne_eq, Bool.not_true, Bool.not_false, Nat.add_zero, Int.add_zero, z_sl_s]
      exact ⟨_, _, _, _, rfl⟩
    · rintro ρ h' ⟨rfl, a, b, c, d, rfl⟩
      simp only [hNi, z_vB1, z_vB0, if_true, if_false, not_true_eq_false, not_false_eq_true, k_t_n, k_t_1, exists_eq, qS_nop, qS_seq, qS_set, qS_setJ, qS_if, qS_brk, qS_ret, qS_retV, qS_throw, qS_inc, qS_cl, qS_ast, qS_aop, qS_fst, qS_fop, qS_sw, qT_eC, qT_eCB, qT_eL, qT_eLJ, qT_eLR, qT_eLB, qT_e1, qT_e2, qT_bCmp, qT_bCmpJ, qT_bAnd, qT_bOr, qT_bNot, qT_eBI, qT_eIf, qT_eLd, qT_eLdR, qT_eLen, qT_eF, qT_eFR, qT_aN, qT_aS, qT_eCl, qT_eClR, qT_eClB, qT_some, qT_x, z_nx_N, z_nx_B, z_nx_R, z_nx_X, z_bk_N, z_bk_B, z_bk_R, z_bk_X, oAdd, oSub, oMul, oNeg, cLt, cLe, cGt, cGe, cEq, cNe, Option.some.injEq, Sum.inl.injEq, Sum.inr.injEq, Prod.mk.injEq, exists_eq_left, exists_eq_left', exists_eq_right, exists_and_left, reduceCtorEq, and_true, true_and, and_false, false_and, List.getElem?_cons_zero, List.getElem?_cons_succ, List.set_cons_zero, List.set_cons_succ, List.replicate, List.length_cons, List.length_nil, List.cons_append, List.nil_append, Nat.reduceAdd, Nat.reduceSub, decide_eq_true_eq, decide_eq_false_iff_not, Bool.true_eq_false, Bool.false_eq_true, true_implies, false_implies, implies_true, Nat.reduceLT, exists_const, z_vB_inj, and_assoc, z_in_iff, oI2L, oL2I, Int.toNat_natCast, z_toNat0, Bool.not_eq_true', Bool.not_eq_false', ne_eq, Bool.not_true, Bool.not_false, Nat.add_zero, Int.add_zero, z_sl_s]
      repeat (refine And.intro (by omega) ?_)
      omega
  · obtain ⟨c0, f1, f2, f3⟩ := z_first N hA
    rw [(z_dec_f _).mpr hA]
    simp only [b_X6_isTree, ← hbd, h89, k_v85, k_o85, k_r0, k_r1, k_r2, k_r3, k_r4, k_r5, k_r6, k_r7, k_r8, k_r9, k_r10, k_r11, k_r12, k_r13, k_r14, k_r15, k_r16, k_r17, k_r18, k_rl, k_sc, k_st, k_a86, k_s86, k_a87, k_s87, k_a88, k_s88, k_a89, k_s89, k_a90, k_s90, k_a91, k_s91, k_a92, k_s92, k_a93, k_s93, k_a94, k_s94, k_a95, k_s95, k_a96, k_s96, k_a97, k_s97, k_a98, k_s98, k_a99, k_s99, k_a100, k_s100, k_a101, k_s101, k_a102, k_s102, k_u_s, k_u_n, k_u_u, Nat.reduceEqDiff, not_false_eq_true, qS_nop, qS_seq, qS_set, qS_setJ, qS_if, qS_brk, qS_ret, qS_retV, qS_throw, qS_inc, qS_cl, qS_ast, qS_aop, qS_fst, qS_fop, qS_sw, qT_eC, qT_eCB, qT_eL, qT_eLJ, qT_eLR, qT_eLB, qT_e1, qT_e2, qT_bCmp, qT_bCmpJ, qT_bAnd, qT_bOr, qT_bNot, qT_eBI, qT_eIf, qT_eLd, qT_eLdR, qT_eLen, qT_eF, qT_eFR, qT_aN, qT_aS, qT_eCl, qT_eClR, qT_eClB, qT_some, qT_x, z_nx_N, z_nx_B, z_nx_R, z_nx_X, z_bk_N, z_bk_B, z_bk_R, z_bk_X, oAdd, oSub, oMul, oNeg, cLt, cLe, cGt, cGe, cEq, cNe, Option.some.injEq, Sum.inl.injEq, Sum.inr.injEq, Prod.mk.injEq, exists_eq_left, exists_eq_left', exists_eq_right, exists_and_left, reduceCtorEq, and_true, true_and, and_false, false_and, List.getElem?_cons_zero, List.getElem?_cons_succ, List.set_cons_zero, List.set_cons_succ, List.replicate, List.length_cons, List.length_nil, List.cons_append, List.nil_append, Nat.reduceAdd, Nat.reduceSub, decide_eq_true_eq, decide_eq_false_iff_not, Bool.true_eq_false, Bool.false_eq_true, true_implies, false_implies, implies_true, Nat.reduceLT, exists_const, z_vB_inj, and_assoc, z_in_iff, oI2L, oL2I, Int.toNat_natCast, z_toNat0, Bool.not_eq_true', Bool.not_eq_false', ne_eq, Bool.not_true, Bool.not_false, Nat.add_zero, Int.add_zero, z_sl_s]
    repeat (refine And.intro (by omega) ?_)
    refine qS_loop (fun k ρ h' => h' = k_W S ∧ ∃ a b c d, ρ = [vR 85, vI (m : Int), vI (n : Int), vB (z_dec (∀ x, x < k → P x)), vI (k : Int), a, b, c, d]) (c0 + 1) ?_ ?_ (c0 + 1) 0 z_fuel _ _ (by omega) (z_fuel_lt (by omega)) ⟨rfl, _, _, _, _, by rw [z_fa_0, z_dec_t]; rfl⟩
    · rintro k ρ h' hk ⟨rfl, a, b, c, d, rfl⟩
      have kN : (k : Int) < (N : Int) := by omega
      rw [(z_dec_iff (∀ x, x < k → P x)).mpr (fun x hx => f3 x (by omega))]
      simp only [hNi, kN, z_vB1, z_vB0, if_true, if_false, not_true_eq_false, not_false_eq_true, k_t_n, k_t_1, exists_eq, qS_nop, qS_seq, qS_set, qS_setJ, qS_if, qS_brk, qS_ret, qS_retV, qS_throw, qS_inc, qS_cl, qS_ast, qS_aop, qS_fst, qS_fop, qS_sw, qT_eC, qT_eCB, qT_eL, qT_eLJ, qT_eLR, qT_eLB, qT_e1, qT_e2, qT_bCmp, qT_bCmpJ, qT_bAnd, qT_bOr, qT_bNot, qT_eBI, qT_eIf, qT_eLd, qT_eLdR, qT_eLen, qT_eF, qT_eFR, qT_aN, qT_aS, qT_eCl, qT_eClR, qT_eClB, qT_some, qT_x, z_nx_N, z_nx_B, z_nx_R, z_nx_X, z_bk_N, z_bk_B, z_bk_R, z_bk_X, oAdd, oSub, oMul, oNeg, cLt, cLe, cGt, cGe, cEq, cNe, Option.some.injEq, Sum.inl.injEq, Sum.inr.injEq, Prod.mk.injEq, exists_eq_left, exists_eq_left', exists_eq_right, exists_and_left, reduceCtorEq, and_true, true_and, and_false, false_and, List.getElem?_cons_zero, List.getElem?_cons_succ, List.set_cons_zero, List.set_cons_succ, List.replicate, List.length_cons, List.length_nil, List.cons_append, List.nil_append, Nat.reduceAdd, Nat.reduceSub, decide_eq_true_eq, decide_eq_false_iff_not, Bool.true_eq_false, Bool.false_eq_true, true_implies, false_implies, implies_true, Nat.reduceLT, exists_const, z_vB_inj, and_assoc, z_in_iff, oI2L, oL2I, Int.toNat_natCast, z_toNat0, Bool.not_eq_true', Bool.not_eq_false', ne_eq, Bool.not_true, Bool.not_false, Nat.add_zero, Int.add_zero, z_sl_s]
      repeat (refine And.intro (by omega) ?_)
      refine step 0 k a b c d _ (by omega) (fun x hx => f3 x (by omega)) (fun a b c d => ?_)
      simp only [z_vB1, z_vB0, if_true, if_false, not_true_eq_false, not_false_eq_true, k_t_n, k_t_1, exists_eq, qS_nop, qS_seq, qS_set, qS_setJ, qS_if, qS_brk, qS_ret, qS_retV, qS_throw, qS_inc, qS_cl, qS_ast, qS_aop, qS_fst, qS_fop, qS_sw, qT_eC, qT_eCB, qT_eL, qT_eLJ, qT_eLR, qT_eLB, qT_e1, qT_e2, qT_bCmp, qT_bCmpJ, qT_bAnd, qT_bOr, qT_bNot, qT_eBI, qT_eIf, qT_eLd, qT_eLdR, qT_eLen, qT_eF, qT_eFR, qT_aN, qT_aS, qT_eCl, qT_eClR, qT_eClB, qT_some, qT_x, z_nx_N, z_nx_B, z_nx_R, z_nx_X, z_bk_N, z_bk_B, z_bk_R, z_bk_X, oAdd, oSub, oMul, oNeg, cLt, cLe, cGt, cGe, cEq, cNe, Option.some.injEq, Sum.inl.injEq, Sum.inr.injEq, Prod.mk.injEq, exists_eq_left, exists_eq_left', exists_eq_right, exists_and_left, reduceCtorEq, and_true, true_and, and_false, false_and, List.getElem?_cons_zero, List.getElem?_cons_succ, List.set_cons_zero, List.set_cons_succ, List.replicate, List.length_cons, List.length_nil, List.cons_append, List.nil_append, Nat.reduceAdd, Nat.reduceSub, decide_eq_true_eq, decide_eq_false_iff_not, Bool.true_eq_false, Bool.false_eq_true, true_implies, false_implies, implies_true, Nat.reduceLT, exists_const, z_vB_inj, and_assoc, z_in_iff, oI2L, oL2I, Int.toNat_natCast, z_toNat0, Bool.not_eq_true', Bool.not_eq_false', ne_eq, Bool.not_true, Bool.not_false, Nat.add_zero, Int.add_zero, z_sl_s]
      exact ⟨_, _, _, _, rfl⟩
    · rintro ρ h' ⟨rfl, a, b, c, d, rfl⟩
      rw [(z_dec_f _).mpr (fun q => f2 (q c0 (by omega)))]
      simp only [hNi, z_vB1, z_vB0, if_true, if_false, not_true_eq_false, not_false_eq_true, k_t_n, k_t_1, exists_eq, qS_nop, qS_seq, qS_set, qS_setJ, qS_if, qS_brk, qS_ret, qS_retV, qS_throw, qS_inc, qS_cl, qS_ast, qS_aop, qS_fst, qS_fop, qS_sw, qT_eC, qT_eCB, qT_eL, qT_eLJ, qT_eLR, qT_eLB, qT_e1, qT_e2, qT_bCmp, qT_bCmpJ, qT_bAnd, qT_bOr, qT_bNot, qT_eBI, qT_eIf, qT_eLd, qT_eLdR, qT_eLen, qT_eF, qT_eFR, qT_aN, qT_aS, qT_eCl, qT_eClR, qT_eClB, qT_some, qT_x, z_nx_N, z_nx_B, z_nx_R, z_nx_X, z_bk_N, z_bk_B, z_bk_R, z_bk_X, oAdd, oSub, oMul, oNeg, cLt, cLe, cGt, cGe, cEq, cNe, Option.some.injEq, Sum.inl.injEq, Sum.inr.injEq, Prod.mk.injEq, exists_eq_left, exists_eq_left', exists_eq_right, exists_and_left, reduceCtorEq, and_true, true_and, and_false, false_and, List.getElem?_cons_zero, List.getElem?_cons_succ, List.set_cons_zero, List.set_cons_succ, List.replicate, List.length_cons, List.length_nil, List.cons_append, List.nil_append, Nat.reduceAdd, Nat.reduceSub, decide_eq_true_eq, decide_eq_false_iff_not, Bool.true_eq_false, Bool.false_eq_true, true_implies, false_implies, implies_true, Nat.reduceLT, exists_const, z_vB_inj, and_assoc, z_in_iff, oI2L, oL2I, Int.toNat_natCast, z_toNat0, Bool.not_eq_true', Bool.not_eq_false', ne_eq, Bool.not_true, Bool.not_false, Nat.add_zero, Int.add_zero, z_sl_s]
      omega
end FTr
