/-! THE FACE: product -/
section FP
variable {S : Nat → Nat → Int}
/-- what lies at m when so many pairs are through -/
def rMk (f g : Nat → Int) : Nat → Nat → Int
  | 0 => fun _ => INF
  | n + 1 => fun m => if m = n / 9 + n % 9 then (if z_plus (f (n / 9)) (g (n % 9)) < rMk f g n m then z_plus (f (n / 9)) (g (n % 9)) else rMk f g n m) else rMk f g n m
theorem rMk_le (f g : Nat → Int) (n m : Nat) : rMk f g n m ≤ INF := by
  induction n with
  | zero => exact Int.le_refl _
  | succ n ih =>
    unfold rMk
    split
    · split <;> omega
    · exact ih
theorem rMk_lb (f g : Nat → Int) (n m : Nat) : ∀ a b, b < 9 → 9 * a + b < n → a + b = m → rMk f g n m ≤ z_plus (f a) (g b) := by
  induction n with
  | zero => intro a b _ h _; omega
  | succ n ih =>
    intro a b hb h hm
    unfold rMk
    by_cases c : 9 * a + b = n
    · have e1 : n / 9 = a := by omega
      have e2 : n % 9 = b := by omega
      rw [e1, e2, if_pos hm.symm]
      split <;> omega
    · have w := ih a b hb (by omega) hm
      split
      · split <;> omega
      · exact w
theorem rMk_at (f g : Nat → Int) (n m : Nat) : rMk f g n m = INF ∨ ∃ a b, b < 9 ∧ 9 * a + b < n ∧ a + b = m ∧ rMk f g n m = z_plus (f a) (g b) := by
  induction n with
  | zero => exact Or.inl rfl
  | succ n ih =>
    have old : rMk f g n m = INF ∨ ∃ a b, b < 9 ∧ 9 * a + b < n + 1 ∧ a + b = m ∧ rMk f g n m = z_plus (f a) (g b) := by
      rcases ih with h | ⟨a, b, h1, h2, h3, h4⟩
      · exact Or.inl h
      · exact Or.inr ⟨a, b, h1, by omega, h3, h4⟩
    unfold rMk
    split
    · next hm =>
      split
      · exact Or.inr ⟨n / 9, n % 9, by omega, by omega, hm.symm, rfl⟩
      · exact old
    · exact old
theorem z_mn_lb (g : Nat → Int) (n : Nat) : ∀ k, k < n → z_mn g n ≤ g k := by
  induction n with
  | zero => intro k h; omega
  | succ n ih =>
    intro k h
    unfold z_mn
    by_cases c : k = n
    · subst c
      split <;> omega
    · have w := ih k (by omega)
      split <;> omega
theorem z_mn_at (g : Nat → Int) (n : Nat) : z_mn g n = INF ∨ ∃ k, k < n ∧ z_mn g n = g k := by
  induction n with
  | zero => exact Or.inl rfl
  | succ n ih =>
    unfold z_mn
    split
    · exact Or.inr ⟨n, by omega, rfl⟩
    · rcases ih with h | ⟨k, h1, h2⟩
      · exact Or.inl h
      · exact Or.inr ⟨k, by omega, h2⟩
theorem rMk_mul (f g : Nat → Int) {m : Nat} (hm : m < 9) : rMk f g 81 m = pMul f g m := by
  have h1 : rMk f g 81 m ≤ pMul f g m := by
    rcases z_mn_at (fun i => z_plus (f i) (g (m - i))) (m + 1) with h | ⟨k, hk, h⟩
    · unfold pMul
      rw [h]
      exact rMk_le f g 81 m
    · unfold pMul
      rw [h]
      exact rMk_lb f g 81 m k (m - k) (by omega) (by omega) (by omega)
  have h2 : pMul f g m ≤ rMk f g 81 m := by
    rcases rMk_at f g 81 m with h | ⟨a, b, hb, hn, hab, h⟩
    · rw [h]
      exact z_mn_le _ _
    · rw [h]
      have w := z_mn_lb (fun i => z_plus (f i) (g (m - i))) (m + 1) a (by omega)
      have e : m - a = b := by omega
      unfold pMul
      rwa [e] at w
  omega
theorem z_plus_inf {x y : Int} (hx : x = INF ∨ (-9999 ≤ x ∧ x ≤ 9999)) (hy : y = INF ∨ (-9999 ≤ y ∧ y ≤ 9999)) : z_plus x y ≤ INF ∧ -20000 < z_plus x y ∧ (z_plus x y = INF ↔ ¬ (x ≠ INF ∧ y ≠ INF)) := by
  have b6 : INF = 1000000 := rfl
  unfold z_plus
  split <;> omega
theorem rMk_b {f g : Nat → Int} (hf : pOk f) (hg : pOk g) (n m : Nat) (hn : n ≤ 81) : -20000 < rMk f g n m := by
  have b6 : INF = 1000000 := rfl
  rcases rMk_at f g n m with h | ⟨a, b, h1, h2, h3, h4⟩
  · omega
  · rw [h4]
    exact (z_plus_inf (hf a (by omega)) (hg b h1)).2.1
/-- all beyond 8 are missing just when the class finds that both fit -/
theorem rMk_fits {f g : Nat → Int} (hf : pOk f) (hg : pOk g) : (∀ m, 9 ≤ m → m < 17 → rMk f g 81 m = INF) ↔ pFits f g 9 := by
  have b6 : INF = 1000000 := rfl
  constructor
  · intro h i j hi hi9 hj hij
    have w := h (i + j) hij (by omega)
    have l := rMk_lb f g 81 (i + j) i j hj (by omega) rfl
    have z := z_plus_inf (hf i hi) (hg j hj)
    exact z.2.2.mp (by omega)
  · intro h m h1 h2
    rcases rMk_at f g 81 m with w | ⟨a, b, hb, hn, hab, w⟩
    · exact w
    · rw [w]
      exact (z_plus_inf (hf a (by omega)) (hg b hb)).2.2.mpr (h a b (by omega) (by omega) hb (by omega))
def rMf (x : Int) (k : Nat) : Prop := if k < 9 then ¬ (x ≠ INF ∧ (x < -9999 ∨ 9999 < x)) else x = INF
theorem rMk_all {f g : Nat → Int} (hf : pOk f) (hg : pOk g) : (∀ k, k < 17 → rMf (rMk f g 81 k) k) ↔ pFits f g 9 ∧ pOk (pMul f g) := by
  rw [← rMk_fits hf hg]
  constructor
  · intro h
    refine ⟨fun m h1 h2 => ?_, fun k hk => ?_⟩
    · have w := h m h2
      unfold rMf at w
      rwa [if_neg (by omega)] at w
    · have w := h k (by omega)
      unfold rMf at w
      rw [if_pos hk, rMk_mul f g hk] at w
      omega
  · intro h k hk
    unfold rMf
    split
    · next hk9 =>
      have w := h.2 k hk9
      rw [rMk_mul f g hk9]
      omega
    · exact h.1 k (by omega) hk
theorem rMk_up {f g G : Nat → Int} {k : Nat} (hk : k < 81) : z_up (z_to 17 (rMk f g k) G) (k / 9 + k % 9) (if z_plus (f (k / 9)) (g (k % 9)) < rMk f g k (k / 9 + k % 9) then z_plus (f (k / 9)) (g (k % 9)) else rMk f g k (k / 9 + k % 9)) = z_to 17 (rMk f g (k + 1)) G := by
  funext x
  unfold z_up z_to
  by_cases c : x = k / 9 + k % 9
  · rw [if_pos c, if_pos (show x < 17 by omega)]
    conv => rhs; unfold rMk
    rw [if_pos c, c]
  · rw [if_neg c]
    by_cases d : x < 17
    · rw [if_pos d, if_pos d]
      conv => rhs; unfold rMk
      rw [if_neg c]
    · rw [if_neg d, if_neg d]
theorem rf_multiplies {p q : Nat} (hp : p < 4) (hq : q < 4) (hf : pOk (rP S p)) (hg : pOk (rP S q)) : m_X6_multiplies [vR 85, vI (p : Int), vI (q : Int)] (k_W S) = some (.inl (some (vB (z_dec (∀ k, k < 17 → rMf (rMk (rP S p) (rP S q) 81 k) k)))), k_W (k_u S 88 (z_to 17 (rMk (rP S p) (rP S q) 81) (S 88)))) := by
  unfold m_X6_multiplies
  rw [k_v85]
  apply q_body
  have b6 : INF = 1000000 := rfl
  simp only [b_X6_multiplies, qS_nop, qS_seq, qS_set, qS_setJ, qS_if, qS_brk, qS_ret, qS_retV, qS_throw, qS_inc, qS_cl, qS_ast, qS_aop, qS_fst, qS_fop, qS_sw, qT_eC, qT_eCB, qT_eL, qT_eLJ, qT_eLR, qT_eLB, qT_e1, qT_e2, qT_bCmp, qT_bCmpJ, qT_bAnd, qT_bOr, qT_bNot, qT_eBI, qT_eIf, qT_eLd, qT_eLdR, qT_eLen, qT_eF, qT_eFR, qT_aN, qT_aS, qT_eCl, qT_eClR, qT_eClB, qT_some, qT_x, z_nx_N, z_nx_B, z_nx_R, z_nx_X, z_bk_N, z_bk_B, z_bk_R, z_bk_X, oAdd, oSub, oMul, oNeg, cLt, cLe, cGt, cGe, cEq, cNe, Option.some.injEq, Sum.inl.injEq, Sum.inr.injEq, Prod.mk.injEq, exists_eq_left, exists_eq_left', exists_eq_right, exists_and_left, reduceCtorEq, and_true, true_and, and_false, false_and, List.getElem?_cons_zero, List.getElem?_cons_succ, List.set_cons_zero, List.set_cons_succ, List.replicate, List.length_cons, List.length_nil, List.cons_append, List.nil_append, Nat.reduceAdd, Nat.reduceSub, decide_eq_true_eq, decide_eq_false_iff_not, Bool.true_eq_false, Bool.false_eq_true, true_implies, false_implies, implies_true, Nat.reduceLT, exists_const, z_vB_inj, and_assoc, z_in_iff, oI2L, oL2I, Int.toNat_natCast, z_toNat0, Bool.not_eq_true', Bool.not_eq_false', ne_eq, Bool.not_true, Bool.not_false, Nat.add_zero, Int.add_zero, z_sl_s]
  refine qS_loop (fun k ρ h' => h' = k_W (k_u S 88 (z_to k (fun _ => INF) (S 88))) ∧ ∃ x, ρ = [vR 85, vI (p : Int), vI (q : Int), vI (k : Int), x]) 17 ?_ ?_ 17 0 z_fuel _ _ (by omega) (z_fuel_lt (by omega)) ⟨by rw [z_to_0, k_u_id], _, rfl⟩
  · rintro k ρ h' hk ⟨rfl, x, rfl⟩
    have z := z_to_s k (fun _ => INF) (S 88)
    simp only [k_v85, k_o85, k_r0, k_r1, k_r2, k_r3, k_r4, k_r5, k_r6, k_r7, k_r8, k_r9, k_r10, k_r11, k_r12, k_r13, k_r14, k_r15, k_r16, k_r17, k_r18, k_rl, k_sc, k_st, k_a86, k_s86, k_a87, k_s87, k_a88, k_s88, k_a89, k_s89, k_a90, k_s90, k_a91, k_s91, k_a92, k_s92, k_a93, k_s93, k_a94, k_s94, k_a95, k_s95, k_a96, k_s96, k_a97, k_s97, k_a98, k_s98, k_a99, k_s99, k_a100, k_s100, k_a101, k_s101, k_a102, k_s102, k_u_s, k_u_n, k_u_u, Nat.reduceEqDiff, not_false_eq_true, qS_nop, qS_seq, qS_set, qS_setJ, qS_if, qS_brk, qS_ret, qS_retV, qS_throw, qS_inc, qS_cl, qS_ast, qS_aop, qS_fst, qS_fop, qS_sw, qT_eC, qT_eCB, qT_eL, qT_eLJ, qT_eLR, qT_eLB, qT_e1, qT_e2, qT_bCmp, qT_bCmpJ, qT_bAnd, qT_bOr, qT_bNot, qT_eBI, qT_eIf, qT_eLd, qT_eLdR, qT_eLen, qT_eF, qT_eFR, qT_aN, qT_aS, qT_eCl, qT_eClR, qT_eClB, qT_some, qT_x, z_nx_N, z_nx_B, z_nx_R, z_nx_X, z_bk_N, z_bk_B, z_bk_R, z_bk_X, oAdd, oSub, oMul, oNeg, cLt, cLe, cGt, cGe, cEq, cNe, Option.some.injEq, Sum.inl.injEq, Sum.inr.injEq, Prod.mk.injEq, exists_eq_left, exists_eq_left', exists_eq_right, exists_and_left, reduceCtorEq, and_true, true_and, and_false, false_and, List.getElem?_cons_zero, List.getElem?_cons_succ, List.set_cons_zero, List.set_cons_succ, List.replicate, List.length_cons, List.length_nil, List.cons_append, List.nil_append, Nat.reduceAdd, Nat.reduceSub, decide_eq_true_eq, decide_eq_false_iff_not, Bool.true_eq_false, Bool.false_eq_true, true_implies, false_implies, implies_true, Nat.reduceLT, exists_const, z_vB_inj, and_assoc, z_in_iff, oI2L, oL2I, Int.toNat_natCast, z_toNat0, Bool.not_eq_true', Bool.not_eq_false', ne_eq, Bool.not_true, Bool.not_false, Nat.add_zero, Int.add_zero, z_sl_s]
    repeat (refine And.intro (by omega) ?_)
    rw [← z]
    (repeat' (first | apply And.intro | intro _)) <;> first | omega | rfl | grind
  · rintro ρ h' ⟨rfl, x, rfl⟩
    simp only [qS_nop, qS_seq, qS_set, qS_setJ, qS_if, qS_brk, qS_ret, qS_retV, qS_throw, qS_inc, qS_cl, qS_ast, qS_aop, qS_fst, qS_fop, qS_sw, qT_eC, qT_eCB, qT_eL, qT_eLJ, qT_eLR, qT_eLB, qT_e1, qT_e2, qT_bCmp, qT_bCmpJ, qT_bAnd, qT_bOr, qT_bNot, qT_eBI, qT_eIf, qT_eLd, qT_eLdR, qT_eLen, qT_eF, qT_eFR, qT_aN, qT_aS, qT_eCl, qT_eClR, qT_eClB, qT_some, qT_x, z_nx_N, z_nx_B, z_nx_R, z_nx_X, z_bk_N, z_bk_B, z_bk_R, z_bk_X, oAdd, oSub, oMul, oNeg, cLt, cLe, cGt, cGe, cEq, cNe, Option.some.injEq, Sum.inl.injEq, Sum.inr.injEq, Prod.mk.injEq, exists_eq_left, exists_eq_left', exists_eq_right, exists_and_left, reduceCtorEq, and_true, true_and, and_false, false_and, List.getElem?_cons_zero, List.getElem?_cons_succ, List.set_cons_zero, List.set_cons_succ, List.replicate, List.length_cons, List.length_nil, List.cons_append, List.nil_append, Nat.reduceAdd, Nat.reduceSub, decide_eq_true_eq, decide_eq_false_iff_not, Bool.true_eq_false, Bool.false_eq_true, true_implies, false_implies, implies_true, Nat.reduceLT, exists_const, z_vB_inj, and_assoc, z_in_iff, oI2L, oL2I, Int.toNat_natCast, z_toNat0, Bool.not_eq_true', Bool.not_eq_false', ne_eq, Bool.not_true, Bool.not_false, Nat.add_zero, Int.add_zero, z_sl_s]
    repeat (refine And.intro (by omega) ?_)
    refine qS_loop (fun k ρ h' => h' = k_W (k_u S 88 (z_to 17 (rMk (rP S p) (rP S q) k) (S 88))) ∧ ∃ x, ρ = [vR 85, vI (p : Int), vI (q : Int), vI (k : Int), x]) 81 ?_ ?_ 81 0 z_fuel _ _ (by omega) (z_fuel_lt (by omega)) ⟨rfl, _, rfl⟩
    · rintro k ρ h' hk ⟨rfl, x, rfl⟩
      have d1 : oDiv (k : Int) 9 = some ((k / 9 : Nat) : Int) := z_dv (m := 9) (by decide) (by omega) (by decide)
      have d2 : oRem (k : Int) 9 = some ((k % 9 : Nat) : Int) := z_rm (m := 9) (by decide) (by omega) (by decide)
      have h9 : k / 9 < 9 := by omega
      have h8 : k % 9 < 9 := by omega
      have o1 := rf_of (S := k_u S 88 (z_to 17 (rMk (rP S p) (rP S q) k) (S 88))) hp h9
      have o2 := rf_of (S := k_u S 88 (z_to 17 (rMk (rP S p) (rP S q) k) (S 88))) hq h8
      rw [rP_u (by decide)] at o1 o2
      have b1 := hf _ h9
      have b2 := hg _ h8
      have b3 := z_plus_inf b1 b2
      have b4 := rMk_b hf hg k (k / 9 + k % 9) (by omega)
      have b5 := rMk_le (rP S p) (rP S q) k (k / 9 + k % 9)
      have e1 := rf_plus (h := k_W (k_u S 88 (z_to 17 (rMk (rP S p) (rP S q) k) (S 88)))) (x := rP S p (k / 9)) (y := rP S q (k % 9)) ⟨by omega, by omega⟩ ⟨by omega, by omega⟩
      have e2 := rf_lesser (h := k_W (k_u S 88 (z_to 17 (rMk (rP S p) (rP S q) k) (S 88)))) (x := rMk (rP S p) (rP S q) k (k / 9 + k % 9)) (y := z_plus (rP S p (k / 9)) (rP S q (k % 9))) ⟨by omega, by omega⟩ ⟨by omega, by omega⟩
      have t : (((k / 9 : Nat) : Int) + ((k % 9 : Nat) : Int)).toNat = k / 9 + k % 9 := by omega
      have z17 : z_to 17 (rMk (rP S p) (rP S q) k) (S 88) (k / 9 + k % 9) = rMk (rP S p) (rP S q) k (k / 9 + k % 9) := z_to_lt (by omega)
      have u := rMk_up (f := rP S p) (g := rP S q) (G := S 88) hk
      simp only [d1, d2, t, o1, o2, e1, e2, z17, u, k_v85, k_o85, k_r0, k_r1, k_r2, k_r3, k_r4, k_r5, k_r6, k_r7, k_r8, k_r9, k_r10, k_r11, k_r12, k_r13, k_r14, k_r15, k_r16, k_r17, k_r18, k_rl, k_sc, k_st, k_a86, k_s86, k_a87, k_s87, k_a88, k_s88, k_a89, k_s89, k_a90, k_s90, k_a91, k_s91, k_a92, k_s92, k_a93, k_s93, k_a94, k_s94, k_a95, k_s95, k_a96, k_s96, k_a97, k_s97, k_a98, k_s98, k_a99, k_s99, k_a100, k_s100, k_a101, k_s101, k_a102, k_s102, k_u_s, k_u_n, k_u_u, Nat.reduceEqDiff, not_false_eq_true, qS_nop, qS_seq, qS_set, qS_setJ, qS_if, qS_brk, qS_ret, qS_retV, qS_throw, qS_inc, qS_cl, qS_ast, qS_aop, qS_fst, qS_fop, qS_sw, qT_eC, qT_eCB, qT_eL, qT_eLJ, qT_eLR, qT_eLB, qT_e1, qT_e2, qT_bCmp, qT_bCmpJ, qT_bAnd, qT_bOr, qT_bNot, qT_eBI, qT_eIf, qT_eLd, qT_eLdR, qT_eLen, qT_eF, qT_eFR, qT_aN, qT_aS, qT_eCl, qT_eClR, qT_eClB, qT_some, qT_x, z_nx_N, z_nx_B, z_nx_R, z_nx_X, z_bk_N, z_bk_B, z_bk_R, z_bk_X, oAdd, oSub, oMul, oNeg, cLt, cLe, cGt, cGe, cEq, cNe, Option.some.injEq, Sum.inl.injEq, Sum.inr.injEq, Prod.mk.injEq, exists_eq_left, exists_eq_left', exists_eq_right, exists_and_left, reduceCtorEq, and_true, true_and, and_false, false_and, List.getElem?_cons_zero, List.getElem?_cons_succ, List.set_cons_zero, List.set_cons_succ, List.replicate, List.length_cons, List.length_nil, List.cons_append, List.nil_append, Nat.reduceAdd, Nat.reduceSub, decide_eq_true_eq, decide_eq_false_iff_not, Bool.true_eq_false, Bool.false_eq_true, true_implies, false_implies, implies_true, Nat.reduceLT, exists_const, z_vB_inj, and_assoc, z_in_iff, oI2L, oL2I, Int.toNat_natCast, z_toNat0, Bool.not_eq_true', Bool.not_eq_false', ne_eq, Bool.not_true, Bool.not_false, Nat.add_zero, Int.add_zero, z_sl_s]
      repeat (refine And.intro (by omega) ?_)
      (repeat' (first | apply And.intro | intro _)) <;> first | omega | rfl | grind
    · rintro ρ h' ⟨rfl, x, rfl⟩
      simp only [qS_nop, qS_seq, qS_set, qS_setJ, qS_if, qS_brk, qS_ret, qS_retV, qS_throw, qS_inc, qS_cl, qS_ast, qS_aop, qS_fst, qS_fop, qS_sw, qT_eC, qT_eCB, qT_eL, qT_eLJ, qT_eLR, qT_eLB, qT_e1, qT_e2, qT_bCmp, qT_bCmpJ, qT_bAnd, qT_bOr, qT_bNot, qT_eBI, qT_eIf, qT_eLd, qT_eLdR, qT_eLen, qT_eF, qT_eFR, qT_aN, qT_aS, qT_eCl, qT_eClR, qT_eClB, qT_some, qT_x, z_nx_N, z_nx_B, z_nx_R, z_nx_X, z_bk_N, z_bk_B, z_bk_R, z_bk_X, oAdd, oSub, oMul, oNeg, cLt, cLe, cGt, cGe, cEq, cNe, Option.some.injEq, Sum.inl.injEq, Sum.inr.injEq, Prod.mk.injEq, exists_eq_left, exists_eq_left', exists_eq_right, exists_and_left, reduceCtorEq, and_true, true_and, and_false, false_and, List.getElem?_cons_zero, List.getElem?_cons_succ, List.set_cons_zero, List.set_cons_succ, List.replicate, List.length_cons, List.length_nil, List.cons_append, List.nil_append, Nat.reduceAdd, Nat.reduceSub, decide_eq_true_eq, decide_eq_false_iff_not, Bool.true_eq_false, Bool.false_eq_true, true_implies, false_implies, implies_true, Nat.reduceLT, exists_const, z_vB_inj, and_assoc, z_in_iff, oI2L, oL2I, Int.toNat_natCast, z_toNat0, Bool.not_eq_true', Bool.not_eq_false', ne_eq, Bool.not_true, Bool.not_false, Nat.add_zero, Int.add_zero, z_sl_s]
      repeat (refine And.intro (by omega) ?_)
      refine qS_for (fun m => [vR 85, vI (p : Int), vI (q : Int), vB (z_dec (∀ k, k < m → rMf (rMk (rP S p) (rP S q) 81 k) k)), vI (m : Int)]) (fun _ => k_W (k_u S 88 (z_to 17 (rMk (rP S p) (rP S q) 81) (S 88)))) (fun _ => True) 17 ?_ rfl trivial (by decide) ?_ ?_
      · rw [show z_dec (∀ k, k < 0 → rMf (rMk (rP S p) (rP S q) 81 k) k) = true from (z_dec_iff _).mpr (fun k hk => absurd hk (Nat.not_lt_zero k))]
        rfl
      · intro m hm _
        have z17 : z_to 17 (rMk (rP S p) (rP S q) 81) (S 88) m = rMk (rP S p) (rP S q) 81 m := z_to_lt hm
        have b4 := rMk_b hf hg 81 m (by omega)
        have b5 := rMk_le (rP S p) (rP S q) 81 m
        have e := rf_isFar (h := k_W (k_u S 88 (z_to 17 (rMk (rP S p) (rP S q) 81) (S 88)))) (n := rMk (rP S p) (rP S q) 81 m) (l := 9999) ⟨by omega, by omega⟩ ⟨by decide, by decide⟩
        have w : (∀ k, k < m + 1 → rMf (rMk (rP S p) (rP S q) 81 k) k) ↔ (∀ k, k < m → rMf (rMk (rP S p) (rP S q) 81 k) k) ∧ rMf (rMk (rP S p) (rP S q) 81 m) m :=
          ⟨fun q => ⟨fun k hk => q k (by omega), q m (by omega)⟩, fun q k hk => by rcases Nat.lt_succ_iff_lt_or_eq.mp hk with h | rfl; exact q.1 k h; exact q.2⟩
        have v : rMf (rMk (rP S p) (rP S q) 81 m) m = if m < 9 then ¬ (rMk (rP S p) (rP S q) 81 m ≠ INF ∧ (rMk (rP S p) (rP S q) 81 m < -9999 ∨ 9999 < rMk (rP S p) (rP S q) 81 m)) else rMk (rP S p) (rP S q) 81 m = INF := rfl
        rw [w, v]
        generalize (∀ k, k < m → rMf (rMk (rP S p) (rP S q) 81 k) k) = P
        simp only [e, z17, k_v85, k_o85, k_r0, k_r1, k_r2, k_r3, k_r4, k_r5, k_r6, k_r7, k_r8, k_r9, k_r10, k_r11, k_r12, k_r13, k_r14, k_r15, k_r16, k_r17, k_r18, k_rl, k_sc, k_st, k_a86, k_s86, k_a87, k_s87, k_a88, k_s88, k_a89, k_s89, k_a90, k_s90, k_a91, k_s91, k_a92, k_s92, k_a93, k_s93, k_a94, k_s94, k_a95, k_s95, k_a96, k_s96, k_a97, k_s97, k_a98, k_s98, k_a99, k_s99, k_a100, k_s100, k_a101, k_s101, k_a102, k_s102, k_u_s, k_u_n, k_u_u, Nat.reduceEqDiff, not_false_eq_true, qS_nop, qS_seq, qS_set, qS_setJ, qS_if, qS_brk, qS_ret, qS_retV, qS_throw, qS_inc, qS_cl, qS_ast, qS_aop, qS_fst, qS_fop, qS_sw, qT_eC, qT_eCB, qT_eL, qT_eLJ, qT_eLR, qT_eLB, qT_e1, qT_e2, qT_bCmp, qT_bCmpJ, qT_bAnd, qT_bOr, qT_bNot, qT_eBI, qT_eIf, qT_eLd, qT_eLdR, qT_eLen, qT_eF, qT_eFR, qT_aN, qT_aS, qT_eCl, qT_eClR, qT_eClB, qT_some, qT_x, z_nx_N, z_nx_B, z_nx_R, z_nx_X, z_bk_N, z_bk_B, z_bk_R, z_bk_X, oAdd, oSub, oMul, oNeg, cLt, cLe, cGt, cGe, cEq, cNe, Option.some.injEq, Sum.inl.injEq, Sum.inr.injEq, Prod.mk.injEq, exists_eq_left, exists_eq_left', exists_eq_right, exists_and_left, reduceCtorEq, and_true, true_and, and_false, false_and, List.getElem?_cons_zero, List.getElem?_cons_succ, List.set_cons_zero, List.set_cons_succ, List.replicate, List.length_cons, List.length_nil, List.cons_append, List.nil_append, Nat.reduceAdd, Nat.reduceSub, decide_eq_true_eq, decide_eq_false_iff_not, Bool.true_eq_false, Bool.false_eq_true, true_implies, false_implies, implies_true, Nat.reduceLT, exists_const, z_vB_inj, and_assoc, z_in_iff, oI2L, oL2I, Int.toNat_natCast, z_toNat0, Bool.not_eq_true', Bool.not_eq_false', ne_eq, Bool.not_true, Bool.not_false, Nat.add_zero, Int.add_zero, z_sl_s]
        generalize rMk (rP S p) (rP S q) 81 m = A at *
        try simp only [List.cons.injEq, Sum.inl.injEq, Sum.inr.injEq, z_vB_inj, and_true, true_and, exists_eq', exists_eq_left, exists_eq_left', exists_eq_right, exists_eq_right', exists_and_left, exists_and_right, exists_const, if_true, if_false, z_vB1, z_vB0, z_vBP, z_bd, decide_eq_true_eq, decide_eq_false_iff_not, Bool.not_eq_true', Bool.false_eq_true, Bool.true_eq_false, z_dec_iff, z_dec_f, z_dec_inj, true_iff, iff_true, false_iff, iff_false, not_true_eq_false, not_false_eq_true, Classical.not_not]
        (try clear e w v z17)
        by_cases m9 : m < 9
        · simp only [if_pos m9]
          (repeat' (first | apply And.intro | intro _)) <;> first | omega | rfl | grind
        · simp only [if_neg m9]
          (repeat' (first | apply And.intro | intro _)) <;> first | omega | rfl | grind
      · intro _
        simp only [qS_nop, qS_seq, qS_set, qS_setJ, qS_if, qS_brk, qS_ret, qS_retV, qS_throw, qS_inc, qS_cl, qS_ast, qS_aop, qS_fst, qS_fop, qS_sw, qT_eC, qT_eCB, qT_eL, qT_eLJ, qT_eLR, qT_eLB, qT_e1, qT_e2, qT_bCmp, qT_bCmpJ, qT_bAnd, qT_bOr, qT_bNot, qT_eBI, qT_eIf, qT_eLd, qT_eLdR, qT_eLen, qT_eF, qT_eFR, qT_aN, qT_aS, qT_eCl, qT_eClR, qT_eClB, qT_some, qT_x, z_nx_N, z_nx_B, z_nx_R, z_nx_X, z_bk_N, z_bk_B, z_bk_R, z_bk_X, oAdd, oSub, oMul, oNeg, cLt, cLe, cGt, cGe, cEq, cNe, Option.some.injEq, Sum.inl.injEq, Sum.inr.injEq, Prod.mk.injEq, exists_eq_left, exists_eq_left', exists_eq_right, exists_and_left, reduceCtorEq, and_true, true_and, and_false, false_and, List.getElem?_cons_zero, List.getElem?_cons_succ, List.set_cons_zero, List.set_cons_succ, List.replicate, List.length_cons, List.length_nil, List.cons_append, List.nil_append, Nat.reduceAdd, Nat.reduceSub, decide_eq_true_eq, decide_eq_false_iff_not, Bool.true_eq_false, Bool.false_eq_true, true_implies, false_implies, implies_true, Nat.reduceLT, exists_const, z_vB_inj, and_assoc, z_in_iff, oI2L, oL2I, Int.toNat_natCast, z_toNat0, Bool.not_eq_true', Bool.not_eq_false', ne_eq, Bool.not_true, Bool.not_false, Nat.add_zero, Int.add_zero, z_sl_s]
        omega
theorem op_product (I : kInv S) {p : Int} {k : Int} {t : Int} (hp : kR p) (hk : kR k) (ht : kR t) : kOp m_X5_product m_X6_product kIO kIS [vI p, vI k, vI t] S := by
  have b6 : INF = 1000000 := rfl
  by_cases q0 : 0 ≤ p ∧ p ≤ 3
  rotate_left
  · have c0 := s_nH0 hp q0
    have r0 := rf_one0 hp q0
    refine kOp.x1 (r := vI 0) (S1 := S) (S2 := fun g => k_t (k_u S 103 g) 1) ?_ (fun g => ?_) (fun g => I.t g 1) (fun g => k_t_103) (fun g => k_t_1)
    · unfold m_X5_product
      rw [k_v0]
      apply q_body
      have b6 : INF = 1000000 := rfl
      simp only [b_X5_product, c0, qS_nop, qS_seq, qS_set, qS_setJ, qS_if, qS_brk, qS_ret, qS_retV, qS_throw, qS_inc, qS_cl, qS_ast, qS_aop, qS_fst, qS_fop, qS_sw, qT_eC, qT_eCB, qT_eL, qT_eLJ, qT_eLR, qT_eLB, qT_e1, qT_e2, qT_bCmp, qT_bCmpJ, qT_bAnd, qT_bOr, qT_bNot, qT_eBI, qT_eIf, qT_eLd, qT_eLdR, qT_eLen, qT_eF, qT_eFR, qT_aN, qT_aS, qT_eCl, qT_eClR, qT_eClB, qT_some, qT_x, z_nx_N, z_nx_B, z_nx_R, z_nx_X, z_bk_N, z_bk_B, z_bk_R, z_bk_X, oAdd, oSub, oMul, oNeg, cLt, cLe, cGt, cGe, cEq, cNe, Option.some.injEq, Sum.inl.injEq, Sum.inr.injEq, Prod.mk.injEq, exists_eq_left, exists_eq_left', exists_eq_right, exists_and_left, reduceCtorEq, and_true, true_and, and_false, false_and, List.getElem?_cons_zero, List.getElem?_cons_succ, List.set_cons_zero, List.set_cons_succ, List.replicate, List.length_cons, List.length_nil, List.cons_append, List.nil_append, Nat.reduceAdd, Nat.reduceSub, decide_eq_true_eq, decide_eq_false_iff_not, Bool.true_eq_false, Bool.false_eq_true, true_implies, false_implies, implies_true, Nat.reduceLT, exists_const, z_vB_inj, and_assoc, z_in_iff, oI2L, oL2I, Int.toNat_natCast, z_toNat0, Bool.not_eq_true', Bool.not_eq_false', ne_eq, Bool.not_true, Bool.not_false, Nat.add_zero, Int.add_zero, z_sl_s]
    · unfold m_X6_product
      rw [k_v85]
      apply q_body
      have b6 : INF = 1000000 := rfl
      simp only [b_X6_product, r0, rf_can1, z_vB1, z_vB0, if_true, if_false, not_true_eq_false, not_false_eq_true, k_t_n, k_t_1, exists_eq, k_v85, k_o85, k_r0, k_r1, k_r2, k_r3, k_r4, k_r5, k_r6, k_r7, k_r8, k_r9, k_r10, k_r11, k_r12, k_r13, k_r14, k_r15, k_r16, k_r17, k_r18, k_rl, k_sc, k_st, k_a86, k_s86, k_a87, k_s87, k_a88, k_s88, k_a89, k_s89, k_a90, k_s90, k_a91, k_s91, k_a92, k_s92, k_a93, k_s93, k_a94, k_s94, k_a95, k_s95, k_a96, k_s96, k_a97, k_s97, k_a98, k_s98, k_a99, k_s99, k_a100, k_s100, k_a101, k_s101, k_a102, k_s102, k_u_s, k_u_n, k_u_u, Nat.reduceEqDiff, not_false_eq_true, qS_nop, qS_seq, qS_set, qS_setJ, qS_if, qS_brk, qS_ret, qS_retV, qS_throw, qS_inc, qS_cl, qS_ast, qS_aop, qS_fst, qS_fop, qS_sw, qT_eC, qT_eCB, qT_eL, qT_eLJ, qT_eLR, qT_eLB, qT_e1, qT_e2, qT_bCmp, qT_bCmpJ, qT_bAnd, qT_bOr, qT_bNot, qT_eBI, qT_eIf, qT_eLd, qT_eLdR, qT_eLen, qT_eF, qT_eFR, qT_aN, qT_aS, qT_eCl, qT_eClR, qT_eClB, qT_some, qT_x, z_nx_N, z_nx_B, z_nx_R, z_nx_X, z_bk_N, z_bk_B, z_bk_R, z_bk_X, oAdd, oSub, oMul, oNeg, cLt, cLe, cGt, cGe, cEq, cNe, Option.some.injEq, Sum.inl.injEq, Sum.inr.injEq, Prod.mk.injEq, exists_eq_left, exists_eq_left', exists_eq_right, exists_and_left, reduceCtorEq, and_true, true_and, and_false, false_and, List.getElem?_cons_zero, List.getElem?_cons_succ, List.set_cons_zero, List.set_cons_succ, List.replicate, List.length_cons, List.length_nil, List.cons_append, List.nil_append, Nat.reduceAdd, Nat.reduceSub, decide_eq_true_eq, decide_eq_false_iff_not, Bool.true_eq_false, Bool.false_eq_true, true_implies, false_implies, implies_true, Nat.reduceLT, exists_const, z_vB_inj, and_assoc, z_in_iff, oI2L, oL2I, Int.toNat_natCast, z_toNat0, Bool.not_eq_true', Bool.not_eq_false', ne_eq, Bool.not_true, Bool.not_false, Nat.add_zero, Int.add_zero, z_sl_s]
  by_cases q1 : 0 ≤ k ∧ k ≤ 3
  rotate_left
  · have c0 := s_nH1 (i := p) q0
    have r0 := rf_one1 (i := p) q0
    have c1 := s_nH0 hk q1
    have r1 := rf_one0 hk q1
    refine kOp.x1 (r := vI 0) (S1 := S) (S2 := fun g => k_t (k_u S 103 g) 1) ?_ (fun g => ?_) (fun g => I.t g 1) (fun g => k_t_103) (fun g => k_t_1)
    · unfold m_X5_product
      rw [k_v0]
      apply q_body
      have b6 : INF = 1000000 := rfl
      simp only [b_X5_product, c0, c1, qS_nop, qS_seq, qS_set, qS_setJ, qS_if, qS_brk, qS_ret, qS_retV, qS_throw, qS_inc, qS_cl, qS_ast, qS_aop, qS_fst, qS_fop, qS_sw, qT_eC, qT_eCB, qT_eL, qT_eLJ, qT_eLR, qT_eLB, qT_e1, qT_e2, qT_bCmp, qT_bCmpJ, qT_bAnd, qT_bOr, qT_bNot, qT_eBI, qT_eIf, qT_eLd, qT_eLdR, qT_eLen, qT_eF, qT_eFR, qT_aN, qT_aS, qT_eCl, qT_eClR, qT_eClB, qT_some, qT_x, z_nx_N, z_nx_B, z_nx_R, z_nx_X, z_bk_N, z_bk_B, z_bk_R, z_bk_X, oAdd, oSub, oMul, oNeg, cLt, cLe, cGt, cGe, cEq, cNe, Option.some.injEq, Sum.inl.injEq, Sum.inr.injEq, Prod.mk.injEq, exists_eq_left, exists_eq_left', exists_eq_right, exists_and_left, reduceCtorEq, and_true, true_and, and_false, false_and, List.getElem?_cons_zero, List.getElem?_cons_succ, List.set_cons_zero, List.set_cons_succ, List.replicate, List.length_cons, List.length_nil, List.cons_append, List.nil_append, Nat.reduceAdd, Nat.reduceSub, decide_eq_true_eq, decide_eq_false_iff_not, Bool.true_eq_false, Bool.false_eq_true, true_implies, false_implies, implies_true, Nat.reduceLT, exists_const, z_vB_inj, and_assoc, z_in_iff, oI2L, oL2I, Int.toNat_natCast, z_toNat0, Bool.not_eq_true', Bool.not_eq_false', ne_eq, Bool.not_true, Bool.not_false, Nat.add_zero, Int.add_zero, z_sl_s]
    · unfold m_X6_product
      rw [k_v85]
      apply q_body
      have b6 : INF = 1000000 := rfl
      simp only [b_X6_product, r0, r1, rf_can1, z_vB1, z_vB0, if_true, if_false, not_true_eq_false, not_false_eq_true, k_t_n, k_t_1, exists_eq, k_v85, k_o85, k_r0, k_r1, k_r2, k_r3, k_r4, k_r5, k_r6, k_r7, k_r8, k_r9, k_r10, k_r11, k_r12, k_r13, k_r14, k_r15, k_r16, k_r17, k_r18, k_rl, k_sc, k_st, k_a86, k_s86, k_a87, k_s87, k_a88, k_s88, k_a89, k_s89, k_a90, k_s90, k_a91, k_s91, k_a92, k_s92, k_a93, k_s93, k_a94, k_s94, k_a95, k_s95, k_a96, k_s96, k_a97, k_s97, k_a98, k_s98, k_a99, k_s99, k_a100, k_s100, k_a101, k_s101, k_a102, k_s102, k_u_s, k_u_n, k_u_u, Nat.reduceEqDiff, not_false_eq_true, qS_nop, qS_seq, qS_set, qS_setJ, qS_if, qS_brk, qS_ret, qS_retV, qS_throw, qS_inc, qS_cl, qS_ast, qS_aop, qS_fst, qS_fop, qS_sw, qT_eC, qT_eCB, qT_eL, qT_eLJ, qT_eLR, qT_eLB, qT_e1, qT_e2, qT_bCmp, qT_bCmpJ, qT_bAnd, qT_bOr, qT_bNot, qT_eBI, qT_eIf, qT_eLd, qT_eLdR, qT_eLen, qT_eF, qT_eFR, qT_aN, qT_aS, qT_eCl, qT_eClR, qT_eClB, qT_some, qT_x, z_nx_N, z_nx_B, z_nx_R, z_nx_X, z_bk_N, z_bk_B, z_bk_R, z_bk_X, oAdd, oSub, oMul, oNeg, cLt, cLe, cGt, cGe, cEq, cNe, Option.some.injEq, Sum.inl.injEq, Sum.inr.injEq, Prod.mk.injEq, exists_eq_left, exists_eq_left', exists_eq_right, exists_and_left, reduceCtorEq, and_true, true_and, and_false, false_and, List.getElem?_cons_zero, List.getElem?_cons_succ, List.set_cons_zero, List.set_cons_succ, List.replicate, List.length_cons, List.length_nil, List.cons_append, List.nil_append, Nat.reduceAdd, Nat.reduceSub, decide_eq_true_eq, decide_eq_false_iff_not, Bool.true_eq_false, Bool.false_eq_true, true_implies, false_implies, implies_true, Nat.reduceLT, exists_const, z_vB_inj, and_assoc, z_in_iff, oI2L, oL2I, Int.toNat_natCast, z_toNat0, Bool.not_eq_true', Bool.not_eq_false', ne_eq, Bool.not_true, Bool.not_false, Nat.add_zero, Int.add_zero, z_sl_s]
  by_cases q2 : 0 ≤ t ∧ t ≤ 3
  rotate_left
  · have c0 := s_nH1 (i := p) q0
    have r0 := rf_one1 (i := p) q0
    have c1 := s_nH1 (i := k) q1
    have r1 := rf_one1 (i := k) q1
    have c2 := s_nH0 ht q2
    have r2 := rf_one0 ht q2
    refine kOp.x1 (r := vI 0) (S1 := S) (S2 := fun g => k_t (k_u S 103 g) 1) ?_ (fun g => ?_) (fun g => I.t g 1) (fun g => k_t_103) (fun g => k_t_1)
    · unfold m_X5_product
      rw [k_v0]
      apply q_body
      have b6 : INF = 1000000 := rfl
      simp only [b_X5_product, c0, c1, c2, qS_nop, qS_seq, qS_set, qS_setJ, qS_if, qS_brk, qS_ret, qS_retV, qS_throw, qS_inc, qS_cl, qS_ast, qS_aop, qS_fst, qS_fop, qS_sw, qT_eC, qT_eCB, qT_eL, qT_eLJ, qT_eLR, qT_eLB, qT_e1, qT_e2, qT_bCmp, qT_bCmpJ, qT_bAnd, qT_bOr, qT_bNot, qT_eBI, qT_eIf, qT_eLd, qT_eLdR, qT_eLen, qT_eF, qT_eFR, qT_aN, qT_aS, qT_eCl, qT_eClR, qT_eClB, qT_some, qT_x, z_nx_N, z_nx_B, z_nx_R, z_nx_X, z_bk_N, z_bk_B, z_bk_R, z_bk_X, oAdd, oSub, oMul, oNeg, cLt, cLe, cGt, cGe, cEq, cNe, Option.some.injEq, Sum.inl.injEq, Sum.inr.injEq, Prod.mk.injEq, exists_eq_left, exists_eq_left', exists_eq_right, exists_and_left, reduceCtorEq, and_true, true_and, and_false, false_and, List.getElem?_cons_zero, List.getElem?_cons_succ, List.set_cons_zero, List.set_cons_succ, List.replicate, List.length_cons, List.length_nil, List.cons_append, List.nil_append, Nat.reduceAdd, Nat.reduceSub, decide_eq_true_eq, decide_eq_false_iff_not, Bool.true_eq_false, Bool.false_eq_true, true_implies, false_implies, implies_true, Nat.reduceLT, exists_const, z_vB_inj, and_assoc, z_in_iff, oI2L, oL2I, Int.toNat_natCast, z_toNat0, Bool.not_eq_true', Bool.not_eq_false', ne_eq, Bool.not_true, Bool.not_false, Nat.add_zero, Int.add_zero, z_sl_s]
    · unfold m_X6_product
      rw [k_v85]
      apply q_body
      have b6 : INF = 1000000 := rfl
      simp only [b_X6_product, r0, r1, r2, rf_can1, z_vB1, z_vB0, if_true, if_false, not_true_eq_false, not_false_eq_true, k_t_n, k_t_1, exists_eq, k_v85, k_o85, k_r0, k_r1, k_r2, k_r3, k_r4, k_r5, k_r6, k_r7, k_r8, k_r9, k_r10, k_r11, k_r12, k_r13, k_r14, k_r15, k_r16, k_r17, k_r18, k_rl, k_sc, k_st, k_a86, k_s86, k_a87, k_s87, k_a88, k_s88, k_a89, k_s89, k_a90, k_s90, k_a91, k_s91, k_a92, k_s92, k_a93, k_s93, k_a94, k_s94, k_a95, k_s95, k_a96, k_s96, k_a97, k_s97, k_a98, k_s98, k_a99, k_s99, k_a100, k_s100, k_a101, k_s101, k_a102, k_s102, k_u_s, k_u_n, k_u_u, Nat.reduceEqDiff, not_false_eq_true, qS_nop, qS_seq, qS_set, qS_setJ, qS_if, qS_brk, qS_ret, qS_retV, qS_throw, qS_inc, qS_cl, qS_ast, qS_aop, qS_fst, qS_fop, qS_sw, qT_eC, qT_eCB, qT_eL, qT_eLJ, qT_eLR, qT_eLB, qT_e1, qT_e2, qT_bCmp, qT_bCmpJ, qT_bAnd, qT_bOr, qT_bNot, qT_eBI, qT_eIf, qT_eLd, qT_eLdR, qT_eLen, qT_eF, qT_eFR, qT_aN, qT_aS, qT_eCl, qT_eClR, qT_eClB, qT_some, qT_x, z_nx_N, z_nx_B, z_nx_R, z_nx_X, z_bk_N, z_bk_B, z_bk_R, z_bk_X, oAdd, oSub, oMul, oNeg, cLt, cLe, cGt, cGe, cEq, cNe, Option.some.injEq, Sum.inl.injEq, Sum.inr.injEq, Prod.mk.injEq, exists_eq_left, exists_eq_left', exists_eq_right, exists_and_left, reduceCtorEq, and_true, true_and, and_false, false_and, List.getElem?_cons_zero, List.getElem?_cons_succ, List.set_cons_zero, List.set_cons_succ, List.replicate, List.length_cons, List.length_nil, List.cons_append, List.nil_append, Nat.reduceAdd, Nat.reduceSub, decide_eq_true_eq, decide_eq_false_iff_not, Bool.true_eq_false, Bool.false_eq_true, true_implies, false_implies, implies_true, Nat.reduceLT, exists_const, z_vB_inj, and_assoc, z_in_iff, oI2L, oL2I, Int.toNat_natCast, z_toNat0, Bool.not_eq_true', Bool.not_eq_false', ne_eq, Bool.not_true, Bool.not_false, Nat.add_zero, Int.add_zero, z_sl_s]
  have c0 := s_nH1 (i := p) q0
  have r0 := rf_one1 (i := p) q0
  have c1 := s_nH1 (i := k) q1
  have r1 := rf_one1 (i := k) q1
  have c2 := s_nH1 (i := t) q2
  have r2 := rf_one1 (i := t) q2
  obtain ⟨i, rfl⟩ : ∃ i : Nat, p = i := ⟨p.toNat, by omega⟩
  have h_i : i < 4 := by omega
  obtain ⟨j, rfl⟩ : ∃ j : Nat, k = j := ⟨k.toNat, by omega⟩
  have h_j : j < 4 := by omega
  obtain ⟨l, rfl⟩ : ∃ l : Nat, t = l := ⟨t.toNat, by omega⟩
  have h_l : l < 4 := by omega
  have a1 := k_1r h_i
  have a2 := k_1r h_j
  have a3 := k_1r h_l
  have pi := (I.1 i h_i).1
  have pj := (I.1 j h_j).1
  have pri := rP_S I h_i
  have prj := rP_S I h_j
  have bF := s_fitsWith (h := k_W S) (k_po h_i) (k_pc h_i) pi (k_po h_j) (k_pc h_j) pj
  have cg : ∀ k, k < 9 → pMul (rP S i) (rP S j) k = pMul (S (50 + 9 * i)) (S (50 + 9 * j)) k := fun k hk => by
    unfold pMul
    exact z_mn_eq (fun x hx => by rw [rP_e I h_i (by omega), rP_e I h_j (by omega)])
  have cf : pFits (rP S i) (rP S j) 9 ↔ pFits (S (50 + 9 * i)) (S (50 + 9 * j)) 9 := by
    constructor
    · intro q x y h1 h2 h3 h4
      have w := q x y h1 h2 h3 h4
      rwa [rP_e I h_i h2, rP_e I h_j h3] at w
    · intro q x y h1 h2 h3 h4
      rw [rP_e I h_i h2, rP_e I h_j h3]
      exact q x y h1 h2 h3 h4
  have all := rMk_all pri prj
  have rfm : ∀ T : Nat → Nat → Int, T 86 = S 86 → m_X6_multiplies [vR 85, vI (i : Int), vI (j : Int)] (k_W T) = some (.inl (some (vB (z_dec (pFits (S (50 + 9 * i)) (S (50 + 9 * j)) 9 ∧ pOk (pMul (rP S i) (rP S j)))))), k_W (k_u T 88 (z_to 17 (rMk (rP S i) (rP S j) 81) (T 88)))) := fun T e => by
    have p1 : rP T i = rP S i := by unfold rP; rw [e]
    have p2 : rP T j = rP S j := by unfold rP; rw [e]
    have w := rf_multiplies (S := T) h_i h_j (by rw [p1]; exact pri) (by rw [p2]; exact prj)
    rw [p1, p2] at w
    rw [w, z_dec_c _ _ (all.trans (and_congr cf Iff.rfl))]
  by_cases P : pFits (S (50 + 9 * i)) (S (50 + 9 * j)) 9
  rotate_left
  · rw [(z_dec_f _).mpr P] at bF
    refine kOp.x2 (r := vI 0) (S1 := S) (S2 := fun g => k_t (k_u (k_u S 103 g) 88 (z_to 17 (rMk (rP S i) (rP S j) 81) (S 88))) 2) ?_ (fun g => ?_) (fun g => I.eq (fun a ha => ?_)) (fun g => ?_) (fun g => k_t_1)
    · unfold m_X5_product
      rw [k_v0]
      apply q_body
      have b6 : INF = 1000000 := rfl
      simp only [b_X5_product, c0, c1, c2, k_o0, k_a1, a1, a2, bF, z_vB1, z_vB0, if_true, if_false, not_true_eq_false, not_false_eq_true, k_t_n, k_t_1, exists_eq, kIS, qS_nop, qS_seq, qS_set, qS_setJ, qS_if, qS_brk, qS_ret, qS_retV, qS_throw, qS_inc, qS_cl, qS_ast, qS_aop, qS_fst, qS_fop, qS_sw, qT_eC, qT_eCB, qT_eL, qT_eLJ, qT_eLR, qT_eLB, qT_e1, qT_e2, qT_bCmp, qT_bCmpJ, qT_bAnd, qT_bOr, qT_bNot, qT_eBI, qT_eIf, qT_eLd, qT_eLdR, qT_eLen, qT_eF, qT_eFR, qT_aN, qT_aS, qT_eCl, qT_eClR, qT_eClB, qT_some, qT_x, z_nx_N, z_nx_B, z_nx_R, z_nx_X, z_bk_N, z_bk_B, z_bk_R, z_bk_X, oAdd, oSub, oMul, oNeg, cLt, cLe, cGt, cGe, cEq, cNe, Option.some.injEq, Sum.inl.injEq, Sum.inr.injEq, Prod.mk.injEq, exists_eq_left, exists_eq_left', exists_eq_right, exists_and_left, reduceCtorEq, and_true, true_and, and_false, false_and, List.getElem?_cons_zero, List.getElem?_cons_succ, List.set_cons_zero, List.set_cons_succ, List.replicate, List.length_cons, List.length_nil, List.cons_append, List.nil_append, Nat.reduceAdd, Nat.reduceSub, decide_eq_true_eq, decide_eq_false_iff_not, Bool.true_eq_false, Bool.false_eq_true, true_implies, false_implies, implies_true, Nat.reduceLT, exists_const, z_vB_inj, and_assoc, z_in_iff, oI2L, oL2I, Int.toNat_natCast, z_toNat0, Bool.not_eq_true', Bool.not_eq_false', ne_eq, Bool.not_true, Bool.not_false, Nat.add_zero, Int.add_zero, z_sl_s]
      omega
    · have rm := rfm (k_u S 103 g) (k_u_n (by decide))
      rw [(z_dec_f _).mpr (fun w => P w.1), k_u_n (by decide)] at rm
      unfold m_X6_product
      rw [k_v85]
      apply q_body
      have b6 : INF = 1000000 := rfl
      simp only [b_X6_product, r0, r1, r2, rm, rf_can2, z_vB1, z_vB0, if_true, if_false, not_true_eq_false, not_false_eq_true, k_t_n, k_t_1, exists_eq, qS_nop, qS_seq, qS_set, qS_setJ, qS_if, qS_brk, qS_ret, qS_retV, qS_throw, qS_inc, qS_cl, qS_ast, qS_aop, qS_fst, qS_fop, qS_sw, qT_eC, qT_eCB, qT_eL, qT_eLJ, qT_eLR, qT_eLB, qT_e1, qT_e2, qT_bCmp, qT_bCmpJ, qT_bAnd, qT_bOr, qT_bNot, qT_eBI, qT_eIf, qT_eLd, qT_eLdR, qT_eLen, qT_eF, qT_eFR, qT_aN, qT_aS, qT_eCl, qT_eClR, qT_eClB, qT_some, qT_x, z_nx_N, z_nx_B, z_nx_R, z_nx_X, z_bk_N, z_bk_B, z_bk_R, z_bk_X, oAdd, oSub, oMul, oNeg, cLt, cLe, cGt, cGe, cEq, cNe, Option.some.injEq, Sum.inl.injEq, Sum.inr.injEq, Prod.mk.injEq, exists_eq_left, exists_eq_left', exists_eq_right, exists_and_left, reduceCtorEq, and_true, true_and, and_false, false_and, List.getElem?_cons_zero, List.getElem?_cons_succ, List.set_cons_zero, List.set_cons_succ, List.replicate, List.length_cons, List.length_nil, List.cons_append, List.nil_append, Nat.reduceAdd, Nat.reduceSub, decide_eq_true_eq, decide_eq_false_iff_not, Bool.true_eq_false, Bool.false_eq_true, true_implies, false_implies, implies_true, Nat.reduceLT, exists_const, z_vB_inj, and_assoc, z_in_iff, oI2L, oL2I, Int.toNat_natCast, z_toNat0, Bool.not_eq_true', Bool.not_eq_false', ne_eq, Bool.not_true, Bool.not_false, Nat.add_zero, Int.add_zero, z_sl_s]
      try omega
    · rw [k_t_n (fun e => ha (by subst e; unfold kFree; omega)), k_u_n (fun e => ha (by subst e; unfold kFree; omega)), k_u_n (fun e => ha (by subst e; unfold kFree; omega))]
    · rw [k_t_n (by decide), k_u_n (by decide), k_u_s]
  rw [(z_dec_iff _).mpr P] at bF
  have x1 := s_becomeProduct (o := 28) (c := 29) (h := k_W S) (k_get (by decide)) (k_get (by decide)) (k_po h_i) (k_pc h_i) pi (k_po h_j) (k_pc h_j) pj (by omega) (by omega)
  have x1' : m_X4_becomeProduct [vR 28, vR (49 + 9 * i), vR (49 + 9 * j)] (k_W S) = some (.inl none, k_W (k_u S 29 (p9 (pMul (S (50 + 9 * i)) (S (50 + 9 * j))) (S 29)))) := by
    rw [x1, k_s29]
    rfl
  obtain ⟨X, hX⟩ : ∃ X, X = k_u S 29 (p9 (pMul (S (50 + 9 * i)) (S (50 + 9 * j))) (S 29)) := ⟨_, rfl⟩
  rw [← hX] at x1'
  have X29 : ∀ k, k < 9 → X 29 k = pMul (S (50 + 9 * i)) (S (50 + 9 * j)) k := fun k hk => by rw [hX, k_u_s, p9_l hk]
  have Xo : ∀ a, a ≠ 29 → X a = S a := fun a ha => by rw [hX, k_u_n ha]
  have Xb : ∀ k, k < 9 → -100000 ≤ X 29 k ∧ X 29 k ≤ 1000000 := fun k hk => by
    rw [X29 k hk, ← cg k hk, ← rMk_mul _ _ hk]
    have b4 := rMk_b pri prj 81 k (by omega)
    have b5 := rMk_le (rP S i) (rP S j) 81 k
    omega
  have bW := s_isWithinP (h := k_W X) (o := 28) (c := 29) (k_get (by decide)) (k_get (by decide)) Xb
  have cw : pOk (X 29) ↔ pOk (pMul (rP S i) (rP S j)) := by
    constructor
    · intro q k hk
      rw [cg k hk, ← X29 k hk]
      exact q k hk
    · intro q k hk
      rw [X29 k hk, ← cg k hk]
      exact q k hk
  by_cases Q : pOk (X 29)
  rotate_left
  · rw [(z_dec_f _).mpr Q] at bW
    refine kOp.x2 (r := vI 0) (S1 := X) (S2 := fun g => k_t (k_u (k_u X 103 g) 88 (z_to 17 (rMk (rP S i) (rP S j) 81) (S 88))) 2) ?_ (fun g => ?_) (fun g => I.eq (fun a ha => ?_)) (fun g => ?_) (fun g => k_t_1)
    · unfold m_X5_product
      rw [k_v0]
      apply q_body
      have b6 : INF = 1000000 := rfl
      simp only [b_X5_product, c0, c1, c2, k_o0, k_a1, a1, a2, bF, x1', bW, z_vB1, z_vB0, if_true, if_false, not_true_eq_false, not_false_eq_true, k_t_n, k_t_1, exists_eq, kIS, qS_nop, qS_seq, qS_set, qS_setJ, qS_if, qS_brk, qS_ret, qS_retV, qS_throw, qS_inc, qS_cl, qS_ast, qS_aop, qS_fst, qS_fop, qS_sw, qT_eC, qT_eCB, qT_eL, qT_eLJ, qT_eLR, qT_eLB, qT_e1, qT_e2, qT_bCmp, qT_bCmpJ, qT_bAnd, qT_bOr, qT_bNot, qT_eBI, qT_eIf, qT_eLd, qT_eLdR, qT_eLen, qT_eF, qT_eFR, qT_aN, qT_aS, qT_eCl, qT_eClR, qT_eClB, qT_some, qT_x, z_nx_N, z_nx_B, z_nx_R, z_nx_X, z_bk_N, z_bk_B, z_bk_R, z_bk_X, oAdd, oSub, oMul, oNeg, cLt, cLe, cGt, cGe, cEq, cNe, Option.some.injEq, Sum.inl.injEq, Sum.inr.injEq, Prod.mk.injEq, exists_eq_left, exists_eq_left', exists_eq_right, exists_and_left, reduceCtorEq, and_true, true_and, and_false, false_and, List.getElem?_cons_zero, List.getElem?_cons_succ, List.set_cons_zero, List.set_cons_succ, List.replicate, List.length_cons, List.length_nil, List.cons_append, List.nil_append, Nat.reduceAdd, Nat.reduceSub, decide_eq_true_eq, decide_eq_false_iff_not, Bool.true_eq_false, Bool.false_eq_true, true_implies, false_implies, implies_true, Nat.reduceLT, exists_const, z_vB_inj, and_assoc, z_in_iff, oI2L, oL2I, Int.toNat_natCast, z_toNat0, Bool.not_eq_true', Bool.not_eq_false', ne_eq, Bool.not_true, Bool.not_false, Nat.add_zero, Int.add_zero, z_sl_s]
      omega
    · have rm := rfm (k_u X 103 g) (by rw [k_u_n (by decide), Xo _ (by decide)])
      rw [(z_dec_f _).mpr (fun w => Q (cw.mpr w.2)), k_u_n (by decide), Xo 88 (by decide)] at rm
      unfold m_X6_product
      rw [k_v85]
      apply q_body
      have b6 : INF = 1000000 := rfl
      simp only [b_X6_product, r0, r1, r2, rm, rf_can2, z_vB1, z_vB0, if_true, if_false, not_true_eq_false, not_false_eq_true, k_t_n, k_t_1, exists_eq, qS_nop, qS_seq, qS_set, qS_setJ, qS_if, qS_brk, qS_ret, qS_retV, qS_throw, qS_inc, qS_cl, qS_ast, qS_aop, qS_fst, qS_fop, qS_sw, qT_eC, qT_eCB, qT_eL, qT_eLJ, qT_eLR, qT_eLB, qT_e1, qT_e2, qT_bCmp, qT_bCmpJ, qT_bAnd, qT_bOr, qT_bNot, qT_eBI, qT_eIf, qT_eLd, qT_eLdR, qT_eLen, qT_eF, qT_eFR, qT_aN, qT_aS, qT_eCl, qT_eClR, qT_eClB, qT_some, qT_x, z_nx_N, z_nx_B, z_nx_R, z_nx_X, z_bk_N, z_bk_B, z_bk_R, z_bk_X, oAdd, oSub, oMul, oNeg, cLt, cLe, cGt, cGe, cEq, cNe, Option.some.injEq, Sum.inl.injEq, Sum.inr.injEq, Prod.mk.injEq, exists_eq_left, exists_eq_left', exists_eq_right, exists_and_left, reduceCtorEq, and_true, true_and, and_false, false_and, List.getElem?_cons_zero, List.getElem?_cons_succ, List.set_cons_zero, List.set_cons_succ, List.replicate, List.length_cons, List.length_nil, List.cons_append, List.nil_append, Nat.reduceAdd, Nat.reduceSub, decide_eq_true_eq, decide_eq_false_iff_not, Bool.true_eq_false, Bool.false_eq_true, true_implies, false_implies, implies_true, Nat.reduceLT, exists_const, z_vB_inj, and_assoc, z_in_iff, oI2L, oL2I, Int.toNat_natCast, z_toNat0, Bool.not_eq_true', Bool.not_eq_false', ne_eq, Bool.not_true, Bool.not_false, Nat.add_zero, Int.add_zero, z_sl_s]
      try omega
    · rw [k_t_n (fun e => ha (by subst e; unfold kFree; omega)), k_u_n (fun e => ha (by subst e; unfold kFree; omega)), k_u_n (fun e => ha (by subst e; unfold kFree; omega)), Xo _ (fun e => ha (by subst e; unfold kFree; omega))]
    · rw [k_t_n (by decide), k_u_n (by decide), k_u_s]
  rw [(z_dec_iff _).mpr Q] at bW
  have x2 := s_cp29 (X := X) h_l
  have x3 := s_ct (X := X) h_l Q
  have y86 : kLay X l 86 = S 86 := by
    unfold kLay
    rw [k_u_n (by omega), Xo _ (by omega)]
  obtain ⟨V, hV⟩ : ∃ V, V = fun g => k_t (k_u (k_u (kLay X l) 103 g) 88 (z_to 17 (rMk (rP S i) (rP S j) 81) (kLay X l 88))) 0 := ⟨_, rfl⟩
  have VE : ∀ g, k_t (k_u (k_u (kLay X l) 103 g) 88 (z_to 17 (rMk (rP S i) (rP S j) 81) (kLay X l 88))) 0 = V g := fun g => by rw [hV]
  have V88 : ∀ g k, k < 9 → V g 88 k = X 29 k := fun g k hk => by
    rw [← VE, k_t_n (by decide), k_u_s, z_to_lt (by omega), X29 k hk, rMk_mul _ _ hk, cg k hk]
  have VK : ∀ g a, ¬ kFree a → V g a = kLay X l a := fun g a ha => by
    rw [← VE, k_t_n (fun e => ha (by subst e; unfold kFree; omega)), k_u_n (fun e => ha (by subst e; unfold kFree; omega)), k_u_n (fun e => ha (by subst e; unfold kFree; omega))]
  refine kOp.ok (r := vI (z_cnt (fun k => z_dec (X 29 k ≠ INF)) 9)) (S1 := kLay X l) (S2 := fun g => k_u (V g) 86 (z_at (9 * l) 9 (V g 88) (V g 86))) ?_ (fun g => ?_) (fun g => I.lay h_l Xo Q (VK g) (V88 g)) (fun g => ?_) (fun g => ?_)
  · unfold m_X5_product
    rw [k_v0]
    apply q_body
    have b6 : INF = 1000000 := rfl
    simp only [b_X5_product, c0, c1, c2, k_o0, k_a1, a1, a2, a3, bF, x1', bW, x2, x3, z_vB1, z_vB0, if_true, if_false, not_true_eq_false, not_false_eq_true, k_t_n, k_t_1, exists_eq, qS_nop, qS_seq, qS_set, qS_setJ, qS_if, qS_brk, qS_ret, qS_retV, qS_throw, qS_inc, qS_cl, qS_ast, qS_aop, qS_fst, qS_fop, qS_sw, qT_eC, qT_eCB, qT_eL, qT_eLJ, qT_eLR, qT_eLB, qT_e1, qT_e2, qT_bCmp, qT_bCmpJ, qT_bAnd, qT_bOr, qT_bNot, qT_eBI, qT_eIf, qT_eLd, qT_eLdR, qT_eLen, qT_eF, qT_eFR, qT_aN, qT_aS, qT_eCl, qT_eClR, qT_eClB, qT_some, qT_x, z_nx_N, z_nx_B, z_nx_R, z_nx_X, z_bk_N, z_bk_B, z_bk_R, z_bk_X, oAdd, oSub, oMul, oNeg, cLt, cLe, cGt, cGe, cEq, cNe, Option.some.injEq, Sum.inl.injEq, Sum.inr.injEq, Prod.mk.injEq, exists_eq_left, exists_eq_left', exists_eq_right, exists_and_left, reduceCtorEq, and_true, true_and, and_false, false_and, List.getElem?_cons_zero, List.getElem?_cons_succ, List.set_cons_zero, List.set_cons_succ, List.replicate, List.length_cons, List.length_nil, List.cons_append, List.nil_append, Nat.reduceAdd, Nat.reduceSub, decide_eq_true_eq, decide_eq_false_iff_not, Bool.true_eq_false, Bool.false_eq_true, true_implies, false_implies, implies_true, Nat.reduceLT, exists_const, z_vB_inj, and_assoc, z_in_iff, oI2L, oL2I, Int.toNat_natCast, z_toNat0, Bool.not_eq_true', Bool.not_eq_false', ne_eq, Bool.not_true, Bool.not_false, Nat.add_zero, Int.add_zero, z_sl_s]
    omega
  · have r9 := rf_laysPoly (S := V g) h_l (fun k hk => by rw [V88 g k hk]; have := Q k hk; omega)
    rw [z_cnt_ne (V88 g)] at r9
    have rm := rfm (k_u (kLay X l) 103 g) (by rw [k_u_n (by decide), y86])
    rw [(z_dec_iff _).mpr ⟨P, cw.mp Q⟩, k_u_n (by decide)] at rm
    unfold m_X6_product
    rw [k_v85]
    apply q_body
    have b6 : INF = 1000000 := rfl
    simp only [b_X6_product, r0, r1, r2, rm, rf_can0, VE, r9, z_vB1, z_vB0, if_true, if_false, not_true_eq_false, not_false_eq_true, k_t_n, k_t_1, exists_eq, qS_nop, qS_seq, qS_set, qS_setJ, qS_if, qS_brk, qS_ret, qS_retV, qS_throw, qS_inc, qS_cl, qS_ast, qS_aop, qS_fst, qS_fop, qS_sw, qT_eC, qT_eCB, qT_eL, qT_eLJ, qT_eLR, qT_eLB, qT_e1, qT_e2, qT_bCmp, qT_bCmpJ, qT_bAnd, qT_bOr, qT_bNot, qT_eBI, qT_eIf, qT_eLd, qT_eLdR, qT_eLen, qT_eF, qT_eFR, qT_aN, qT_aS, qT_eCl, qT_eClR, qT_eClB, qT_some, qT_x, z_nx_N, z_nx_B, z_nx_R, z_nx_X, z_bk_N, z_bk_B, z_bk_R, z_bk_X, oAdd, oSub, oMul, oNeg, cLt, cLe, cGt, cGe, cEq, cNe, Option.some.injEq, Sum.inl.injEq, Sum.inr.injEq, Prod.mk.injEq, exists_eq_left, exists_eq_left', exists_eq_right, exists_and_left, reduceCtorEq, and_true, true_and, and_false, false_and, List.getElem?_cons_zero, List.getElem?_cons_succ, List.set_cons_zero, List.set_cons_succ, List.replicate, List.length_cons, List.length_nil, List.cons_append, List.nil_append, Nat.reduceAdd, Nat.reduceSub, decide_eq_true_eq, decide_eq_false_iff_not, Bool.true_eq_false, Bool.false_eq_true, true_implies, false_implies, implies_true, Nat.reduceLT, exists_const, z_vB_inj, and_assoc, z_in_iff, oI2L, oL2I, Int.toNat_natCast, z_toNat0, Bool.not_eq_true', Bool.not_eq_false', ne_eq, Bool.not_true, Bool.not_false, Nat.add_zero, Int.add_zero, z_sl_s]
    try omega
  · rw [k_u_n (by decide), ← VE, k_t_n (by decide), k_u_n (by decide), k_u_s]
  · rw [k_u_n (by decide), ← VE, k_t_1]
end FP
