/-! THE FACE: star -/
section FSt
variable {S : Nat → Nat → Int}
theorem z_mn0 {f : Nat → Int} {n : Nat} (hn : 1 ≤ n) (h : ∀ i, i < n → f i ≤ 0) : z_mn f n = 0 ↔ ∀ i, i < n → 0 ≤ f i := by
  have b6 : INF = 1000000 := rfl
  constructor
  · intro q i hi
    have := z_mn_lb f n i hi
    omega
  · intro q
    have w := z_mn_lb f n 0 (by omega)
    have w0 := h 0 (by omega)
    rcases z_mn_at f n with e | ⟨k, hk, e⟩
    · omega
    · have := q k hk
      have := h k hk
      omega
/-- a power, laid in a row of 25 -/
def sQ (A : Nat → Nat → Int) (n m : Nat) (k : Nat) : Int := if k / 5 < n ∧ k % 5 < n then sP A n m (k / 5) (k % 5) else INF
theorem sP_bd {A : Nat → Nat → Int} {n : Nat} (hA : wA A n) (m : Nat) (hm : m ≤ 6) {i j : Nat} (hi : i < n) (hj : j < n) : -700000 ≤ sP A n m i j ∧ sP A n m i j ≤ 1000000 := by
  have b6 : INF = 1000000 := rfl
  rcases sP_at hA m i j hi hj with w | ⟨l, l1, l2, l3⟩
  · omega
  · have := wW_b hA l i j hi hj l2
    omega
theorem rf_canStar {a n : Nat} (ha : a < 4) (hn : 1 ≤ n ∧ n ≤ 5) (h89 : S 89 a = (n : Int)) (hM : mBd (rM S a) 100000) (hW : mWi (rM S a) n) (hO : ∀ x y, x < 5 → y < 5 → ¬ (x < n ∧ y < n) → rM S a x y = INF) :
    ∃ V, m_X6_canStar [vR 85, vI (a : Int)] (k_W S) = some (.inl (some (vB (z_dec ((∀ i, i < n → 0 ≤ sP (wD (rM S a)) n n i i) ∧ ∀ k, k < 25 → ¬ (sQ (wD (rM S a)) n n k ≠ INF ∧ (sQ (wD (rM S a)) n n k < -99999 ∨ 99999 < sQ (wD (rM S a)) n n k)))))), k_W V) ∧ (∀ x, x ≠ 91 → x ≠ 92 → x ≠ 93 → V x = S x) ∧ ∀ k, k < 25 → V 93 k = sQ (wD (rM S a)) n n k := by
  have b6 : INF = 1000000 := rfl
  obtain ⟨A, hAd⟩ : ∃ A, A = wD (rM S a) := ⟨_, rfl⟩
  have hA : wA A n := by rw [hAd]; exact wD_ok hW
  rw [← hAd]
  have e1 := rf_loads (S := S) ha ha
  obtain ⟨S1, hS1⟩ : ∃ S1, S1 = k_u (k_u S 91 (z_to 25 (fun x => S 90 (25 * a + x)) (S 91))) 92 (z_to 25 (fun x => S 90 (25 * a + x)) (S 92)) := ⟨_, rfl⟩
  rw [← hS1] at e1
  have o1 : ∀ x, x ≠ 91 → x ≠ 92 → S1 x = S x := fun x h1 h2 => by rw [hS1, k_u_n h2, k_u_n h1]
  have m1 : ∀ x, x < 25 → S1 91 x = rM S a (x / 5) (x % 5) ∧ S1 92 x = rM S a (x / 5) (x % 5) := fun x hx => by
    have e : rM S a (x / 5) (x % 5) = S 90 (25 * a + x) := by
      unfold rM
      rw [show 25 * a + 5 * (x / 5) + x % 5 = 25 * a + x by omega]
    rw [e, hS1]
    exact ⟨by rw [k_u_n (by decide), k_u_s, z_to_lt hx], by rw [k_u_s, z_to_lt hx]⟩
  -- the diagonals
  have dg : ∀ m x : Nat, x < 25 → (if x / 5 = x % 5 ∧ x / 5 < m then (if rM S a (x / 5) (x / 5) < 0 then rM S a (x / 5) (x / 5) else 0) else rM S a (x / 5) (x % 5)) = mDg (rM S a) m (x / 5) (x % 5) := fun m x hx => (mDg_at _ m _ _).symm
  have dbd : ∀ m x y, x < 5 → y < 5 → -100000 ≤ mDg (rM S a) m x y ∧ mDg (rM S a) m x y ≤ 1000000 := fun m x y hx hy => by
    rw [mDg_at]
    have h1 := hM x x hx hx
    have h2 := hM x y hx hy
    (repeat' split) <;> omega
  have dA : ∀ x y, x < n → y < n → mDg (rM S a) n x y = A x y := fun x y hx hy => by
    rw [mDg_at, hAd]
    unfold wD
    by_cases c : x = y
    · rw [if_pos ⟨c, hx⟩, if_pos c]
    · rw [if_neg (fun w => c w.1), if_neg c]
  have dO : ∀ x y, x < 5 → y < 5 → ¬ (x < n ∧ y < n) → mDg (rM S a) n x y = INF := fun x y hx hy h => by
    rw [mDg_at, if_neg (by omega)]
    exact hO x y hx hy h
  have q25 : ∀ x, x < 25 → mDg (rM S a) n (x / 5) (x % 5) = sQ A n 0 x := fun x hx => by
    unfold sQ
    by_cases c : x / 5 < n ∧ x % 5 < n
    · rw [if_pos c]
      exact dA _ _ c.1 c.2
    · rw [if_neg c]
      exact dO _ _ (by omega) (by omega) c
  have qb : ∀ m, m ≤ 6 → ∀ x, x < 25 → -700000 ≤ sQ A n m x ∧ sQ A n m x ≤ 1000000 := fun m hm x hx => by
    unfold sQ
    split
    · next c => exact sP_bd hA m hm c.1 c.2
    · omega
  have qs : ∀ (T : Nat → Nat → Int) (m : Nat), (∀ x, x < 25 → T 91 x = sQ A n m x) → (∀ x, x < 25 → T 92 x = sQ A n 0 x) → ∀ x, x < 25 → rCo (rA (T 91)) (rA (T 92)) n x = sQ A n (m + 1) x := fun T m h1 h2 x hx => by
    unfold rCo sQ
    by_cases c : x / 5 < n ∧ x % 5 < n
    · rw [if_pos c, if_pos c]
      show mMul _ _ _ _ _ = mMul _ _ _ _ _
      refine mMul_cg (fun k hk => ?_) (fun k hk => ?_)
      · unfold rA
        rw [h1 _ (by omega)]
        unfold sQ
        rw [show (5 * (x / 5) + k) / 5 = x / 5 by omega, show (5 * (x / 5) + k) % 5 = k by omega, if_pos ⟨c.1, hk⟩]
      · unfold rA
        rw [h2 _ (by omega)]
        unfold sQ
        rw [show (5 * k + x % 5) / 5 = k by omega, show (5 * k + x % 5) % 5 = x % 5 by omega, if_pos ⟨hk, c.2⟩]
        rfl
    · rw [if_neg c, if_neg c]
  suffices H : ∃ V, m_X6_canStar [vR 85, vI (a : Int)] (k_W S) = some (.inl (some (vB (z_dec (z_mn (fun k => sQ A n n (5 * k + k)) n = 0 ∧ ∀ k, k < 25 → ¬ (sQ A n n k ≠ INF ∧ (sQ A n n k < -99999 ∨ 99999 < sQ A n n k)))))), k_W V) ∧ (∀ x, x ≠ 91 → x ≠ 92 → x ≠ 93 → V x = S x) ∧ ∀ k, k < 25 → V 93 k = sQ A n n k by
    obtain ⟨V, h1, h2, h3⟩ := H
    refine ⟨V, ?_, h2, h3⟩
    have di : ∀ i, i < n → sQ A n n (5 * i + i) = sP A n n i i := fun i hi => by
      unfold sQ
      rw [show (5 * i + i) / 5 = i by omega, show (5 * i + i) % 5 = i by omega, if_pos ⟨hi, hi⟩]
    have z0 := z_mn0 (f := fun k => sQ A n n (5 * k + k)) hn.1 (fun i hi => by
      show sQ A n n (5 * i + i) ≤ 0
      rw [di i hi]
      have w := sP_ms hA hi hi 0 n
      rw [Nat.zero_add] at w
      have := hA.2 i hi
      exact Int.le_trans w this)
    rw [h1]
    have e : (z_mn (fun k => sQ A n n (5 * k + k)) n = 0 ∧ ∀ k, k < 25 → ¬ (sQ A n n k ≠ INF ∧ (sQ A n n k < -99999 ∨ 99999 < sQ A n n k))) ↔ ((∀ i, i < n → 0 ≤ sP A n n i i) ∧ ∀ k, k < 25 → ¬ (sQ A n n k ≠ INF ∧ (sQ A n n k < -99999 ∨ 99999 < sQ A n n k))) := by
      rw [z0]
      exact ⟨fun ⟨x, y⟩ => ⟨fun i hi => by rw [← di i hi]; exact x i hi, y⟩, fun ⟨x, y⟩ => ⟨fun i hi => by show 0 ≤ sQ A n n (5 * i + i); rw [di i hi]; exact x i hi, y⟩⟩
    rw [z_dec_c _ _ e]
  have run : ∃ V, m_X6_canStar [vR 85, vI (a : Int)] (k_W S) = some (.inl (some (vB (z_dec (z_mn (fun k => sQ A n n (5 * k + k)) n = 0 ∧ ∀ k, k < 25 → ¬ (sQ A n n k ≠ INF ∧ (sQ A n n k < -99999 ∨ 99999 < sQ A n n k)))))), V) ∧ ∃ T, V = k_W T ∧ (∀ x, x ≠ 91 → x ≠ 92 → x ≠ 93 → T x = S x) ∧ ∀ k, k < 25 → T 93 k = sQ A n n k := by
    unfold m_X6_canStar
    rw [k_v85]
    apply q_bodyV
    have b6 : INF = 1000000 := rfl
    simp only [b_X6_canStar, h89, e1, k_v85, k_o85, k_r0, k_r1, k_r2, k_r3, k_r4, k_r5, k_r6, k_r7, k_r8, k_r9, k_r10, k_r11, k_r12, k_r13, k_r14, k_r15, k_r16, k_r17, k_r18, k_rl, k_sc, k_st, k_a86, k_s86, k_a87, k_s87, k_a88, k_s88, k_a89, k_s89, k_a90, k_s90, k_a91, k_s91, k_a92, k_s92, k_a93, k_s93, k_a94, k_s94, k_a95, k_s95, k_a96, k_s96, k_a97, k_s97, k_a98, k_s98, k_a99, k_s99, k_a100, k_s100, k_a101, k_s101, k_a102, k_s102, k_u_s, k_u_n, k_u_u, Nat.reduceEqDiff, not_false_eq_true, qS_nop, qS_seq, qS_set, qS_setJ, qS_if, qS_brk, qS_ret, qS_retV, qS_throw, qS_inc, qS_cl, qS_ast, qS_aop, qS_fst, qS_fop, qS_sw, qT_eC, qT_eCB, qT_eL, qT_eLJ, qT_eLR, qT_eLB, qT_e1, qT_e2, qT_bCmp, qT_bCmpJ, qT_bAnd, qT_bOr, qT_bNot, qT_eBI, qT_eIf, qT_eLd, qT_eLdR, qT_eLen, qT_eF, qT_eFR, qT_aN, qT_aS, qT_eCl, qT_eClR, qT_eClB, qT_some, qT_x, z_nx_N, z_nx_B, z_nx_R, z_nx_X, z_bk_N, z_bk_B, z_bk_R, z_bk_X, oAdd, oSub, oMul, oNeg, cLt, cLe, cGt, cGe, cEq, cNe, Option.some.injEq, Sum.inl.injEq, Sum.inr.injEq, Prod.mk.injEq, exists_eq_left, exists_eq_left', exists_eq_right, exists_and_left, reduceCtorEq, and_true, true_and, and_false, false_and, List.getElem?_cons_zero, List.getElem?_cons_succ, List.set_cons_zero, List.set_cons_succ, List.replicate, List.length_cons, List.length_nil, List.cons_append, List.nil_append, Nat.reduceAdd, Nat.reduceSub, decide_eq_true_eq, decide_eq_false_iff_not, Bool.true_eq_false, Bool.false_eq_true, true_implies, false_implies, implies_true, Nat.reduceLT, exists_const, z_vB_inj, and_assoc, z_in_iff, oI2L, oL2I, Int.toNat_natCast, z_toNat0, Bool.not_eq_true', Bool.not_eq_false', ne_eq, Bool.not_true, Bool.not_false, Nat.add_zero, Int.add_zero, z_sl_s]
    repeat (refine And.intro (by omega) ?_)
    refine qS_loop (fun k ρ h' => (∃ T, h' = k_W T ∧ (∀ x, x ≠ 91 → x ≠ 92 → T x = S x) ∧ ∀ x, x < 25 → T 91 x = mDg (rM S a) k (x / 5) (x % 5) ∧ T 92 x = mDg (rM S a) k (x / 5) (x % 5)) ∧ ρ = [vR 85, vI (a : Int), vI (n : Int), vI (k : Int)]) n ?_ ?_ n 0 z_fuel _ _ (by omega) (z_fuel_lt (by omega)) ⟨⟨S1, rfl, o1, fun x hx => m1 x hx⟩, rfl⟩
    · rintro k ρ h' hk ⟨⟨T, rfl, t1, t2⟩, rfl⟩
      have u := t2 (5 * k + k) (by omega)
      rw [show (5 * k + k) / 5 = k by omega, show (5 * k + k) % 5 = k by omega] at u
      have ev : mDg (rM S a) k k k = rM S a k k := by rw [mDg_at, if_neg (by omega)]
      rw [ev] at u
      have bk := hM k k (by omega) (by omega)
      have l1 := fun h : z_Hp => rf_lesser (h := h) (x := rM S a k k) (y := 0) ⟨by omega, by omega⟩ ⟨by decide, by decide⟩
      have tn : (5 * (k : Int) + (k : Int)).toNat = 5 * k + k := by omega
      simp only [tn, u.1, u.2, l1, k_v85, k_o85, k_r0, k_r1, k_r2, k_r3, k_r4, k_r5, k_r6, k_r7, k_r8, k_r9, k_r10, k_r11, k_r12, k_r13, k_r14, k_r15, k_r16, k_r17, k_r18, k_rl, k_sc, k_st, k_a86, k_s86, k_a87, k_s87, k_a88, k_s88, k_a89, k_s89, k_a90, k_s90, k_a91, k_s91, k_a92, k_s92, k_a93, k_s93, k_a94, k_s94, k_a95, k_s95, k_a96, k_s96, k_a97, k_s97, k_a98, k_s98, k_a99, k_s99, k_a100, k_s100, k_a101, k_s101, k_a102, k_s102, k_u_s, k_u_n, k_u_u, Nat.reduceEqDiff, not_false_eq_true, qS_nop, qS_seq, qS_set, qS_setJ, qS_if, qS_brk, qS_ret, qS_retV, qS_throw, qS_inc, qS_cl, qS_ast, qS_aop, qS_fst, qS_fop, qS_sw, qT_eC, qT_eCB, qT_eL, qT_eLJ, qT_eLR, qT_eLB, qT_e1, qT_e2, qT_bCmp, qT_bCmpJ, qT_bAnd, qT_bOr, qT_bNot, qT_eBI, qT_eIf, qT_eLd, qT_eLdR, qT_eLen, qT_eF, qT_eFR, qT_aN, qT_aS, qT_eCl, qT_eClR, qT_eClB, qT_some, qT_x, z_nx_N, z_nx_B, z_nx_R, z_nx_X, z_bk_N, z_bk_B, z_bk_R, z_bk_X, oAdd, oSub, oMul, oNeg, cLt, cLe, cGt, cGe, cEq, cNe, Option.some.injEq, Sum.inl.injEq, Sum.inr.injEq, Prod.mk.injEq, exists_eq_left, exists_eq_left', exists_eq_right, exists_and_left, reduceCtorEq, and_true, true_and, and_false, false_and, List.getElem?_cons_zero, List.getElem?_cons_succ, List.set_cons_zero, List.set_cons_succ, List.replicate, List.length_cons, List.length_nil, List.cons_append, List.nil_append, Nat.reduceAdd, Nat.reduceSub, decide_eq_true_eq, decide_eq_false_iff_not, Bool.true_eq_false, Bool.false_eq_true, true_implies, false_implies, implies_true, Nat.reduceLT, exists_const, z_vB_inj, and_assoc, z_in_iff, oI2L, oL2I, Int.toNat_natCast, z_toNat0, Bool.not_eq_true', Bool.not_eq_false', ne_eq, Bool.not_true, Bool.not_false, Nat.add_zero, Int.add_zero, z_sl_s]
      repeat (refine And.intro (by omega) ?_)
      refine ⟨⟨_, rfl, fun x h1 h2 => ?_, fun x hx => ?_⟩, rfl⟩
      · rw [k_u_n h2, k_u_n h1]
        exact t1 x h1 h2
      · rw [k_u_n (show 91 ≠ 92 by decide), k_u_s, k_u_s]
        have w := t2 x hx
        have st : mDg (rM S a) (k + 1) (x / 5) (x % 5) = if x = 5 * k + k then (if 0 < rM S a k k then 0 else rM S a k k) else mDg (rM S a) k (x / 5) (x % 5) := by
          rw [mDg_at, mDg_at]
          by_cases c : x = 5 * k + k
          · subst c
            rw [show (5 * k + k) / 5 = k by omega, show (5 * k + k) % 5 = k by omega, if_pos ⟨rfl, by omega⟩, if_pos rfl]
            (repeat' split) <;> omega
          · rw [if_neg c]
            by_cases d : x / 5 = x % 5 ∧ x / 5 < k
            · rw [if_pos d, if_pos (by omega)]
            · rw [if_neg d, if_neg (by omega)]
        rw [st]
        unfold z_up
        by_cases c : x = 5 * k + k
        · rw [if_pos c, if_pos c, if_pos c]
          exact ⟨rfl, rfl⟩
        · rw [if_neg c, if_neg c, if_neg c]
          exact w
    · rintro ρ h' ⟨⟨T, rfl, t1, t2⟩, rfl⟩
      simp only [qS_nop, qS_seq, qS_set, qS_setJ, qS_if, qS_brk, qS_ret, qS_retV, qS_throw, qS_inc, qS_cl, qS_ast, qS_aop, qS_fst, qS_fop, qS_sw, qT_eC, qT_eCB, qT_eL, qT_eLJ, qT_eLR, qT_eLB, qT_e1, qT_e2, qT_bCmp, qT_bCmpJ, qT_bAnd, qT_bOr, qT_bNot, qT_eBI, qT_eIf, qT_eLd, qT_eLdR, qT_eLen, qT_eF, qT_eFR, qT_aN, qT_aS, qT_eCl, qT_eClR, qT_eClB, qT_some, qT_x, z_nx_N, z_nx_B, z_nx_R, z_nx_X, z_bk_N, z_bk_B, z_bk_R, z_bk_X, oAdd, oSub, oMul, oNeg, cLt, cLe, cGt, cGe, cEq, cNe, Option.some.injEq, Sum.inl.injEq, Sum.inr.injEq, Prod.mk.injEq, exists_eq_left, exists_eq_left', exists_eq_right, exists_and_left, reduceCtorEq, and_true, true_and, and_false, false_and, List.getElem?_cons_zero, List.getElem?_cons_succ, List.set_cons_zero, List.set_cons_succ, List.replicate, List.length_cons, List.length_nil, List.cons_append, List.nil_append, Nat.reduceAdd, Nat.reduceSub, decide_eq_true_eq, decide_eq_false_iff_not, Bool.true_eq_false, Bool.false_eq_true, true_implies, false_implies, implies_true, Nat.reduceLT, exists_const, z_vB_inj, and_assoc, z_in_iff, oI2L, oL2I, Int.toNat_natCast, z_toNat0, Bool.not_eq_true', Bool.not_eq_false', ne_eq, Bool.not_true, Bool.not_false, Nat.add_zero, Int.add_zero, z_sl_s]
      repeat (refine And.intro (by omega) ?_)
      refine qS_loop (fun k ρ h' => (∃ T, h' = k_W T ∧ (∀ x, x ≠ 91 → x ≠ 92 → x ≠ 93 → T x = S x) ∧ (∀ x, x < 25 → T 91 x = sQ A n k x) ∧ (∀ x, x < 25 → T 92 x = sQ A n 0 x) ∧ (1 ≤ k → ∀ x, x < 25 → T 93 x = sQ A n k x)) ∧ ρ = [vR 85, vI (a : Int), vI (n : Int), vI (k : Int)]) n ?_ ?_ n 0 z_fuel _ _ (by omega) (z_fuel_lt (by omega)) ⟨⟨T, rfl, fun x h1 h2 _ => t1 x h1 h2, fun x hx => by rw [(t2 x hx).1, q25 x hx], fun x hx => by rw [(t2 x hx).2, q25 x hx], fun h => absurd h (by omega)⟩, rfl⟩
      · rintro k ρ h' hk ⟨⟨T, rfl, t1, t2, t3, -⟩, rfl⟩
        have st := rf_steps (S := T) (n := n) hn.2 (fun x y hx hy => by unfold rA; rw [t2 _ (by omega)]; have := qb k (by omega) (5 * x + y) (by omega); omega) (fun x y hx hy => by unfold rA; rw [t3 _ (by omega)]; have := qb 0 (by omega) (5 * x + y) (by omega); omega)
        have q := qs T k t2 t3
        simp only [st, qS_nop, qS_seq, qS_set, qS_setJ, qS_if, qS_brk, qS_ret, qS_retV, qS_throw, qS_inc, qS_cl, qS_ast, qS_aop, qS_fst, qS_fop, qS_sw, qT_eC, qT_eCB, qT_eL, qT_eLJ, qT_eLR, qT_eLB, qT_e1, qT_e2, qT_bCmp, qT_bCmpJ, qT_bAnd, qT_bOr, qT_bNot, qT_eBI, qT_eIf, qT_eLd, qT_eLdR, qT_eLen, qT_eF, qT_eFR, qT_aN, qT_aS, qT_eCl, qT_eClR, qT_eClB, qT_some, qT_x, z_nx_N, z_nx_B, z_nx_R, z_nx_X, z_bk_N, z_bk_B, z_bk_R, z_bk_X, oAdd, oSub, oMul, oNeg, cLt, cLe, cGt, cGe, cEq, cNe, Option.some.injEq, Sum.inl.injEq, Sum.inr.injEq, Prod.mk.injEq, exists_eq_left, exists_eq_left', exists_eq_right, exists_and_left, reduceCtorEq, and_true, true_and, and_false, false_and, List.getElem?_cons_zero, List.getElem?_cons_succ, List.set_cons_zero, List.set_cons_succ, List.replicate, List.length_cons, List.length_nil, List.cons_append, List.nil_append, Nat.reduceAdd, Nat.reduceSub, decide_eq_true_eq, decide_eq_false_iff_not, Bool.true_eq_false, Bool.false_eq_true, true_implies, false_implies, implies_true, Nat.reduceLT, exists_const, z_vB_inj, and_assoc, z_in_iff, oI2L, oL2I, Int.toNat_natCast, z_toNat0, Bool.not_eq_true', Bool.not_eq_false', ne_eq, Bool.not_true, Bool.not_false, Nat.add_zero, Int.add_zero, z_sl_s]
        repeat (refine And.intro (by omega) ?_)
        refine ⟨⟨_, rfl, fun x h1 h2 h3 => ?_, fun x hx => ?_, fun x hx => ?_, fun _ x hx => ?_⟩, rfl⟩
        · unfold rSt
          rw [k_u_n h1, k_u_n h3]
          exact t1 x h1 h2 h3
        · unfold rSt
          rw [k_u_s, z_to_lt hx, q x hx]
        · unfold rSt
          rw [k_u_n (by decide), k_u_n (by decide)]
          exact t3 x hx
        · unfold rSt
          rw [k_u_n (by decide), k_u_s, z_to_lt hx, q x hx]
      · rintro ρ h' ⟨⟨T, rfl, t1, t2, t3, t4⟩, rfl⟩
        have rb := rf_roundBy (S := T) (n := n) hn.2 (fun k hk => by rw [t2 k hk]; have := qb n (by omega) k hk; omega)
        have t4 := t4 hn.1
        have on := rf_isOutNear (S := T) (fun k hk => by rw [t4 k hk]; have := qb n (by omega) k hk; omega)
        have z1 : z_mn (fun k => T 91 (5 * k + k)) n = z_mn (fun k => sQ A n n (5 * k + k)) n := z_mn_eq (fun k hk => t2 _ (by omega))
        have z2 : (∀ k, k < 25 → ¬ (T 93 k ≠ INF ∧ (T 93 k < -99999 ∨ 99999 < T 93 k))) ↔ (∀ k, k < 25 → ¬ (sQ A n n k ≠ INF ∧ (sQ A n n k < -99999 ∨ 99999 < sQ A n n k))) := ⟨fun q k hk => by rw [← t4 k hk]; exact q k hk, fun q k hk => by rw [t4 k hk]; exact q k hk⟩
        rw [z1] at rb
        rw [z_dec_c _ _ z2] at on
        have zb := z_mn_b (fun k => sQ A n n (5 * k + k)) (-700000) (by decide) n (fun k hk => (qb n (by omega) (5 * k + k) (by omega)).1)
        have zl := z_mn_le (fun k => sQ A n n (5 * k + k)) n
        generalize z_mn (fun k => sQ A n n (5 * k + k)) n = z at *
        generalize (∀ k, k < 25 → ¬ (sQ A n n k ≠ INF ∧ (sQ A n n k < -99999 ∨ 99999 < sQ A n n k))) = P at *
        have fin : ∃ T', k_W T = k_W T' ∧ (∀ x, x ≠ 91 → x ≠ 92 → x ≠ 93 → T' x = S x) ∧ ∀ k, k < 25 → T' 93 k = sQ A n n k := ⟨T, rfl, t1, t4⟩
        generalize (∃ T', k_W T = k_W T' ∧ (∀ x, x ≠ 91 → x ≠ 92 → x ≠ 93 → T' x = S x) ∧ ∀ k, k < 25 → T' 93 k = sQ A n n k) = F at fin ⊢
        simp only [rb, on, qS_nop, qS_seq, qS_set, qS_setJ, qS_if, qS_brk, qS_ret, qS_retV, qS_throw, qS_inc, qS_cl, qS_ast, qS_aop, qS_fst, qS_fop, qS_sw, qT_eC, qT_eCB, qT_eL, qT_eLJ, qT_eLR, qT_eLB, qT_e1, qT_e2, qT_bCmp, qT_bCmpJ, qT_bAnd, qT_bOr, qT_bNot, qT_eBI, qT_eIf, qT_eLd, qT_eLdR, qT_eLen, qT_eF, qT_eFR, qT_aN, qT_aS, qT_eCl, qT_eClR, qT_eClB, qT_some, qT_x, z_nx_N, z_nx_B, z_nx_R, z_nx_X, z_bk_N, z_bk_B, z_bk_R, z_bk_X, oAdd, oSub, oMul, oNeg, cLt, cLe, cGt, cGe, cEq, cNe, Option.some.injEq, Sum.inl.injEq, Sum.inr.injEq, Prod.mk.injEq, exists_eq_left, exists_eq_left', exists_eq_right, exists_and_left, reduceCtorEq, and_true, true_and, and_false, false_and, List.getElem?_cons_zero, List.getElem?_cons_succ, List.set_cons_zero, List.set_cons_succ, List.replicate, List.length_cons, List.length_nil, List.cons_append, List.nil_append, Nat.reduceAdd, Nat.reduceSub, decide_eq_true_eq, decide_eq_false_iff_not, Bool.true_eq_false, Bool.false_eq_true, true_implies, false_implies, implies_true, Nat.reduceLT, exists_const, z_vB_inj, and_assoc, z_in_iff, oI2L, oL2I, Int.toNat_natCast, z_toNat0, Bool.not_eq_true', Bool.not_eq_false', ne_eq, Bool.not_true, Bool.not_false, Nat.add_zero, Int.add_zero, z_sl_s]
        try simp only [List.cons.injEq, Sum.inl.injEq, Sum.inr.injEq, z_vB_inj, and_true, true_and, exists_eq', exists_eq_left, exists_eq_left', exists_eq_right, exists_eq_right', exists_and_left, exists_and_right, exists_const, if_true, if_false, z_vB1, z_vB0, z_vBP, z_bd, decide_eq_true_eq, decide_eq_false_iff_not, Bool.not_eq_true', Bool.false_eq_true, Bool.true_eq_false, z_dec_iff, z_dec_f, z_dec_inj, true_iff, iff_true, false_iff, iff_false, not_true_eq_false, not_false_eq_true, Classical.not_not]
        (try clear rb on)
        (repeat' (first | apply And.intro | intro _)) <;> first | omega | rfl | grind
  obtain ⟨V, r1, T, rfl, r2, r3⟩ := run
  exact ⟨T, r1, r2, r3⟩
theorem op_star (I : kInv S) {p : Int} {t : Int} (hp : kR p) (ht : kR t) : kOp m_X5_star m_X6_star kIO kIS [vI p, vI t] S := by
  have b6 : INF = 1000000 := rfl
  by_cases q0 : 0 ≤ p ∧ p ≤ 3
  rotate_left
  · have c0 := s_nH0 hp q0
    have r0 := rf_one0 hp q0
    refine kOp.x1 (r := vI 0) (S1 := S) (S2 := fun g => k_t (k_u S 103 g) 1) ?_ (fun g => ?_) (fun g => I.t g 1) (fun g => k_t_103) (fun g => k_t_1)
    · unfold m_X5_star
      rw [k_v0]
      apply q_body
      have b6 : INF = 1000000 := rfl
      simp only [b_X5_star, c0, qS_nop, qS_seq, qS_set, qS_setJ, qS_if, qS_brk, qS_ret, qS_retV, qS_throw, qS_inc, qS_cl, qS_ast, qS_aop, qS_fst, qS_fop, qS_sw, qT_eC, qT_eCB, qT_eL, qT_eLJ, qT_eLR, qT_eLB, qT_e1, qT_e2, qT_bCmp, qT_bCmpJ, qT_bAnd, qT_bOr, qT_bNot, qT_eBI, qT_eIf, qT_eLd, qT_eLdR, qT_eLen, qT_eF, qT_eFR, qT_aN, qT_aS, qT_eCl, qT_eClR, qT_eClB, qT_some, qT_x, z_nx_N, z_nx_B, z_nx_R, z_nx_X, z_bk_N, z_bk_B, z_bk_R, z_bk_X, oAdd, oSub, oMul, oNeg, cLt, cLe, cGt, cGe, cEq, cNe, Option.some.injEq, Sum.inl.injEq, Sum.inr.injEq, Prod.mk.injEq, exists_eq_left, exists_eq_left', exists_eq_right, exists_and_left, reduceCtorEq, and_true, true_and, and_false, false_and, List.getElem?_cons_zero, List.getElem?_cons_succ, List.set_cons_zero, List.set_cons_succ, List.replicate, List.length_cons, List.length_nil, List.cons_append, List.nil_append, Nat.reduceAdd, Nat.reduceSub, decide_eq_true_eq, decide_eq_false_iff_not, Bool.true_eq_false, Bool.false_eq_true, true_implies, false_implies, implies_true, Nat.reduceLT, exists_const, z_vB_inj, and_assoc, z_in_iff, oI2L, oL2I, Int.toNat_natCast, z_toNat0, Bool.not_eq_true', Bool.not_eq_false', ne_eq, Bool.not_true, Bool.not_false, Nat.add_zero, Int.add_zero, z_sl_s]
    · unfold m_X6_star
      rw [k_v85]
      apply q_body
      have b6 : INF = 1000000 := rfl
      simp only [b_X6_star, r0, rf_can1, z_vB1, z_vB0, if_true, if_false, not_true_eq_false, not_false_eq_true, k_t_n, k_t_1, exists_eq, k_v85, k_o85, k_r0, k_r1, k_r2, k_r3, k_r4, k_r5, k_r6, k_r7, k_r8, k_r9, k_r10, k_r11, k_r12, k_r13, k_r14, k_r15, k_r16, k_r17, k_r18, k_rl, k_sc, k_st, k_a86, k_s86, k_a87, k_s87, k_a88, k_s88, k_a89, k_s89, k_a90, k_s90, k_a91, k_s91, k_a92, k_s92, k_a93, k_s93, k_a94, k_s94, k_a95, k_s95, k_a96, k_s96, k_a97, k_s97, k_a98, k_s98, k_a99, k_s99, k_a100, k_s100, k_a101, k_s101, k_a102, k_s102, k_u_s, k_u_n, k_u_u, Nat.reduceEqDiff, not_false_eq_true, qS_nop, qS_seq, qS_set, qS_setJ, qS_if, qS_brk, qS_ret, qS_retV, qS_throw, qS_inc, qS_cl, qS_ast, qS_aop, qS_fst, qS_fop, qS_sw, qT_eC, qT_eCB, qT_eL, qT_eLJ, qT_eLR, qT_eLB, qT_e1, qT_e2, qT_bCmp, qT_bCmpJ, qT_bAnd, qT_bOr, qT_bNot, qT_eBI, qT_eIf, qT_eLd, qT_eLdR, qT_eLen, qT_eF, qT_eFR, qT_aN, qT_aS, qT_eCl, qT_eClR, qT_eClB, qT_some, qT_x, z_nx_N, z_nx_B, z_nx_R, z_nx_X, z_bk_N, z_bk_B, z_bk_R, z_bk_X, oAdd, oSub, oMul, oNeg, cLt, cLe, cGt, cGe, cEq, cNe, Option.some.injEq, Sum.inl.injEq, Sum.inr.injEq, Prod.mk.injEq, exists_eq_left, exists_eq_left', exists_eq_right, exists_and_left, reduceCtorEq, and_true, true_and, and_false, false_and, List.getElem?_cons_zero, List.getElem?_cons_succ, List.set_cons_zero, List.set_cons_succ, List.replicate, List.length_cons, List.length_nil, List.cons_append, List.nil_append, Nat.reduceAdd, Nat.reduceSub, decide_eq_true_eq, decide_eq_false_iff_not, Bool.true_eq_false, Bool.false_eq_true, true_implies, false_implies, implies_true, Nat.reduceLT, exists_const, z_vB_inj, and_assoc, z_in_iff, oI2L, oL2I, Int.toNat_natCast, z_toNat0, Bool.not_eq_true', Bool.not_eq_false', ne_eq, Bool.not_true, Bool.not_false, Nat.add_zero, Int.add_zero, z_sl_s]
  by_cases q1 : 0 ≤ t ∧ t ≤ 3
  rotate_left
  · have c0 := s_nH1 (i := p) q0
    have r0 := rf_one1 (i := p) q0
    have c1 := s_nH0 ht q1
    have r1 := rf_one0 ht q1
    refine kOp.x1 (r := vI 0) (S1 := S) (S2 := fun g => k_t (k_u S 103 g) 1) ?_ (fun g => ?_) (fun g => I.t g 1) (fun g => k_t_103) (fun g => k_t_1)
    · unfold m_X5_star
      rw [k_v0]
      apply q_body
      have b6 : INF = 1000000 := rfl
      simp only [b_X5_star, c0, c1, qS_nop, qS_seq, qS_set, qS_setJ, qS_if, qS_brk, qS_ret, qS_retV, qS_throw, qS_inc, qS_cl, qS_ast, qS_aop, qS_fst, qS_fop, qS_sw, qT_eC, qT_eCB, qT_eL, qT_eLJ, qT_eLR, qT_eLB, qT_e1, qT_e2, qT_bCmp, qT_bCmpJ, qT_bAnd, qT_bOr, qT_bNot, qT_eBI, qT_eIf, qT_eLd, qT_eLdR, qT_eLen, qT_eF, qT_eFR, qT_aN, qT_aS, qT_eCl, qT_eClR, qT_eClB, qT_some, qT_x, z_nx_N, z_nx_B, z_nx_R, z_nx_X, z_bk_N, z_bk_B, z_bk_R, z_bk_X, oAdd, oSub, oMul, oNeg, cLt, cLe, cGt, cGe, cEq, cNe, Option.some.injEq, Sum.inl.injEq, Sum.inr.injEq, Prod.mk.injEq, exists_eq_left, exists_eq_left', exists_eq_right, exists_and_left, reduceCtorEq, and_true, true_and, and_false, false_and, List.getElem?_cons_zero, List.getElem?_cons_succ, List.set_cons_zero, List.set_cons_succ, List.replicate, List.length_cons, List.length_nil, List.cons_append, List.nil_append, Nat.reduceAdd, Nat.reduceSub, decide_eq_true_eq, decide_eq_false_iff_not, Bool.true_eq_false, Bool.false_eq_true, true_implies, false_implies, implies_true, Nat.reduceLT, exists_const, z_vB_inj, and_assoc, z_in_iff, oI2L, oL2I, Int.toNat_natCast, z_toNat0, Bool.not_eq_true', Bool.not_eq_false', ne_eq, Bool.not_true, Bool.not_false, Nat.add_zero, Int.add_zero, z_sl_s]
    · unfold m_X6_star
      rw [k_v85]
      apply q_body
      have b6 : INF = 1000000 := rfl
      simp only [b_X6_star, r0, r1, rf_can1, z_vB1, z_vB0, if_true, if_false, not_true_eq_false, not_false_eq_true, k_t_n, k_t_1, exists_eq, k_v85, k_o85, k_r0, k_r1, k_r2, k_r3, k_r4, k_r5, k_r6, k_r7, k_r8, k_r9, k_r10, k_r11, k_r12, k_r13, k_r14, k_r15, k_r16, k_r17, k_r18, k_rl, k_sc, k_st, k_a86, k_s86, k_a87, k_s87, k_a88, k_s88, k_a89, k_s89, k_a90, k_s90, k_a91, k_s91, k_a92, k_s92, k_a93, k_s93, k_a94, k_s94, k_a95, k_s95, k_a96, k_s96, k_a97, k_s97, k_a98, k_s98, k_a99, k_s99, k_a100, k_s100, k_a101, k_s101, k_a102, k_s102, k_u_s, k_u_n, k_u_u, Nat.reduceEqDiff, not_false_eq_true, qS_nop, qS_seq, qS_set, qS_setJ, qS_if, qS_brk, qS_ret, qS_retV, qS_throw, qS_inc, qS_cl, qS_ast, qS_aop, qS_fst, qS_fop, qS_sw, qT_eC, qT_eCB, qT_eL, qT_eLJ, qT_eLR, qT_eLB, qT_e1, qT_e2, qT_bCmp, qT_bCmpJ, qT_bAnd, qT_bOr, qT_bNot, qT_eBI, qT_eIf, qT_eLd, qT_eLdR, qT_eLen, qT_eF, qT_eFR, qT_aN, qT_aS, qT_eCl, qT_eClR, qT_eClB, qT_some, qT_x, z_nx_N, z_nx_B, z_nx_R, z_nx_X, z_bk_N, z_bk_B, z_bk_R, z_bk_X, oAdd, oSub, oMul, oNeg, cLt, cLe, cGt, cGe, cEq, cNe, Option.some.injEq, Sum.inl.injEq, Sum.inr.injEq, Prod.mk.injEq, exists_eq_left, exists_eq_left', exists_eq_right, exists_and_left, reduceCtorEq, and_true, true_and, and_false, false_and, List.getElem?_cons_zero, List.getElem?_cons_succ, List.set_cons_zero, List.set_cons_succ, List.replicate, List.length_cons, List.length_nil, List.cons_append, List.nil_append, Nat.reduceAdd, Nat.reduceSub, decide_eq_true_eq, decide_eq_false_iff_not, Bool.true_eq_false, Bool.false_eq_true, true_implies, false_implies, implies_true, Nat.reduceLT, exists_const, z_vB_inj, and_assoc, z_in_iff, oI2L, oL2I, Int.toNat_natCast, z_toNat0, Bool.not_eq_true', Bool.not_eq_false', ne_eq, Bool.not_true, Bool.not_false, Nat.add_zero, Int.add_zero, z_sl_s]
  have c0 := s_nH1 (i := p) q0
  have r0 := rf_one1 (i := p) q0
  have c1 := s_nH1 (i := t) q1
  have r1 := rf_one1 (i := t) q1
  obtain ⟨i, rfl⟩ : ∃ i : Nat, p = i := ⟨p.toNat, by omega⟩
  have h_i : i < 4 := by omega
  obtain ⟨l, rfl⟩ : ∃ l : Nat, t = l := ⟨t.toNat, by omega⟩
  have h_l : l < 4 := by omega
  obtain ⟨n, nb, n51, n89, nB, nE, nW, nN⟩ := I.mm h_i
  obtain ⟨nt, nbt, n51t, -, -, -, -, -⟩ := I.mm h_l
  have r2 := k_2r h_i
  have hA := wD_ok nW
  obtain ⟨A, hAd⟩ : ∃ A, A = wD (rM S i) := ⟨_, rfl⟩
  rw [← hAd] at hA
  obtain ⟨p30, hp30, e30⟩ := I.2.2.2.2.1
  -- the copy
  obtain ⟨h1, x1, x2, x3⟩ := s_copyM (k_mat30 (S := S) e30) (k_mat (S := S) h_i n51) ⟨by omega, fun x y hx hy => by omega⟩
  have x4 := k_back k_C30 k_C32 (by decide) (by decide) (by decide) x2 x3
  rw [x4] at x1
  obtain ⟨X, hX⟩ : ∃ X, X = k_mt S 30 32 n (fun x y => if x < 5 ∧ y < 5 then kF S (53 + 9 * i) 5 x y else kF S 32 5 x y) := ⟨_, rfl⟩
  rw [← hX] at x1
  have X30 : X 30 0 = (n : Int) := by rw [hX, k_mt_o]
  have Xo : ∀ a, a ≠ 30 → ¬ (32 ≤ a ∧ a < 37) → X a = S a := fun a h1 h2 => by rw [hX, k_mt_n h1 (by omega)]
  have XF : ∀ x y, x < 5 → y < 5 → kF X 32 5 x y = kF S (53 + 9 * i) 5 x y := fun x y hx hy => by
    rw [kF_l hx, hX, k_mt_r (by omega) hx, if_pos ⟨hx, hy⟩]
  have XFb : mBd (kF X 32 5) 1000000000 := fun x y hx hy => by rw [XF x y hx hy]; exact nB x y hx hy
  -- closing
  obtain ⟨M, hM⟩ : ∃ M, M = kF X 32 5 := ⟨_, rfl⟩
  have Mb : mBd M 1000000000 := by rw [hM]; exact XFb
  have Mn : ∀ x y, x < n → y < n → M x y = rM S i x y := fun x y hx hy => by rw [hM, XF x y (by omega) (by omega)]; exact nE x y hx hy
  have DA : eqN n (mDg M n) A := fun x y hx hy => by
    rw [mDg_at, hAd]
    unfold wD
    by_cases c : x = y
    · rw [if_pos ⟨c, hx⟩, if_pos c, Mn x x hx hx]
    · rw [if_neg (fun w => c w.1), if_neg c, Mn x y hx hy]
  have DB : ∀ m, mBd (mDg M m) 1000000000 := fun m x y hx hy => by
    rw [mDg_at]
    have := Mb x x hx hx
    have := Mb x y hx hy
    (repeat' split) <;> omega
  have Dlo : ∀ x y, x < n → y < n → -99999 ≤ mDg M n x y := fun x y hx hy => by
    rw [DA x y hx hy]
    have := hA.1 x y hx hy
    omega
  have p6 : ∀ k, k < n → (6 : Int) ^ k * 99999 ≤ 130000000 ∧ 0 ≤ (6 : Int) ^ k * 99999 := fun k hk => by
    have c : k = 0 ∨ k = 1 ∨ k = 2 ∨ k = 3 ∨ k = 4 := by omega
    rcases c with rfl | rfl | rfl | rfl | rfl <;> decide
  have inb : ∀ k y j, k < n → y < n → j ≤ n → mBd (mJ (mI n (mK n (mDg M n) k) k y) k y j) 1000000000 := fun k y j hk hy hj u v hu hv => by
    have up1 := mJ_le (mI n (mK n (mDg M n) k) k y) k y u v 0 j
    have up2 := mI_le n (mK n (mDg M n) k) k u v 0 y
    have up3 := mK_le n (mDg M n) u v 0 k
    rw [Nat.zero_add] at up1 up2 up3
    have b0 := DB n u v hu hv
    have c1 : mJ (mI n (mK n (mDg M n) k) k y) k y 0 u v = mI n (mK n (mDg M n) k) k y u v := rfl
    have c2 : mI n (mK n (mDg M n) k) k 0 u v = mK n (mDg M n) k u v := rfl
    have c3 : mK n (mDg M n) 0 u v = mDg M n u v := rfl
    refine ⟨?_, by omega⟩
    by_cases c : u < n ∧ v < n
    · have lo := bK (by decide) Dlo k (by omega)
      have w := bIJ hk (p6 k hk).2 lo hy hj u v c.1 c.2
      have := (p6 k hk).1
      omega
    · rw [oJ hy j hj u v c, oI y (by omega) u v c, oK k u v c]
      exact b0.1
  obtain ⟨h2, y1, y2, y3⟩ := s_closeWays (k_mat30 (S := X) X30) nb.2 (fun m _ => by rw [← hM]; exact DB m) (fun k y j hk hy hj => by rw [← hM]; exact inb k y j hk hy hj)
  rw [← hM] at y2
  have y4 := k_back k_C30 k_C32 (by decide) (by decide) (by decide) y2 (y3.mono (fun q hq => Or.inr hq))
  rw [y4] at y1
  obtain ⟨Y, hY⟩ : ∃ Y, Y = k_mt X 30 32 n (mK n (mDg M n) n) := ⟨_, rfl⟩
  rw [← hY] at y1
  have Y30 : Y 30 0 = (n : Int) := by rw [hY, k_mt_o]
  have Yo' : ∀ a, a ≠ 30 → ¬ (32 ≤ a ∧ a < 37) → Y a = S a := fun a h1 h2 => by rw [hY, k_mt_n h1 (by omega), Xo a h1 h2]
  have Yo : ∀ a, ¬ kFree a → ¬ (30 ≤ a ∧ a ≤ 43) → Y a = S a := fun a h1 h2 => Yo' a (by omega) (by omega)
  have YF : ∀ x y, x < 5 → kF Y 32 5 x y = mK n (mDg M n) n x y := fun x y hx => by rw [kF_l hx, hY, k_mt_r (by omega) hx]
  have KA : eqN n (mK n (mDg M n) n) (mK n A n) := DA.K n (Nat.le_refl n)
  have YB : mBd (kF Y 32 5) 1000000000 := fun u v hu hv => by
    rw [YF u v hu]
    obtain ⟨k, rfl⟩ : ∃ k, n = k + 1 := ⟨n - 1, by omega⟩
    exact inb k k (k + 1) (by omega) (by omega) (Nat.le_refl _) u v hu hv
  have k5 : kI5 Y := by
    refine ⟨⟨n, nb.2, Y30⟩, ?_, YB, ?_⟩
    · rw [Yo' 37 (by decide) (by decide)]
      exact I.2.2.2.2.2.1
    · rw [kF_e (S := S) (fun x hx => Yo' _ (by omega) (by omega))]
      exact I.2.2.2.2.2.2.2
  have Y51 : Y (51 + 9 * l) 0 = (nt : Int) := by rw [Yo' _ (by omega) (by omega)]; exact n51t
  have cb := s_comesBack (k_mat30 (S := Y) Y30) nb.2 YB
  have sn := star_neg hA nb.2
  have cbe : (∃ x, x < n ∧ kF Y 32 5 x x < 0) ↔ ¬ (∀ x, x < n → 0 ≤ sP A n n x x) := by
    rw [← sn]
    constructor
    · rintro ⟨x, hx, h⟩
      rw [YF x x (by omega), KA x x hx hx] at h
      exact ⟨x, hx, h⟩
    · rintro ⟨x, hx, h⟩
      exact ⟨x, hx, by rw [YF x x (by omega), KA x x hx hx]; exact h⟩
  rw [z_dec_c _ _ cbe] at cb
  have cs := fun (T : Nat → Nat → Int) (e89 : T 89 = S 89) (e90 : T 90 = S 90) => rf_canStar (S := T) (n := n) h_i nb (by rw [e89]; exact n89) (by rw [rM_u e90]; exact I.mb h_i) (by rw [rM_u e90]; exact nW) (by rw [rM_u e90]; exact nN)
  by_cases Q : ∀ x, x < n → 0 ≤ sP A n n x x
  rotate_left
  · rw [(z_dec_iff _).mpr Q] at cb
    refine ⟨_, Y, (?_ : _ = some (.inr kIS, k_W Y)), fun g => ?_⟩
    · unfold m_X5_star
      rw [k_v0]
      apply q_body
      have b6 : INF = 1000000 := rfl
      simp only [b_X5_star, c0, c1, k_o0, k_a2, r2, x1, y1, cb, kIS, z_vB1, z_vB0, if_true, if_false, not_true_eq_false, not_false_eq_true, k_t_n, k_t_1, exists_eq, qS_nop, qS_seq, qS_set, qS_setJ, qS_if, qS_brk, qS_ret, qS_retV, qS_throw, qS_inc, qS_cl, qS_ast, qS_aop, qS_fst, qS_fop, qS_sw, qT_eC, qT_eCB, qT_eL, qT_eLJ, qT_eLR, qT_eLB, qT_e1, qT_e2, qT_bCmp, qT_bCmpJ, qT_bAnd, qT_bOr, qT_bNot, qT_eBI, qT_eIf, qT_eLd, qT_eLdR, qT_eLen, qT_eF, qT_eFR, qT_aN, qT_aS, qT_eCl, qT_eClR, qT_eClB, qT_some, qT_x, z_nx_N, z_nx_B, z_nx_R, z_nx_X, z_bk_N, z_bk_B, z_bk_R, z_bk_X, oAdd, oSub, oMul, oNeg, cLt, cLe, cGt, cGe, cEq, cNe, Option.some.injEq, Sum.inl.injEq, Sum.inr.injEq, Prod.mk.injEq, exists_eq_left, exists_eq_left', exists_eq_right, exists_and_left, reduceCtorEq, and_true, true_and, and_false, false_and, List.getElem?_cons_zero, List.getElem?_cons_succ, List.set_cons_zero, List.set_cons_succ, List.replicate, List.length_cons, List.length_nil, List.cons_append, List.nil_append, Nat.reduceAdd, Nat.reduceSub, decide_eq_true_eq, decide_eq_false_iff_not, Bool.true_eq_false, Bool.false_eq_true, true_implies, false_implies, implies_true, Nat.reduceLT, exists_const, z_vB_inj, and_assoc, z_in_iff, oI2L, oL2I, Int.toNat_natCast, z_toNat0, Bool.not_eq_true', Bool.not_eq_false', ne_eq, Bool.not_true, Bool.not_false, Nat.add_zero, Int.add_zero, z_sl_s]
      omega
    · have e89 : (k_u Y 103 g) 89 = S 89 := by rw [k_u_n (by decide), Yo' 89 (by decide) (by decide)]
      have e90 : (k_u Y 103 g) 90 = S 90 := by rw [k_u_n (by decide), Yo' 90 (by decide) (by decide)]
      obtain ⟨V, w1, w2, -⟩ := cs (k_u Y 103 g) e89 e90
      rw [rM_u e90, ← hAd, (z_dec_f _).mpr (fun w => Q w.1)] at w1
      refine ⟨vI 0, k_t V 2, ?_, (kInv.d I Yo k5).eq (fun a ha => ?_), ?_, Or.inr (Or.inr ⟨by decide, rfl, k_t_1⟩)⟩
      · unfold m_X6_star
        rw [k_v85]
        apply q_body
        have b6 : INF = 1000000 := rfl
        simp only [b_X6_star, r0, r1, w1, rf_can2, z_vB1, z_vB0, if_true, if_false, not_true_eq_false, not_false_eq_true, k_t_n, k_t_1, exists_eq, qS_nop, qS_seq, qS_set, qS_setJ, qS_if, qS_brk, qS_ret, qS_retV, qS_throw, qS_inc, qS_cl, qS_ast, qS_aop, qS_fst, qS_fop, qS_sw, qT_eC, qT_eCB, qT_eL, qT_eLJ, qT_eLR, qT_eLB, qT_e1, qT_e2, qT_bCmp, qT_bCmpJ, qT_bAnd, qT_bOr, qT_bNot, qT_eBI, qT_eIf, qT_eLd, qT_eLdR, qT_eLen, qT_eF, qT_eFR, qT_aN, qT_aS, qT_eCl, qT_eClR, qT_eClB, qT_some, qT_x, z_nx_N, z_nx_B, z_nx_R, z_nx_X, z_bk_N, z_bk_B, z_bk_R, z_bk_X, oAdd, oSub, oMul, oNeg, cLt, cLe, cGt, cGe, cEq, cNe, Option.some.injEq, Sum.inl.injEq, Sum.inr.injEq, Prod.mk.injEq, exists_eq_left, exists_eq_left', exists_eq_right, exists_and_left, reduceCtorEq, and_true, true_and, and_false, false_and, List.getElem?_cons_zero, List.getElem?_cons_succ, List.set_cons_zero, List.set_cons_succ, List.replicate, List.length_cons, List.length_nil, List.cons_append, List.nil_append, Nat.reduceAdd, Nat.reduceSub, decide_eq_true_eq, decide_eq_false_iff_not, Bool.true_eq_false, Bool.false_eq_true, true_implies, false_implies, implies_true, Nat.reduceLT, exists_const, z_vB_inj, and_assoc, z_in_iff, oI2L, oL2I, Int.toNat_natCast, z_toNat0, Bool.not_eq_true', Bool.not_eq_false', ne_eq, Bool.not_true, Bool.not_false, Nat.add_zero, Int.add_zero, z_sl_s]
      · rw [k_t_n (fun e => ha (by subst e; unfold kFree; omega)), w2 a (fun e => ha (by subst e; unfold kFree; omega)) (fun e => ha (by subst e; unfold kFree; omega)) (fun e => ha (by subst e; unfold kFree; omega)), k_u_n (fun e => ha (by subst e; unfold kFree; omega))]
      · rw [k_t_n (by decide), w2 _ (by decide) (by decide) (by decide), k_u_s]
  rw [(z_dec_f _).mpr (fun w => w Q)] at cb
  have YP : ∀ x y, x < n → y < n → kF Y 32 5 x y = sP A n n x y := fun x y hx hy => by rw [YF x y (by omega), KA x y hx hy, star_eq hA nb.2 Q hx hy]
  have q25 : ∀ k, k < 25 → sQ A n n k = if k / 5 < n ∧ k % 5 < n then kF Y 32 5 (k / 5) (k % 5) else INF := fun k hk => by
    unfold sQ
    by_cases c : k / 5 < n ∧ k % 5 < n
    · rw [if_pos c, if_pos c, YP _ _ c.1 c.2]
    · rw [if_neg c, if_neg c]
  have wi := mWi_25 nb.2 q25
  by_cases L : mWi (kF Y 32 5) n
  rotate_left
  · have kp := s_kp0 (t := l) nb Y30 k5.b L
    refine ⟨_, Y, (?_ : _ = some (.inr kIS, k_W Y)), fun g => ?_⟩
    · unfold m_X5_star
      rw [k_v0]
      apply q_body
      have b6 : INF = 1000000 := rfl
      simp only [b_X5_star, c0, c1, k_o0, k_a2, r2, x1, y1, cb, kp, z_vB1, z_vB0, if_true, if_false, not_true_eq_false, not_false_eq_true, k_t_n, k_t_1, exists_eq, qS_nop, qS_seq, qS_set, qS_setJ, qS_if, qS_brk, qS_ret, qS_retV, qS_throw, qS_inc, qS_cl, qS_ast, qS_aop, qS_fst, qS_fop, qS_sw, qT_eC, qT_eCB, qT_eL, qT_eLJ, qT_eLR, qT_eLB, qT_e1, qT_e2, qT_bCmp, qT_bCmpJ, qT_bAnd, qT_bOr, qT_bNot, qT_eBI, qT_eIf, qT_eLd, qT_eLdR, qT_eLen, qT_eF, qT_eFR, qT_aN, qT_aS, qT_eCl, qT_eClR, qT_eClB, qT_some, qT_x, z_nx_N, z_nx_B, z_nx_R, z_nx_X, z_bk_N, z_bk_B, z_bk_R, z_bk_X, oAdd, oSub, oMul, oNeg, cLt, cLe, cGt, cGe, cEq, cNe, Option.some.injEq, Sum.inl.injEq, Sum.inr.injEq, Prod.mk.injEq, exists_eq_left, exists_eq_left', exists_eq_right, exists_and_left, reduceCtorEq, and_true, true_and, and_false, false_and, List.getElem?_cons_zero, List.getElem?_cons_succ, List.set_cons_zero, List.set_cons_succ, List.replicate, List.length_cons, List.length_nil, List.cons_append, List.nil_append, Nat.reduceAdd, Nat.reduceSub, decide_eq_true_eq, decide_eq_false_iff_not, Bool.true_eq_false, Bool.false_eq_true, true_implies, false_implies, implies_true, Nat.reduceLT, exists_const, z_vB_inj, and_assoc, z_in_iff, oI2L, oL2I, Int.toNat_natCast, z_toNat0, Bool.not_eq_true', Bool.not_eq_false', ne_eq, Bool.not_true, Bool.not_false, Nat.add_zero, Int.add_zero, z_sl_s]
      omega
    · have e89 : (k_u Y 103 g) 89 = S 89 := by rw [k_u_n (by decide), Yo' 89 (by decide) (by decide)]
      have e90 : (k_u Y 103 g) 90 = S 90 := by rw [k_u_n (by decide), Yo' 90 (by decide) (by decide)]
      obtain ⟨V, w1, w2, -⟩ := cs (k_u Y 103 g) e89 e90
      rw [rM_u e90, ← hAd, (z_dec_f _).mpr (fun w => L (wi.mp w.2))] at w1
      refine ⟨vI 0, k_t V 2, ?_, (kInv.d I Yo k5).eq (fun a ha => ?_), ?_, Or.inr (Or.inr ⟨by decide, rfl, k_t_1⟩)⟩
      · unfold m_X6_star
        rw [k_v85]
        apply q_body
        have b6 : INF = 1000000 := rfl
        simp only [b_X6_star, r0, r1, w1, rf_can2, z_vB1, z_vB0, if_true, if_false, not_true_eq_false, not_false_eq_true, k_t_n, k_t_1, exists_eq, qS_nop, qS_seq, qS_set, qS_setJ, qS_if, qS_brk, qS_ret, qS_retV, qS_throw, qS_inc, qS_cl, qS_ast, qS_aop, qS_fst, qS_fop, qS_sw, qT_eC, qT_eCB, qT_eL, qT_eLJ, qT_eLR, qT_eLB, qT_e1, qT_e2, qT_bCmp, qT_bCmpJ, qT_bAnd, qT_bOr, qT_bNot, qT_eBI, qT_eIf, qT_eLd, qT_eLdR, qT_eLen, qT_eF, qT_eFR, qT_aN, qT_aS, qT_eCl, qT_eClR, qT_eClB, qT_some, qT_x, z_nx_N, z_nx_B, z_nx_R, z_nx_X, z_bk_N, z_bk_B, z_bk_R, z_bk_X, oAdd, oSub, oMul, oNeg, cLt, cLe, cGt, cGe, cEq, cNe, Option.some.injEq, Sum.inl.injEq, Sum.inr.injEq, Prod.mk.injEq, exists_eq_left, exists_eq_left', exists_eq_right, exists_and_left, reduceCtorEq, and_true, true_and, and_false, false_and, List.getElem?_cons_zero, List.getElem?_cons_succ, List.set_cons_zero, List.set_cons_succ, List.replicate, List.length_cons, List.length_nil, List.cons_append, List.nil_append, Nat.reduceAdd, Nat.reduceSub, decide_eq_true_eq, decide_eq_false_iff_not, Bool.true_eq_false, Bool.false_eq_true, true_implies, false_implies, implies_true, Nat.reduceLT, exists_const, z_vB_inj, and_assoc, z_in_iff, oI2L, oL2I, Int.toNat_natCast, z_toNat0, Bool.not_eq_true', Bool.not_eq_false', ne_eq, Bool.not_true, Bool.not_false, Nat.add_zero, Int.add_zero, z_sl_s]
      · rw [k_t_n (fun e => ha (by subst e; unfold kFree; omega)), w2 a (fun e => ha (by subst e; unfold kFree; omega)) (fun e => ha (by subst e; unfold kFree; omega)) (fun e => ha (by subst e; unfold kFree; omega)), k_u_n (fun e => ha (by subst e; unfold kFree; omega))]
      · rw [k_t_n (by decide), w2 _ (by decide) (by decide) (by decide), k_u_s]
  have kp := s_kp1 (t := l) h_l nb Y51 Y30 k5.b L
  refine ⟨_, kKp Y l n, (?_ : _ = some (.inl (some (vI (mC (kF Y 32 5) n n))), k_W (kKp Y l n))), fun g => ?_⟩
  · unfold m_X5_star
    rw [k_v0]
    apply q_body
    have b6 : INF = 1000000 := rfl
    simp only [b_X5_star, c0, c1, k_o0, k_a2, r2, x1, y1, cb, kp, z_vB1, z_vB0, if_true, if_false, not_true_eq_false, not_false_eq_true, k_t_n, k_t_1, exists_eq, qS_nop, qS_seq, qS_set, qS_setJ, qS_if, qS_brk, qS_ret, qS_retV, qS_throw, qS_inc, qS_cl, qS_ast, qS_aop, qS_fst, qS_fop, qS_sw, qT_eC, qT_eCB, qT_eL, qT_eLJ, qT_eLR, qT_eLB, qT_e1, qT_e2, qT_bCmp, qT_bCmpJ, qT_bAnd, qT_bOr, qT_bNot, qT_eBI, qT_eIf, qT_eLd, qT_eLdR, qT_eLen, qT_eF, qT_eFR, qT_aN, qT_aS, qT_eCl, qT_eClR, qT_eClB, qT_some, qT_x, z_nx_N, z_nx_B, z_nx_R, z_nx_X, z_bk_N, z_bk_B, z_bk_R, z_bk_X, oAdd, oSub, oMul, oNeg, cLt, cLe, cGt, cGe, cEq, cNe, Option.some.injEq, Sum.inl.injEq, Sum.inr.injEq, Prod.mk.injEq, exists_eq_left, exists_eq_left', exists_eq_right, exists_and_left, reduceCtorEq, and_true, true_and, and_false, false_and, List.getElem?_cons_zero, List.getElem?_cons_succ, List.set_cons_zero, List.set_cons_succ, List.replicate, List.length_cons, List.length_nil, List.cons_append, List.nil_append, Nat.reduceAdd, Nat.reduceSub, decide_eq_true_eq, decide_eq_false_iff_not, Bool.true_eq_false, Bool.false_eq_true, true_implies, false_implies, implies_true, Nat.reduceLT, exists_const, z_vB_inj, and_assoc, z_in_iff, oI2L, oL2I, Int.toNat_natCast, z_toNat0, Bool.not_eq_true', Bool.not_eq_false', ne_eq, Bool.not_true, Bool.not_false, Nat.add_zero, Int.add_zero, z_sl_s]
    omega
  · have Z : ∀ a, 85 ≤ a → a ≠ 103 → k_u (kKp Y l n) 103 g a = S a := fun a h1 h2 => by
      rw [k_u_n h2]
      unfold kKp
      rw [k_mt_n (by omega) (by omega), Yo' a (by omega) (by omega)]
    have e89 := Z 89 (by decide) (by decide)
    have e90 := Z 90 (by decide) (by decide)
    obtain ⟨V, w1, w2, w3⟩ := cs (k_u (kKp Y l n) 103 g) e89 e90
    rw [rM_u e90, ← hAd] at w1 w3
    rw [(z_dec_iff _).mpr ⟨Q, wi.mpr L⟩] at w1
    have V93 : ∀ k, k < 25 → k_t V 0 93 k = if k / 5 < n ∧ k % 5 < n then kF Y 32 5 (k / 5) (k % 5) else INF := fun k hk => by
      rw [k_t_n (by decide), w3 k hk, q25 k hk]
    have rk := rf_keep (V := k_t V 0) h_l nb L V93
    have v89 : V 89 i = (n : Int) := by rw [w2 _ (by decide) (by decide) (by decide), e89]; exact n89
    refine ⟨vI (mC (kF Y 32 5) n n), kKr (k_t V 0) l n, ?_, I.keep h_l nb Yo k5 L (fun a ha => ?_) V93, ?_, Or.inl ⟨rfl, ?_⟩⟩
    · unfold m_X6_star
      rw [k_v85]
      apply q_body
      have b6 : INF = 1000000 := rfl
      simp only [b_X6_star, r0, r1, w1, rf_can0, v89, rk, z_vB1, z_vB0, if_true, if_false, not_true_eq_false, not_false_eq_true, k_t_n, k_t_1, exists_eq, k_v85, k_o85, k_r0, k_r1, k_r2, k_r3, k_r4, k_r5, k_r6, k_r7, k_r8, k_r9, k_r10, k_r11, k_r12, k_r13, k_r14, k_r15, k_r16, k_r17, k_r18, k_rl, k_sc, k_st, k_a86, k_s86, k_a87, k_s87, k_a88, k_s88, k_a89, k_s89, k_a90, k_s90, k_a91, k_s91, k_a92, k_s92, k_a93, k_s93, k_a94, k_s94, k_a95, k_s95, k_a96, k_s96, k_a97, k_s97, k_a98, k_s98, k_a99, k_s99, k_a100, k_s100, k_a101, k_s101, k_a102, k_s102, k_u_s, k_u_n, k_u_u, Nat.reduceEqDiff, not_false_eq_true, qS_nop, qS_seq, qS_set, qS_setJ, qS_if, qS_brk, qS_ret, qS_retV, qS_throw, qS_inc, qS_cl, qS_ast, qS_aop, qS_fst, qS_fop, qS_sw, qT_eC, qT_eCB, qT_eL, qT_eLJ, qT_eLR, qT_eLB, qT_e1, qT_e2, qT_bCmp, qT_bCmpJ, qT_bAnd, qT_bOr, qT_bNot, qT_eBI, qT_eIf, qT_eLd, qT_eLdR, qT_eLen, qT_eF, qT_eFR, qT_aN, qT_aS, qT_eCl, qT_eClR, qT_eClB, qT_some, qT_x, z_nx_N, z_nx_B, z_nx_R, z_nx_X, z_bk_N, z_bk_B, z_bk_R, z_bk_X, oAdd, oSub, oMul, oNeg, cLt, cLe, cGt, cGe, cEq, cNe, Option.some.injEq, Sum.inl.injEq, Sum.inr.injEq, Prod.mk.injEq, exists_eq_left, exists_eq_left', exists_eq_right, exists_and_left, reduceCtorEq, and_true, true_and, and_false, false_and, List.getElem?_cons_zero, List.getElem?_cons_succ, List.set_cons_zero, List.set_cons_succ, List.replicate, List.length_cons, List.length_nil, List.cons_append, List.nil_append, Nat.reduceAdd, Nat.reduceSub, decide_eq_true_eq, decide_eq_false_iff_not, Bool.true_eq_false, Bool.false_eq_true, true_implies, false_implies, implies_true, Nat.reduceLT, exists_const, z_vB_inj, and_assoc, z_in_iff, oI2L, oL2I, Int.toNat_natCast, z_toNat0, Bool.not_eq_true', Bool.not_eq_false', ne_eq, Bool.not_true, Bool.not_false, Nat.add_zero, Int.add_zero, z_sl_s]
      omega
    · rw [k_t_n (fun e => ha (by subst e; unfold kFree; omega)), w2 a (fun e => ha (by subst e; unfold kFree; omega)) (fun e => ha (by subst e; unfold kFree; omega)) (fun e => ha (by subst e; unfold kFree; omega)), k_u_n (fun e => ha (by subst e; unfold kFree; omega))]
    · unfold kKr
      rw [k_u_n (by decide), k_u_n (by decide), k_t_n (by decide), w2 _ (by decide) (by decide) (by decide), k_u_s]
    · unfold kKr
      rw [k_u_n (by decide), k_u_n (by decide), k_t_1]
end FSt
