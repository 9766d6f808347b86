/-! THE FACE: what both keep of a made matrix -/
section FK
variable {S X V : Nat → Nat → Int}
theorem mC_cg {A B : Nat → Nat → Int} {n : Nat} (h : ∀ i j, i < n → j < n → A i j = B i j) : ∀ i, i ≤ n → mC A n i = mC B n i
  | 0, _ => rfl
  | i + 1, hi => by
    rw [mC, mC, mC_cg h i (by omega)]
    congr 1
    exact z_cnt_cg n (fun j hj => by rw [h i j (by omega) hj])
theorem mC_row {f : Nat → Int} {R : Nat → Nat → Int} {n : Nat} (hn : n ≤ 5) (h : ∀ k, k < 25 → f k = if k / 5 < n ∧ k % 5 < n then R (k / 5) (k % 5) else INF) {i : Nat} (hi : i < 5) : ∀ j, j ≤ 5 → z_cnt (fun j => !decide (f (5 * i + j) = INF)) j = if i < n then z_cnt (fun j => z_dec (R i j ≠ INF)) (if j ≤ n then j else n) else 0
  | 0, _ => by simp [z_cnt]
  | j + 1, hj => by
    have e := h (5 * i + j) (by omega)
    rw [show (5 * i + j) / 5 = i by omega, show (5 * i + j) % 5 = j by omega] at e
    rw [z_cnt, mC_row hn h hi j (by omega), e]
    by_cases c : i < n
    · simp only [c, if_true, true_and]
      by_cases d : j < n
      · have e1 : (if j ≤ n then j else n) = j := if_pos (by omega)
        have e2 : (if j + 1 ≤ n then j + 1 else n) = j + 1 := if_pos (by omega)
        rw [if_pos d, e1, e2, z_cnt, z_ne]
      · rw [if_neg d]
        have t : (if j ≤ n then j else n) = if j + 1 ≤ n then j + 1 else n := by
          by_cases q : j = n
          · rw [if_pos (by omega), if_neg (by omega), q]
          · rw [if_neg (by omega), if_neg (by omega)]
        rw [t]
        simp
    · simp [c]
theorem z_cnt_add (p : Nat → Bool) (a : Nat) : ∀ b, z_cnt p (a + b) = z_cnt p a + z_cnt (fun j => p (a + j)) b
  | 0 => by simp [z_cnt]
  | b + 1 => by
    rw [← Nat.add_assoc, z_cnt, z_cnt_add p a b, z_cnt, Int.add_assoc]
theorem mC_25 {f : Nat → Int} {R : Nat → Nat → Int} {n : Nat} (hn : n ≤ 5) (h : ∀ k, k < 25 → f k = if k / 5 < n ∧ k % 5 < n then R (k / 5) (k % 5) else INF) : z_cnt (fun k => !decide (f k = INF)) 25 = mC R n n := by
  have key : ∀ i, i ≤ 5 → z_cnt (fun k => !decide (f k = INF)) (5 * i) = mC R n (if i ≤ n then i else n) := by
    intro i
    induction i with
    | zero => intro _; simp [z_cnt, mC]
    | succ i ih =>
      intro hi
      rw [Nat.mul_succ, z_cnt_add, ih (by omega), mC_row hn h (i := i) (by omega) 5 (by omega)]
      by_cases c : i < n
      · have e1 : (if i ≤ n then i else n) = i := if_pos (by omega)
        have e2 : (if i + 1 ≤ n then i + 1 else n) = i + 1 := if_pos (by omega)
        have e3 : (if 5 ≤ n then 5 else n) = n := by split <;> omega
        rw [e1, e2, if_pos c, e3, mC]
      · rw [if_neg c, Int.add_zero]
        congr 1
        (repeat' split) <;> omega
  have w := key 5 (by omega)
  rw [show (if 5 ≤ n then 5 else n) = n by split <;> omega] at w
  exact w
theorem kI5.b (k : kI5 X) : mBd (kF X 32 5) 1000000000 := k.2.2.1
/-- the class keeps what is made -/
def kKp (X : Nat → Nat → Int) (t n : Nat) : Nat → Nat → Int := k_mt X (51 + 9 * t) (53 + 9 * t) n (fun i j => if i < 5 ∧ j < 5 then kF X 32 5 i j else kF X (53 + 9 * t) 5 i j)
theorem s_kp1 {t n nt : Nat} (ht : t < 4) (hn : 1 ≤ n ∧ n ≤ 5) (et : X (51 + 9 * t) 0 = (nt : Int)) (e30 : X 30 0 = (n : Int)) (hb : mBd (kF X 32 5) 1000000000) (hw : mWi (kF X 32 5) n) : m_X5_keepMatrixDraft [vR 0, vI (t : Int)] (k_W X) = some (.inl (some (vI (mC (kF X 32 5) n n))), k_W (kKp X t n)) := by
  have b6 : INF = 1000000 := rfl
  have a30 := k_mat30 (S := X) e30
  have w1 := s_isWithinM a30 hn.2 hb
  rw [(z_dec_iff _).mpr hw] at w1
  obtain ⟨h', x1, x2, x3⟩ := s_copyM (k_mat (S := X) ht et) a30 ⟨by omega, fun i j hi hj => by omega⟩
  have x4 := k_back (k_mC ht) (fun j hj f => k_rC ht hj f) (by omega) (by omega) (by omega) x2 x3
  rw [x4] at x1
  have x5 := s_countNumbers x2 hn.2 (fun i j hi hj => by simp only [hi, hj, and_self, if_true]; exact hb i j hi hj)
  rw [mC_cg (B := kF X 32 5) (fun i j hi hj => by rw [if_pos ⟨by omega, by omega⟩]) n (Nat.le_refl n), x4] at x5
  have r2 := k_2r ht
  unfold kKp
  unfold m_X5_keepMatrixDraft
  rw [k_v0]
  apply q_body
  have b6 : INF = 1000000 := rfl
  simp only [b_X5_keepMatrixDraft, k_o0, k_a2, r2, w1, x1, x5, z_vB1, z_vB0, if_true, if_false, not_true_eq_false, not_false_eq_true, k_t_n, k_t_1, exists_eq, qS_nop, qS_seq, qS_set, qS_setJ, qS_if, qS_brk, qS_ret, qS_retV, qS_throw, qS_inc, qS_cl, qS_ast, qS_aop, qS_fst, qS_fop, qS_sw, qT_eC, qT_eCB, qT_eL, qT_eLJ, qT_eLR, qT_eLB, qT_e1, qT_e2, qT_bCmp, qT_bCmpJ, qT_bAnd, qT_bOr, qT_bNot, qT_eBI, qT_eIf, qT_eLd, qT_eLdR, qT_eLen, qT_eF, qT_eFR, qT_aN, qT_aS, qT_eCl, qT_eClR, qT_eClB, qT_some, qT_x, z_nx_N, z_nx_B, z_nx_R, z_nx_X, z_bk_N, z_bk_B, z_bk_R, z_bk_X, oAdd, oSub, oMul, oNeg, cLt, cLe, cGt, cGe, cEq, cNe, Option.some.injEq, Sum.inl.injEq, Sum.inr.injEq, Prod.mk.injEq, exists_eq_left, exists_eq_left', exists_eq_right, exists_and_left, reduceCtorEq, and_true, true_and, and_false, false_and, List.getElem?_cons_zero, List.getElem?_cons_succ, List.set_cons_zero, List.set_cons_succ, List.replicate, List.length_cons, List.length_nil, List.cons_append, List.nil_append, Nat.reduceAdd, Nat.reduceSub, decide_eq_true_eq, decide_eq_false_iff_not, Bool.true_eq_false, Bool.false_eq_true, true_implies, false_implies, implies_true, Nat.reduceLT, exists_const, z_vB_inj, and_assoc, z_in_iff, oI2L, oL2I, Int.toNat_natCast, z_toNat0, Bool.not_eq_true', Bool.not_eq_false', ne_eq, Bool.not_true, Bool.not_false, Nat.add_zero, Int.add_zero, z_sl_s]
  omega
theorem s_kp0 {t n : Nat} (hn : 1 ≤ n ∧ n ≤ 5) (e30 : X 30 0 = (n : Int)) (hb : mBd (kF X 32 5) 1000000000) (hw : ¬ mWi (kF X 32 5) n) : m_X5_keepMatrixDraft [vR 0, vI (t : Int)] (k_W X) = some (.inr kIS, k_W X) := by
  have b6 : INF = 1000000 := rfl
  have a30 := k_mat30 (S := X) e30
  have w1 := s_isWithinM a30 hn.2 hb
  rw [(z_dec_f _).mpr hw] at w1
  unfold m_X5_keepMatrixDraft
  rw [k_v0]
  apply q_body
  have b6 : INF = 1000000 := rfl
  simp only [b_X5_keepMatrixDraft, k_o0, w1, kIS, z_vB1, z_vB0, if_true, if_false, not_true_eq_false, not_false_eq_true, k_t_n, k_t_1, exists_eq, qS_nop, qS_seq, qS_set, qS_setJ, qS_if, qS_brk, qS_ret, qS_retV, qS_throw, qS_inc, qS_cl, qS_ast, qS_aop, qS_fst, qS_fop, qS_sw, qT_eC, qT_eCB, qT_eL, qT_eLJ, qT_eLR, qT_eLB, qT_e1, qT_e2, qT_bCmp, qT_bCmpJ, qT_bAnd, qT_bOr, qT_bNot, qT_eBI, qT_eIf, qT_eLd, qT_eLdR, qT_eLen, qT_eF, qT_eFR, qT_aN, qT_aS, qT_eCl, qT_eClR, qT_eClB, qT_some, qT_x, z_nx_N, z_nx_B, z_nx_R, z_nx_X, z_bk_N, z_bk_B, z_bk_R, z_bk_X, oAdd, oSub, oMul, oNeg, cLt, cLe, cGt, cGe, cEq, cNe, Option.some.injEq, Sum.inl.injEq, Sum.inr.injEq, Prod.mk.injEq, exists_eq_left, exists_eq_left', exists_eq_right, exists_and_left, reduceCtorEq, and_true, true_and, and_false, false_and, List.getElem?_cons_zero, List.getElem?_cons_succ, List.set_cons_zero, List.set_cons_succ, List.replicate, List.length_cons, List.length_nil, List.cons_append, List.nil_append, Nat.reduceAdd, Nat.reduceSub, decide_eq_true_eq, decide_eq_false_iff_not, Bool.true_eq_false, Bool.false_eq_true, true_implies, false_implies, implies_true, Nat.reduceLT, exists_const, z_vB_inj, and_assoc, z_in_iff, oI2L, oL2I, Int.toNat_natCast, z_toNat0, Bool.not_eq_true', Bool.not_eq_false', ne_eq, Bool.not_true, Bool.not_false, Nat.add_zero, Int.add_zero, z_sl_s]
/-- what holds when both have kept it -/
def kKr (V : Nat → Nat → Int) (t n : Nat) : Nat → Nat → Int := k_u (k_u V 89 (z_up (V 89) t (n : Int))) 90 (z_at (25 * t) 25 (V 93) (V 90))
theorem kInv.keep (I : kInv S) {t n : Nat} (ht : t < 4) (hn : 1 ≤ n ∧ n ≤ 5) (Xo : ∀ a, ¬ kFree a → ¬ (30 ≤ a ∧ a ≤ 43) → X a = S a) (k5 : kI5 X) (hw : mWi (kF X 32 5) n) (hV : ∀ a, ¬ kFree a → V a = kKp X t n a) (h93 : ∀ k, k < 25 → V 93 k = if k / 5 < n ∧ k % 5 < n then kF X 32 5 (k / 5) (k % 5) else INF) : kInv (kKr V t n) := by
  have b6 : INF = 1000000 := rfl
  have z9 : ∀ c, ¬ kFree c → c ≠ 89 → c ≠ 90 → kKr V t n c = kKp X t n c := fun c h1 h2 h3 => by
    unfold kKr
    rw [k_u_n h3, k_u_n h2, hV c h1]
  have v89 : V 89 = S 89 := by
    rw [hV 89 (by unfold kFree; omega)]
    unfold kKp
    rw [k_mt_n (by omega) (by omega), Xo 89 (by unfold kFree; omega) (by omega)]
  have v90 : V 90 = S 90 := by
    rw [hV 90 (by unfold kFree; omega)]
    unfold kKp
    rw [k_mt_n (by omega) (by omega), Xo 90 (by unfold kFree; omega) (by omega)]
  have z1 : ∀ x y, x < 5 → y < 5 → rM (kKr V t n) t x y = if x < n ∧ y < n then kF X 32 5 x y else INF := fun x y hx hy => by
    unfold rM kKr
    rw [k_u_s]
    unfold z_at
    rw [if_pos (by omega), show 25 * t + 5 * x + y - 25 * t = 5 * x + y by omega, h93 _ (by omega), show (5 * x + y) / 5 = x by omega, show (5 * x + y) % 5 = y by omega]
  have z2 : ∀ x y, x < 5 → y < 5 → kKr V t n (53 + 9 * t + x) y = kF X 32 5 x y := fun x y hx hy => by
    rw [z9 _ (by unfold kFree; omega) (by omega) (by omega)]
    unfold kKp
    rw [k_mt_r (by omega) hx, if_pos ⟨hx, hy⟩]
  refine I.m ht ⟨n, hn.1, hn.2, ?_, ?_, fun x y hx hy => ?_, fun x y hx hy => ?_, fun x y hx hy hn => ?_⟩ ?_ (fun c h1 h2 h3 h4 h5 => ?_) (fun j hj => ?_) (fun x hx => ?_)
  · rw [z9 _ (by unfold kFree; omega) (by omega) (by omega)]
    unfold kKp
    rw [k_mt_o]
  · unfold kKr
    rw [k_u_n (by decide), k_u_s]
    simp [z_up]
  · rw [kF_l hx, z2 x y hx hy]
    exact k5.b x y hx hy
  · rw [z1 x y (by omega) (by omega), z2 x y (by omega) (by omega), if_pos ⟨hx, hy⟩]
    exact ⟨rfl, hw x y hx hy⟩
  · rw [z1 x y hx hy, if_neg hn]
  · have t0 : ∀ a, (30 ≤ a ∧ a ≤ 43) → kKr V t n a = X a ∨ kFree a := fun a ha => by
      by_cases f : kFree a
      · exact Or.inr f
      · refine Or.inl ?_
        rw [z9 a f (by omega) (by omega)]
        unfold kKp
        rw [k_mt_n (by omega) (by omega)]
    have t1 : ∀ a, (30 ≤ a ∧ a ≤ 43) → kKr V t n a = X a := fun a ha => (t0 a ha).resolve_right (by unfold kFree; omega)
    exact k5.eq (t1 _ (by omega)) (t1 _ (by omega)) (fun x hx => t1 _ (by omega)) (fun x hx => t1 _ (by omega))
  · rw [z9 c h1 h2 h3]
    unfold kKp
    rw [k_mt_n (by omega) (by omega), Xo c h1 h5]
  · unfold kKr
    rw [k_u_n (by decide), k_u_s]
    unfold z_up
    rw [if_neg hj, v89]
  · unfold kKr
    rw [k_u_s]
    unfold z_at
    rw [if_neg (by omega), v90]
theorem rf_keep {t n : Nat} {R : Nat → Nat → Int} (ht : t < 4) (hn : 1 ≤ n ∧ n ≤ 5) (hR : mWi R n) (h93 : ∀ k, k < 25 → V 93 k = if k / 5 < n ∧ k % 5 < n then R (k / 5) (k % 5) else INF) : m_X6_laysOut [vR 85, vI (t : Int), vI (n : Int)] (k_W V) = some (.inl (some (vI (mC R n n))), k_W (kKr V t n)) := by
  have b6 : INF = 1000000 := rfl
  have w := rf_laysOut (S := V) (n := n) ht (fun k hk => by
    rw [h93 k hk]
    split
    · next q => have := hR _ _ q.1 q.2; omega
    · omega)
  rw [mC_25 hn.2 h93] at w
  exact w
end FK
