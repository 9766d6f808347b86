/-! THE FACE: project -/
section FPj
variable {S : Nat → Nat → Int}
theorem mSh_b2 {M : Nat → Nat → Int} {V : Nat → Int} {r : Nat} : ∀ k, (∀ i, i < k + 1 → -99999 ≤ M r i ∧ M r i ≤ 99999) → (∀ i, i < k + 1 → -99999 ≤ V i ∧ V i ≤ 99999) → -199998 ≤ mSh M V r k ∧ mSh M V r k ≤ 199998
  | 0, hM, hV => by
    have b1 := hM 0 (by omega)
    have b2 := hV 0 (by omega)
    simp only [mSh]
    omega
  | k + 1, hM, hV => by
    have ih := mSh_b2 k (fun i hi => hM i (by omega)) (fun i hi => hV i (by omega))
    have b1 := hM (k + 1) (by omega)
    have b2 := hV (k + 1) (by omega)
    unfold mSh
    split <;> omega
theorem mPr_b2 {M : Nat → Nat → Int} {V : Nat → Int} {n i : Nat} (hn : 1 ≤ n) (hi : i < n) (hM : ∀ x y, x < n → y < n → -99999 ≤ M x y ∧ M x y ≤ 99999) (hV : ∀ i, i < n → -99999 ≤ V i ∧ V i ≤ 99999) : ∀ x, x ≤ n → -299997 ≤ mPr M V n i x ∧ mPr M V n i x ≤ 299997
  | 0, _ => by simp [mPr]
  | x + 1, hx => by
    have ih := mPr_b2 hn hi hM hV x (by omega)
    have b1 := hM x i (by omega) hi
    have b2 := mSh_b2 (M := M) (V := V) (r := x) (n - 1) (fun i hi => hM x i (by omega) (by omega)) (fun i hi => hV i (by omega))
    unfold mPr
    (repeat' split) <;> omega
theorem mSh_cg {M N : Nat → Nat → Int} {V W : Nat → Int} {r : Nat} : ∀ k, (∀ i, i < k + 1 → M r i = N r i ∧ V i = W i) → mSh M V r k = mSh N W r k
  | 0, h => by
    simp only [mSh]
    rw [(h 0 (by omega)).1, (h 0 (by omega)).2]
  | k + 1, h => by
    rw [mSh, mSh, mSh_cg k (fun i hi => h i (by omega)), (h (k + 1) (by omega)).1, (h (k + 1) (by omega)).2]
theorem mPr_cg {M N : Nat → Nat → Int} {V W : Nat → Int} {n i : Nat} (hn : 1 ≤ n) (hi : i < n) (h : ∀ x y, x < n → y < n → M x y = N x y) (hv : ∀ y, y < n → V y = W y) : ∀ x, x ≤ n → mPr M V n i x = mPr N W n i x
  | 0, _ => rfl
  | x + 1, hx => by
    rw [mPr, mPr, mPr_cg hn hi h hv x (by omega), mSh_cg (n - 1) (fun y hy => ⟨h x y (by omega) (by omega), hv y (by omega)⟩), h x i (by omega) hi]
/-- a row of the reference's projection -/
def rPj (M : Nat → Nat → Int) (V : Nat → Int) (n r k : Nat) : Int := if r = 0 then INF else mPr M V n k r
theorem qS_loop0 {b : z_Ev Bool} {s u : z_St} {Q : z_Oc → z_Hp → Prop} {ρ : List z_V} {h : z_Hp} (he : qT (b ρ h) (fun v h => v = false ∧ Q (oN ρ) h) (fun E h => Q (oX E) h)) : qS (sLoop b s u z_fuel) ρ h Q :=
  qS_loop (fun _ ρ' h' => ρ' = ρ ∧ h' = h) 0 (fun k _ _ hk _ => absurd hk (Nat.not_lt_zero k)) (fun ρ' h' e => by obtain ⟨rfl, rfl⟩ := e; exact he) 0 0 z_fuel ρ h rfl (z_fuel_lt (by omega)) ⟨rfl, rfl⟩
theorem z_to_z (n : Nat) (f f' g : Nat → Int) : z_to n f (z_to n f' g) = z_to n f g := by
  funext i
  unfold z_to
  split <;> rfl
theorem rf_canProject {m v n : Nat} (hm : m < 4) (hv : v < 4) (hn : 1 ≤ n ∧ n ≤ 5) (h89 : S 89 m = (n : Int)) (hM : mBd (rM S m) 100000) (hW : mWi (rM S m) n) (hV : ∀ k, k < 5 → rV S v k = INF ∨ (-99999 ≤ rV S v k ∧ rV S v k ≤ 99999)) :
    ∃ g, m_X6_canProject [vR 85, vI (m : Int), vI (v : Int)] (k_W S) = some (.inl (some (vB (z_dec (((∀ k, k < n → rV S v k ≠ INF) ∧ ∀ k, k < n * n → rM S m (k / n) (k % n) ≠ INF) ∧ ∀ k, k < n → ¬ (mPr (rM S m) (rV S v) n k n ≠ INF ∧ (mPr (rM S m) (rV S v) n k n < -99999 ∨ 99999 < mPr (rM S m) (rV S v) n k n)))))), k_W (k_u S 95 g)) ∧ (((∀ k, k < n → rV S v k ≠ INF) ∧ ∀ k, k < n * n → rM S m (k / n) (k % n) ≠ INF) → ∀ k, k < n → g k = mPr (rM S m) (rV S v) n k n) := by
  have b6 : INF = 1000000 := rfl
  have vb : vBd (rV S v) 1000000000 := fun i hi => by have := hV i hi; omega
  have e0 := rf_areNumbers (S := S) hv (n := n) hn.2 vb
  obtain ⟨N, hN⟩ : ∃ N, N = n * n := ⟨_, rfl⟩
  have hNi : (n : Int) * (n : Int) = (N : Int) := by rw [hN]; rfl
  have hN25 : N ≤ 25 := by rw [hN]; exact Nat.mul_le_mul hn.2 hn.2
  rw [← hN]
  have hMu : ∀ g, rM (k_u S 95 g) m = rM S m := fun g => by unfold rM; rw [k_u_n (by decide)]
  have hVu : ∀ g, rV (k_u S 95 g) v = rV S v := fun g => by unfold rV; rw [k_u_n (by decide)]
  obtain ⟨A, hA⟩ : ∃ A : Prop, A = ∀ k, k < n → rV S v k ≠ INF := ⟨_, rfl⟩
  rw [← hA] at e0 ⊢
  obtain ⟨M, hMM⟩ : ∃ M, M = rM S m := ⟨_, rfl⟩
  obtain ⟨V, hVV⟩ : ∃ V, V = rV S v := ⟨_, rfl⟩
  rw [← hMM] at hM hW ⊢
  rw [← hVV] at hV hA ⊢
  have loop1 : ∀ (Q : z_Oc → z_Hp → Prop) (b c d : z_V), (∀ e, Q (oN [vR 85, vI (m : Int), vI (v : Int), vI (n : Int), vB (z_dec (A ∧ ∀ k, k < N → M (k / n) (k % n) ≠ INF)), e, b, c, d]) (k_W S)) → qS (sLoop (bCmp cLt (eL 5) (e2 oMul (eL 3) (eL 3))) (sSet vB 4 (bAnd (eLB 4) (bCmp cNe (eCl (m_X6_in) (aS vI (aS vI (aS vI (aS vR (aN) (eLR 0)) (eL 1)) (e2 oDiv (eL 5) (eL 3))) (e2 oRem (eL 5) (eL 3)))) (eC 1000000)))) (sInc 5 (1)) z_fuel) [vR 85, vI (m : Int), vI (v : Int), vI (n : Int), vB (z_dec A), vI 0, b, c, d] (k_W S) Q := by
    intro Q b c d hQ
    refine qS_loop (fun k ρ h' => h' = k_W S ∧ ρ = [vR 85, vI (m : Int), vI (v : Int), vI (n : Int), vB (z_dec (A ∧ ∀ x, x < k → M (x / n) (x % n) ≠ INF)), vI (k : Int), b, c, d]) N ?_ ?_ N 0 z_fuel _ _ (by omega) (z_fuel_lt (by omega)) ⟨rfl, by rw [z_fa_0, and_true]; rfl⟩
    · rintro k ρ h' hk ⟨rfl, rfl⟩
      have d1 : k / n < n := Nat.div_lt_of_lt_mul (by rw [← hN]; exact hk)
      have d2 : k % n < n := Nat.mod_lt _ (by omega)
      have e1 := rf_in (S := S) (m := m) (i := k / n) (j := k % n) hm (by omega) (by omega)
      have e2 := z_dv (k := k) (m := n) (by omega) (by omega) (by omega)
      have e3 := z_rm (k := k) (m := n) (by omega) (by omega) (by omega)
      have b1 := hM (k / n) (k % n) (by omega) (by omega)
      rw [← hMM] at e1
      rw [z_fa_s]
      generalize (∀ x, x < k → M (x / n) (x % n) ≠ INF) = P
      generalize M (k / n) (k % n) = y at *
      simp only [e1, e2, e3, hNi, qS_nop, qS_seq, qS_set, qS_setJ, qS_if, qS_brk, qS_ret, qS_retV, qS_throw, qS_inc, qS_cl, qS_ast, qS_aop, qS_fst, qS_fop, qS_sw, qT_eC, qT_eCB, qT_eL, qT_eLJ, qT_eLR, qT_eLB, qT_e1, qT_e2, qT_bCmp, qT_bCmpJ, qT_bAnd, qT_bOr, qT_bNot, qT_eBI, qT_eIf, qT_eLd, qT_eLdR, qT_eLen, qT_eF, qT_eFR, qT_aN, qT_aS, qT_eCl, qT_eClR, qT_eClB, qT_some, qT_x, z_nx_N, z_nx_B, z_nx_R, z_nx_X, z_bk_N, z_bk_B, z_bk_R, z_bk_X, oAdd, oSub, oMul, oNeg, cLt, cLe, cGt, cGe, cEq, cNe, Option.some.injEq, Sum.inl.injEq, Sum.inr.injEq, Prod.mk.injEq, exists_eq_left, exists_eq_left', exists_eq_right, exists_and_left, reduceCtorEq, and_true, true_and, and_false, false_and, List.getElem?_cons_zero, List.getElem?_cons_succ, List.set_cons_zero, List.set_cons_succ, List.replicate, List.length_cons, List.length_nil, List.cons_append, List.nil_append, Nat.reduceAdd, Nat.reduceSub, decide_eq_true_eq, decide_eq_false_iff_not, Bool.true_eq_false, Bool.false_eq_true, true_implies, false_implies, implies_true, Nat.reduceLT, exists_const, z_vB_inj, and_assoc, z_in_iff, oI2L, oL2I, Int.toNat_natCast, z_toNat0, Bool.not_eq_true', Bool.not_eq_false', ne_eq, Bool.not_true, Bool.not_false, Nat.add_zero, Int.add_zero, z_sl_s]
      try simp only [List.cons.injEq, Sum.inl.injEq, Sum.inr.injEq, z_vB_inj, and_true, true_and, exists_eq', exists_eq_left, exists_eq_left', exists_eq_right, exists_eq_right', exists_and_left, exists_and_right, exists_const, if_true, if_false, z_vB1, z_vB0, z_vBP, z_bd, decide_eq_true_eq, decide_eq_false_iff_not, Bool.not_eq_true', Bool.false_eq_true, Bool.true_eq_false, z_dec_iff, z_dec_f, z_dec_inj, true_iff, iff_true, false_iff, iff_false, not_true_eq_false, not_false_eq_true, Classical.not_not]
      (try clear e1 e2 e3 e0)
      (repeat' (first | apply And.intro | intro _)) <;> first | omega | rfl | grind
    · rintro ρ h' ⟨rfl, rfl⟩
      simp only [hNi, qS_nop, qS_seq, qS_set, qS_setJ, qS_if, qS_brk, qS_ret, qS_retV, qS_throw, qS_inc, qS_cl, qS_ast, qS_aop, qS_fst, qS_fop, qS_sw, qT_eC, qT_eCB, qT_eL, qT_eLJ, qT_eLR, qT_eLB, qT_e1, qT_e2, qT_bCmp, qT_bCmpJ, qT_bAnd, qT_bOr, qT_bNot, qT_eBI, qT_eIf, qT_eLd, qT_eLdR, qT_eLen, qT_eF, qT_eFR, qT_aN, qT_aS, qT_eCl, qT_eClR, qT_eClB, qT_some, qT_x, z_nx_N, z_nx_B, z_nx_R, z_nx_X, z_bk_N, z_bk_B, z_bk_R, z_bk_X, oAdd, oSub, oMul, oNeg, cLt, cLe, cGt, cGe, cEq, cNe, Option.some.injEq, Sum.inl.injEq, Sum.inr.injEq, Prod.mk.injEq, exists_eq_left, exists_eq_left', exists_eq_right, exists_and_left, reduceCtorEq, and_true, true_and, and_false, false_and, List.getElem?_cons_zero, List.getElem?_cons_succ, List.set_cons_zero, List.set_cons_succ, List.replicate, List.length_cons, List.length_nil, List.cons_append, List.nil_append, Nat.reduceAdd, Nat.reduceSub, decide_eq_true_eq, decide_eq_false_iff_not, Bool.true_eq_false, Bool.false_eq_true, true_implies, false_implies, implies_true, Nat.reduceLT, exists_const, z_vB_inj, and_assoc, z_in_iff, oI2L, oL2I, Int.toNat_natCast, z_toNat0, Bool.not_eq_true', Bool.not_eq_false', ne_eq, Bool.not_true, Bool.not_false, Nat.add_zero, Int.add_zero, z_sl_s]
      repeat (refine And.intro (by omega) ?_)
      exact hQ _
  have loop2 : ∀ (Q : z_Oc → z_Hp → Prop) (a c d e : z_V), (∀ f, Q (oN [vR 85, vI (m : Int), vI (v : Int), vI (n : Int), a, f, c, d, e]) (k_W (k_u S 95 (z_to n (rPj M V n 0) (S 95))))) → qS (sLoop (bCmp cLt (eL 5) (eL 3)) (sASt 0 (eFR 6 10 (eLR 0)) (eL 5) (eC 1000000)) (sInc 5 (1)) z_fuel) [vR 85, vI (m : Int), vI (v : Int), vI (n : Int), a, vI 0, c, d, e] (k_W S) Q := by
    intro Q a c d e hQ
    refine qS_loop (fun k ρ h' => h' = k_W (k_u S 95 (z_to k (rPj M V n 0) (S 95))) ∧ ρ = [vR 85, vI (m : Int), vI (v : Int), vI (n : Int), a, vI (k : Int), c, d, e]) n ?_ ?_ n 0 z_fuel _ _ (by omega) (z_fuel_lt (by omega)) ⟨by rw [z_to_0, k_u_id], rfl⟩
    · rintro k ρ h' hk ⟨rfl, rfl⟩
      have zs := z_to_s k (rPj M V n 0) (S 95)
      have z0 : rPj M V n 0 k = 1000000 := rfl
      rw [z0] at zs
      simp only [zs, k_v85, k_o85, k_r0, k_r1, k_r2, k_r3, k_r4, k_r5, k_r6, k_r7, k_r8, k_r9, k_r10, k_r11, k_r12, k_r13, k_r14, k_r15, k_r16, k_r17, k_r18, k_rl, k_sc, k_st, k_a86, k_s86, k_a87, k_s87, k_a88, k_s88, k_a89, k_s89, k_a90, k_s90, k_a91, k_s91, k_a92, k_s92, k_a93, k_s93, k_a94, k_s94, k_a95, k_s95, k_a96, k_s96, k_a97, k_s97, k_a98, k_s98, k_a99, k_s99, k_a100, k_s100, k_a101, k_s101, k_a102, k_s102, k_u_s, k_u_n, k_u_u, Nat.reduceEqDiff, not_false_eq_true, qS_nop, qS_seq, qS_set, qS_setJ, qS_if, qS_brk, qS_ret, qS_retV, qS_throw, qS_inc, qS_cl, qS_ast, qS_aop, qS_fst, qS_fop, qS_sw, qT_eC, qT_eCB, qT_eL, qT_eLJ, qT_eLR, qT_eLB, qT_e1, qT_e2, qT_bCmp, qT_bCmpJ, qT_bAnd, qT_bOr, qT_bNot, qT_eBI, qT_eIf, qT_eLd, qT_eLdR, qT_eLen, qT_eF, qT_eFR, qT_aN, qT_aS, qT_eCl, qT_eClR, qT_eClB, qT_some, qT_x, z_nx_N, z_nx_B, z_nx_R, z_nx_X, z_bk_N, z_bk_B, z_bk_R, z_bk_X, oAdd, oSub, oMul, oNeg, cLt, cLe, cGt, cGe, cEq, cNe, Option.some.injEq, Sum.inl.injEq, Sum.inr.injEq, Prod.mk.injEq, exists_eq_left, exists_eq_left', exists_eq_right, exists_and_left, reduceCtorEq, and_true, true_and, and_false, false_and, List.getElem?_cons_zero, List.getElem?_cons_succ, List.set_cons_zero, List.set_cons_succ, List.replicate, List.length_cons, List.length_nil, List.cons_append, List.nil_append, Nat.reduceAdd, Nat.reduceSub, decide_eq_true_eq, decide_eq_false_iff_not, Bool.true_eq_false, Bool.false_eq_true, true_implies, false_implies, implies_true, Nat.reduceLT, exists_const, z_vB_inj, and_assoc, z_in_iff, oI2L, oL2I, Int.toNat_natCast, z_toNat0, Bool.not_eq_true', Bool.not_eq_false', ne_eq, Bool.not_true, Bool.not_false, Nat.add_zero, Int.add_zero, z_sl_s]
      repeat (refine And.intro (by omega) ?_)
      rfl
    · rintro ρ h' ⟨rfl, rfl⟩
      simp only [qS_nop, qS_seq, qS_set, qS_setJ, qS_if, qS_brk, qS_ret, qS_retV, qS_throw, qS_inc, qS_cl, qS_ast, qS_aop, qS_fst, qS_fop, qS_sw, qT_eC, qT_eCB, qT_eL, qT_eLJ, qT_eLR, qT_eLB, qT_e1, qT_e2, qT_bCmp, qT_bCmpJ, qT_bAnd, qT_bOr, qT_bNot, qT_eBI, qT_eIf, qT_eLd, qT_eLdR, qT_eLen, qT_eF, qT_eFR, qT_aN, qT_aS, qT_eCl, qT_eClR, qT_eClB, qT_some, qT_x, z_nx_N, z_nx_B, z_nx_R, z_nx_X, z_bk_N, z_bk_B, z_bk_R, z_bk_X, oAdd, oSub, oMul, oNeg, cLt, cLe, cGt, cGe, cEq, cNe, Option.some.injEq, Sum.inl.injEq, Sum.inr.injEq, Prod.mk.injEq, exists_eq_left, exists_eq_left', exists_eq_right, exists_and_left, reduceCtorEq, and_true, true_and, and_false, false_and, List.getElem?_cons_zero, List.getElem?_cons_succ, List.set_cons_zero, List.set_cons_succ, List.replicate, List.length_cons, List.length_nil, List.cons_append, List.nil_append, Nat.reduceAdd, Nat.reduceSub, decide_eq_true_eq, decide_eq_false_iff_not, Bool.true_eq_false, Bool.false_eq_true, true_implies, false_implies, implies_true, Nat.reduceLT, exists_const, z_vB_inj, and_assoc, z_in_iff, oI2L, oL2I, Int.toNat_natCast, z_toNat0, Bool.not_eq_true', Bool.not_eq_false', ne_eq, Bool.not_true, Bool.not_false, Nat.add_zero, Int.add_zero, z_sl_s]
      repeat (refine And.intro (by omega) ?_)
      exact hQ _
  by_cases hB : A ∧ ∀ k, k < N → M (k / n) (k % n) ≠ INF
  · have nM : ∀ x y, x < n → y < n → -99999 ≤ M x y ∧ M x y ≤ 99999 := fun x y hx hy => by
      have w := hB.2 (n * x + y) (by rw [hN]; exact Nat.lt_of_lt_of_le (show n * x + y < n * (x + 1) by rw [Nat.mul_succ]; omega) (Nat.mul_le_mul_left n (by omega)))
      rw [Nat.mul_add_div (by omega), Nat.div_eq_of_lt hy, Nat.add_zero, Nat.mul_add_mod, Nat.mod_eq_of_lt hy] at w
      have := hW x y hx hy
      omega
    have nV : ∀ y, y < n → -99999 ≤ V y ∧ V y ≤ 99999 := fun y hy => by
      have w := hB.1
      rw [hA] at w
      have := w y hy
      have := hV y (by omega)
      omega
    have hg : ∀ k, k < n → z_to n (rPj M V n n) (S 95) k = mPr M V n k n := fun k hk => by
      rw [z_to_lt hk]
      unfold rPj
      rw [if_neg (by omega)]
    refine ⟨z_to n (rPj M V n n) (S 95), ?_, fun _ => hg⟩
    have e9 := rf_isFoundNear (S := k_u S 95 (z_to n (rPj M V n n) (S 95))) (n := n) hn.2 (fun k hk => by rw [k_u_s, hg k hk]; have := mPr_b2 hn.1 hk nM nV n (Nat.le_refl n); omega)
    have e4 : (∀ k, k < n → ¬ (k_u S 95 (z_to n (rPj M V n n) (S 95)) 95 k ≠ INF ∧ (k_u S 95 (z_to n (rPj M V n n) (S 95)) 95 k < -99999 ∨ 99999 < k_u S 95 (z_to n (rPj M V n n) (S 95)) 95 k))) ↔ (∀ k, k < n → ¬ (mPr M V n k n ≠ INF ∧ (mPr M V n k n < -99999 ∨ 99999 < mPr M V n k n))) := by
      rw [k_u_s]
      constructor
      · intro q k hk; have := q k hk; rw [hg k hk] at this; exact this
      · intro q k hk; rw [hg k hk]; exact q k hk
    rw [e4] at e9
    have loop3 : ∀ (Q : z_Oc → z_Hp → Prop) (c d e : z_V), (∀ f c d e, Q (oN [vR 85, vI (m : Int), vI (v : Int), vI (n : Int), vB true, f, c, d, e]) (k_W (k_u S 95 (z_to n (rPj M V n n) (S 95))))) → qS (sLoop (bAnd (bCmp cLt (eL 5) (eL 3)) (eLB 4))
    (sSeq (sSet vI 6 (e2 oSub (eCl (m_X6_partOf) (aS vI (aS vI (aS vR (aN) (eLR 0)) (eL 2)) (eC 0))) (eCl (m_X6_in) (aS vI (aS vI (aS vI (aS vR (aN) (eLR 0)) (eL 1)) (eL 5)) (eC 0)))))
    (sSeq (sSeq (sSet vI 7 (eC 1)) (sLoop (bCmp cLt (eL 7) (eL 3))
    (sSeq (sSet vI 8 (e2 oSub (eCl (m_X6_partOf) (aS vI (aS vI (aS vR (aN) (eLR 0)) (eL 2)) (eL 7))) (eCl (m_X6_in) (aS vI (aS vI (aS vI (aS vR (aN) (eLR 0)) (eL 1)) (eL 5)) (eL 7)))))
    (sSet vI 6 (eIf (bCmp cGt (eL 8) (eL 6)) (eL 8) (eL 6))))
    (sInc 7 (1)) z_fuel))
    (sSeq (sSet vI 7 (eC 0)) (sLoop (bCmp cLt (eL 7) (eL 3))
    (sASt 0 (eFR 6 10 (eLR 0)) (eL 7) (eCl (m_X6_lesser) (aS vI (aS vI (aN) (eLd 0 (eFR 6 10 (eLR 0)) (eL 7))) (e2 oAdd (eL 6) (eCl (m_X6_in) (aS vI (aS vI (aS vI (aS vR (aN) (eLR 0)) (eL 1)) (eL 5)) (eL 7)))))))
    (sInc 7 (1)) z_fuel))))
    (sInc 5 (1)) z_fuel) [vR 85, vI (m : Int), vI (v : Int), vI (n : Int), vB true, vI 0, c, d, e] (k_W (k_u S 95 (z_to n (rPj M V n 0) (S 95)))) Q := by
      intro Q c d e hQ
      refine qS_loop (fun r ρ h' => h' = k_W (k_u S 95 (z_to n (rPj M V n r) (S 95))) ∧ ∃ c d e, ρ = [vR 85, vI (m : Int), vI (v : Int), vI (n : Int), vB true, vI (r : Int), c, d, e]) n ?_ ?_ n 0 z_fuel _ _ (by omega) (z_fuel_lt (by omega)) ⟨rfl, _, _, _, rfl⟩
      · rintro r ρ h' hr ⟨rfl, c, d, e, rfl⟩
        have i0 := rf_in (S := k_u S 95 (z_to n (rPj M V n r) (S 95))) (m := m) (i := r) (j := 0) hm (by omega) (by omega)
        have p0 := rf_partOf (S := k_u S 95 (z_to n (rPj M V n r) (S 95))) (v := v) (k := 0) hv (by omega)
        rw [hMu, ← hMM] at i0
        rw [hVu, ← hVV] at p0
        simp only [Int.natCast_zero] at i0 p0
        have b0 := nM r 0 hr (by omega)
        have b1 := nV 0 (by omega)
        simp only [i0, p0, z_vB1, z_vB0, if_true, if_false, not_true_eq_false, not_false_eq_true, k_t_n, k_t_1, exists_eq, qS_nop, qS_seq, qS_set, qS_setJ, qS_if, qS_brk, qS_ret, qS_retV, qS_throw, qS_inc, qS_cl, qS_ast, qS_aop, qS_fst, qS_fop, qS_sw, qT_eC, qT_eCB, qT_eL, qT_eLJ, qT_eLR, qT_eLB, qT_e1, qT_e2, qT_bCmp, qT_bCmpJ, qT_bAnd, qT_bOr, qT_bNot, qT_eBI, qT_eIf, qT_eLd, qT_eLdR, qT_eLen, qT_eF, qT_eFR, qT_aN, qT_aS, qT_eCl, qT_eClR, qT_eClB, qT_some, qT_x, z_nx_N, z_nx_B, z_nx_R, z_nx_X, z_bk_N, z_bk_B, z_bk_R, z_bk_X, oAdd, oSub, oMul, oNeg, cLt, cLe, cGt, cGe, cEq, cNe, Option.some.injEq, Sum.inl.injEq, Sum.inr.injEq, Prod.mk.injEq, exists_eq_left, exists_eq_left', exists_eq_right, exists_and_left, reduceCtorEq, and_true, true_and, and_false, false_and, List.getElem?_cons_zero, List.getElem?_cons_succ, List.set_cons_zero, List.set_cons_succ, List.replicate, List.length_cons, List.length_nil, List.cons_append, List.nil_append, Nat.reduceAdd, Nat.reduceSub, decide_eq_true_eq, decide_eq_false_iff_not, Bool.true_eq_false, Bool.false_eq_true, true_implies, false_implies, implies_true, Nat.reduceLT, exists_const, z_vB_inj, and_assoc, z_in_iff, oI2L, oL2I, Int.toNat_natCast, z_toNat0, Bool.not_eq_true', Bool.not_eq_false', ne_eq, Bool.not_true, Bool.not_false, Nat.add_zero, Int.add_zero, z_sl_s]
        repeat (refine And.intro (by omega) ?_)
        have hrn : (r : Int) < (n : Int) := by omega
        refine ⟨fun _ => ?_, fun w => w hrn⟩
        refine qS_loop (fun k ρ h' => h' = k_W (k_u S 95 (z_to n (rPj M V n r) (S 95))) ∧ ∃ e, ρ = [vR 85, vI (m : Int), vI (v : Int), vI (n : Int), vB true, vI (r : Int), vI (mSh M V r k), vI ((k : Int) + 1), e]) (n - 1) ?_ ?_ (n - 1) 0 z_fuel _ _ (by omega) (z_fuel_lt (by omega)) ⟨rfl, _, rfl⟩
        · rintro k ρ h' hk ⟨rfl, e, rfl⟩
          have i1 := rf_in (S := k_u S 95 (z_to n (rPj M V n r) (S 95))) (m := m) (i := r) (j := k + 1) hm (by omega) (by omega)
          have p1 := rf_partOf (S := k_u S 95 (z_to n (rPj M V n r) (S 95))) (v := v) (k := k + 1) hv (by omega)
          rw [hMu, ← hMM, Int.natCast_add, Int.natCast_one] at i1
          rw [hVu, ← hVV, Int.natCast_add, Int.natCast_one] at p1
          have b0 := nM r (k + 1) hr (by omega)
          have b1 := nV (k + 1) (by omega)
          have b2 := mSh_b2 (M := M) (V := V) (r := r) k (fun i hi => nM r i hr (by omega)) (fun i hi => nV i (by omega))
          have w : mSh M V r (k + 1) = if mSh M V r k < V (k + 1) - M r (k + 1) then V (k + 1) - M r (k + 1) else mSh M V r k := rfl
          generalize mSh M V r (k + 1) = T at w ⊢
          generalize mSh M V r k = T0 at *
          generalize M r (k + 1) = y at *
          generalize V (k + 1) = z at *
          simp only [i1, p1, qS_nop, qS_seq, qS_set, qS_setJ, qS_if, qS_brk, qS_ret, qS_retV, qS_throw, qS_inc, qS_cl, qS_ast, qS_aop, qS_fst, qS_fop, qS_sw, qT_eC, qT_eCB, qT_eL, qT_eLJ, qT_eLR, qT_eLB, qT_e1, qT_e2, qT_bCmp, qT_bCmpJ, qT_bAnd, qT_bOr, qT_bNot, qT_eBI, qT_eIf, qT_eLd, qT_eLdR, qT_eLen, qT_eF, qT_eFR, qT_aN, qT_aS, qT_eCl, qT_eClR, qT_eClB, qT_some, qT_x, z_nx_N, z_nx_B, z_nx_R, z_nx_X, z_bk_N, z_bk_B, z_bk_R, z_bk_X, oAdd, oSub, oMul, oNeg, cLt, cLe, cGt, cGe, cEq, cNe, Option.some.injEq, Sum.inl.injEq, Sum.inr.injEq, Prod.mk.injEq, exists_eq_left, exists_eq_left', exists_eq_right, exists_and_left, reduceCtorEq, and_true, true_and, and_false, false_and, List.getElem?_cons_zero, List.getElem?_cons_succ, List.set_cons_zero, List.set_cons_succ, List.replicate, List.length_cons, List.length_nil, List.cons_append, List.nil_append, Nat.reduceAdd, Nat.reduceSub, decide_eq_true_eq, decide_eq_false_iff_not, Bool.true_eq_false, Bool.false_eq_true, true_implies, false_implies, implies_true, Nat.reduceLT, exists_const, z_vB_inj, and_assoc, z_in_iff, oI2L, oL2I, Int.toNat_natCast, z_toNat0, Bool.not_eq_true', Bool.not_eq_false', ne_eq, Bool.not_true, Bool.not_false, Nat.add_zero, Int.add_zero, z_sl_s]
          clear i1 p1 i0 p0 e9 e4 hg loop1 loop2 e0
          (repeat' (first | apply And.intro | intro _)) <;> first | omega | exact ⟨_, by rw [show T = z - y by omega]; rfl⟩ | exact ⟨_, by rw [show T = T0 by omega]; rfl⟩
        · rintro ρ h' ⟨rfl, e, rfl⟩
          simp only [qS_nop, qS_seq, qS_set, qS_setJ, qS_if, qS_brk, qS_ret, qS_retV, qS_throw, qS_inc, qS_cl, qS_ast, qS_aop, qS_fst, qS_fop, qS_sw, qT_eC, qT_eCB, qT_eL, qT_eLJ, qT_eLR, qT_eLB, qT_e1, qT_e2, qT_bCmp, qT_bCmpJ, qT_bAnd, qT_bOr, qT_bNot, qT_eBI, qT_eIf, qT_eLd, qT_eLdR, qT_eLen, qT_eF, qT_eFR, qT_aN, qT_aS, qT_eCl, qT_eClR, qT_eClB, qT_some, qT_x, z_nx_N, z_nx_B, z_nx_R, z_nx_X, z_bk_N, z_bk_B, z_bk_R, z_bk_X, oAdd, oSub, oMul, oNeg, cLt, cLe, cGt, cGe, cEq, cNe, Option.some.injEq, Sum.inl.injEq, Sum.inr.injEq, Prod.mk.injEq, exists_eq_left, exists_eq_left', exists_eq_right, exists_and_left, reduceCtorEq, and_true, true_and, and_false, false_and, List.getElem?_cons_zero, List.getElem?_cons_succ, List.set_cons_zero, List.set_cons_succ, List.replicate, List.length_cons, List.length_nil, List.cons_append, List.nil_append, Nat.reduceAdd, Nat.reduceSub, decide_eq_true_eq, decide_eq_false_iff_not, Bool.true_eq_false, Bool.false_eq_true, true_implies, false_implies, implies_true, Nat.reduceLT, exists_const, z_vB_inj, and_assoc, z_in_iff, oI2L, oL2I, Int.toNat_natCast, z_toNat0, Bool.not_eq_true', Bool.not_eq_false', ne_eq, Bool.not_true, Bool.not_false, Nat.add_zero, Int.add_zero, z_sl_s]
          repeat (refine And.intro (by omega) ?_)
          have b2 := mSh_b2 (M := M) (V := V) (r := r) (n - 1) (fun i hi => nM r i hr (by omega)) (fun i hi => nV i (by omega))
          refine qS_loop (fun k ρ h' => h' = k_W (k_u S 95 (z_to k (rPj M V n (r + 1)) (z_to n (rPj M V n r) (S 95)))) ∧ ρ = [vR 85, vI (m : Int), vI (v : Int), vI (n : Int), vB true, vI (r : Int), vI (mSh M V r (n - 1)), vI (k : Int), e]) n ?_ ?_ n 0 z_fuel _ _ (by omega) (z_fuel_lt (by omega)) ⟨by rw [z_to_0], rfl⟩
          · rintro k ρ h' hk ⟨rfl, rfl⟩
            have zs := z_to_s k (rPj M V n (r + 1)) (z_to n (rPj M V n r) (S 95))
            have i1 := rf_in (S := k_u S 95 (z_to k (rPj M V n (r + 1)) (z_to n (rPj M V n r) (S 95)))) (m := m) (i := r) (j := k) hm (by omega) (by omega)
            rw [hMu, ← hMM] at i1
            have g0 : z_to k (rPj M V n (r + 1)) (z_to n (rPj M V n r) (S 95)) k = rPj M V n r k := by
              rw [z_to_ge (by omega), z_to_lt hk]
            have b0 := nM r k hr hk
            have b3 := mPr_b2 hn.1 hk nM nV r (by omega)
            have bj : -299997 ≤ rPj M V n r k ∧ rPj M V n r k ≤ 1000000 := by
              unfold rPj
              split <;> omega
            have l1 := rf_lesser (h := k_W (k_u S 95 (z_to k (rPj M V n (r + 1)) (z_to n (rPj M V n r) (S 95))))) (x := rPj M V n r k) (y := mSh M V r (n - 1) + M r k) ⟨by omega, by omega⟩ ⟨by omega, by omega⟩
            have fin : (if mSh M V r (n - 1) + M r k < rPj M V n r k then mSh M V r (n - 1) + M r k else rPj M V n r k) = rPj M V n (r + 1) k := by
              unfold rPj
              rw [if_neg (show ¬ r + 1 = 0 by omega), mPr]
              by_cases r0 : r = 0
              · rw [if_pos r0, if_pos (by omega), if_pos r0]
              · rw [if_neg r0, if_neg r0]
            rw [fin] at l1
            simp only [i1, g0, l1, zs, k_v85, k_o85, k_r0, k_r1, k_r2, k_r3, k_r4, k_r5, k_r6, k_r7, k_r8, k_r9, k_r10, k_r11, k_r12, k_r13, k_r14, k_r15, k_r16, k_r17, k_r18, k_rl, k_sc, k_st, k_a86, k_s86, k_a87, k_s87, k_a88, k_s88, k_a89, k_s89, k_a90, k_s90, k_a91, k_s91, k_a92, k_s92, k_a93, k_s93, k_a94, k_s94, k_a95, k_s95, k_a96, k_s96, k_a97, k_s97, k_a98, k_s98, k_a99, k_s99, k_a100, k_s100, k_a101, k_s101, k_a102, k_s102, k_u_s, k_u_n, k_u_u, Nat.reduceEqDiff, not_false_eq_true, qS_nop, qS_seq, qS_set, qS_setJ, qS_if, qS_brk, qS_ret, qS_retV, qS_throw, qS_inc, qS_cl, qS_ast, qS_aop, qS_fst, qS_fop, qS_sw, qT_eC, qT_eCB, qT_eL, qT_eLJ, qT_eLR, qT_eLB, qT_e1, qT_e2, qT_bCmp, qT_bCmpJ, qT_bAnd, qT_bOr, qT_bNot, qT_eBI, qT_eIf, qT_eLd, qT_eLdR, qT_eLen, qT_eF, qT_eFR, qT_aN, qT_aS, qT_eCl, qT_eClR, qT_eClB, qT_some, qT_x, z_nx_N, z_nx_B, z_nx_R, z_nx_X, z_bk_N, z_bk_B, z_bk_R, z_bk_X, oAdd, oSub, oMul, oNeg, cLt, cLe, cGt, cGe, cEq, cNe, Option.some.injEq, Sum.inl.injEq, Sum.inr.injEq, Prod.mk.injEq, exists_eq_left, exists_eq_left', exists_eq_right, exists_and_left, reduceCtorEq, and_true, true_and, and_false, false_and, List.getElem?_cons_zero, List.getElem?_cons_succ, List.set_cons_zero, List.set_cons_succ, List.replicate, List.length_cons, List.length_nil, List.cons_append, List.nil_append, Nat.reduceAdd, Nat.reduceSub, decide_eq_true_eq, decide_eq_false_iff_not, Bool.true_eq_false, Bool.false_eq_true, true_implies, false_implies, implies_true, Nat.reduceLT, exists_const, z_vB_inj, and_assoc, z_in_iff, oI2L, oL2I, Int.toNat_natCast, z_toNat0, Bool.not_eq_true', Bool.not_eq_false', ne_eq, Bool.not_true, Bool.not_false, Nat.add_zero, Int.add_zero, z_sl_s]
            repeat (refine And.intro (by omega) ?_)
            try rfl
          · rintro ρ h' ⟨rfl, rfl⟩
            simp only [qS_nop, qS_seq, qS_set, qS_setJ, qS_if, qS_brk, qS_ret, qS_retV, qS_throw, qS_inc, qS_cl, qS_ast, qS_aop, qS_fst, qS_fop, qS_sw, qT_eC, qT_eCB, qT_eL, qT_eLJ, qT_eLR, qT_eLB, qT_e1, qT_e2, qT_bCmp, qT_bCmpJ, qT_bAnd, qT_bOr, qT_bNot, qT_eBI, qT_eIf, qT_eLd, qT_eLdR, qT_eLen, qT_eF, qT_eFR, qT_aN, qT_aS, qT_eCl, qT_eClR, qT_eClB, qT_some, qT_x, z_nx_N, z_nx_B, z_nx_R, z_nx_X, z_bk_N, z_bk_B, z_bk_R, z_bk_X, oAdd, oSub, oMul, oNeg, cLt, cLe, cGt, cGe, cEq, cNe, Option.some.injEq, Sum.inl.injEq, Sum.inr.injEq, Prod.mk.injEq, exists_eq_left, exists_eq_left', exists_eq_right, exists_and_left, reduceCtorEq, and_true, true_and, and_false, false_and, List.getElem?_cons_zero, List.getElem?_cons_succ, List.set_cons_zero, List.set_cons_succ, List.replicate, List.length_cons, List.length_nil, List.cons_append, List.nil_append, Nat.reduceAdd, Nat.reduceSub, decide_eq_true_eq, decide_eq_false_iff_not, Bool.true_eq_false, Bool.false_eq_true, true_implies, false_implies, implies_true, Nat.reduceLT, exists_const, z_vB_inj, and_assoc, z_in_iff, oI2L, oL2I, Int.toNat_natCast, z_toNat0, Bool.not_eq_true', Bool.not_eq_false', ne_eq, Bool.not_true, Bool.not_false, Nat.add_zero, Int.add_zero, z_sl_s]
            repeat (refine And.intro (by omega) ?_)
            exact ⟨by rw [z_to_z], _, _, _, rfl⟩
      · rintro ρ h' ⟨rfl, c, d, e, rfl⟩
        simp only [z_vB1, z_vB0, if_true, if_false, not_true_eq_false, not_false_eq_true, k_t_n, k_t_1, exists_eq, qS_nop, qS_seq, qS_set, qS_setJ, qS_if, qS_brk, qS_ret, qS_retV, qS_throw, qS_inc, qS_cl, qS_ast, qS_aop, qS_fst, qS_fop, qS_sw, qT_eC, qT_eCB, qT_eL, qT_eLJ, qT_eLR, qT_eLB, qT_e1, qT_e2, qT_bCmp, qT_bCmpJ, qT_bAnd, qT_bOr, qT_bNot, qT_eBI, qT_eIf, qT_eLd, qT_eLdR, qT_eLen, qT_eF, qT_eFR, qT_aN, qT_aS, qT_eCl, qT_eClR, qT_eClB, qT_some, qT_x, z_nx_N, z_nx_B, z_nx_R, z_nx_X, z_bk_N, z_bk_B, z_bk_R, z_bk_X, oAdd, oSub, oMul, oNeg, cLt, cLe, cGt, cGe, cEq, cNe, Option.some.injEq, Sum.inl.injEq, Sum.inr.injEq, Prod.mk.injEq, exists_eq_left, exists_eq_left', exists_eq_right, exists_and_left, reduceCtorEq, and_true, true_and, and_false, false_and, List.getElem?_cons_zero, List.getElem?_cons_succ, List.set_cons_zero, List.set_cons_succ, List.replicate, List.length_cons, List.length_nil, List.cons_append, List.nil_append, Nat.reduceAdd, Nat.reduceSub, decide_eq_true_eq, decide_eq_false_iff_not, Bool.true_eq_false, Bool.false_eq_true, true_implies, false_implies, implies_true, Nat.reduceLT, exists_const, z_vB_inj, and_assoc, z_in_iff, oI2L, oL2I, Int.toNat_natCast, z_toNat0, Bool.not_eq_true', Bool.not_eq_false', ne_eq, Bool.not_true, Bool.not_false, Nat.add_zero, Int.add_zero, z_sl_s]
        repeat (refine And.intro (by omega) ?_)
        exact fun _ => hQ _ _ _ _
    unfold m_X6_canProject
    rw [k_v85]
    apply q_body
    have b6 : INF = 1000000 := rfl
    simp only [b_X6_canProject, h89, e0, k_v85, k_o85, k_r0, k_r1, k_r2, k_r3, k_r4, k_r5, k_r6, k_r7, k_r8, k_r9, k_r10, k_r11, k_r12, k_r13, k_r14, k_r15, k_r16, k_r17, k_r18, k_rl, k_sc, k_st, k_a86, k_s86, k_a87, k_s87, k_a88, k_s88, k_a89, k_s89, k_a90, k_s90, k_a91, k_s91, k_a92, k_s92, k_a93, k_s93, k_a94, k_s94, k_a95, k_s95, k_a96, k_s96, k_a97, k_s97, k_a98, k_s98, k_a99, k_s99, k_a100, k_s100, k_a101, k_s101, k_a102, k_s102, k_u_s, k_u_n, k_u_u, Nat.reduceEqDiff, not_false_eq_true, qS_nop, qS_seq, qS_set, qS_setJ, qS_if, qS_brk, qS_ret, qS_retV, qS_throw, qS_inc, qS_cl, qS_ast, qS_aop, qS_fst, qS_fop, qS_sw, qT_eC, qT_eCB, qT_eL, qT_eLJ, qT_eLR, qT_eLB, qT_e1, qT_e2, qT_bCmp, qT_bCmpJ, qT_bAnd, qT_bOr, qT_bNot, qT_eBI, qT_eIf, qT_eLd, qT_eLdR, qT_eLen, qT_eF, qT_eFR, qT_aN, qT_aS, qT_eCl, qT_eClR, qT_eClB, qT_some, qT_x, z_nx_N, z_nx_B, z_nx_R, z_nx_X, z_bk_N, z_bk_B, z_bk_R, z_bk_X, oAdd, oSub, oMul, oNeg, cLt, cLe, cGt, cGe, cEq, cNe, Option.some.injEq, Sum.inl.injEq, Sum.inr.injEq, Prod.mk.injEq, exists_eq_left, exists_eq_left', exists_eq_right, exists_and_left, reduceCtorEq, and_true, true_and, and_false, false_and, List.getElem?_cons_zero, List.getElem?_cons_succ, List.set_cons_zero, List.set_cons_succ, List.replicate, List.length_cons, List.length_nil, List.cons_append, List.nil_append, Nat.reduceAdd, Nat.reduceSub, decide_eq_true_eq, decide_eq_false_iff_not, Bool.true_eq_false, Bool.false_eq_true, true_implies, false_implies, implies_true, Nat.reduceLT, exists_const, z_vB_inj, and_assoc, z_in_iff, oI2L, oL2I, Int.toNat_natCast, z_toNat0, Bool.not_eq_true', Bool.not_eq_false', ne_eq, Bool.not_true, Bool.not_false, Nat.add_zero, Int.add_zero, z_sl_s]
    repeat (refine And.intro (by omega) ?_)
    refine loop1 _ _ _ _ (fun f => ?_)
    rw [(z_dec_iff _).mpr hB]
    simp only [qS_nop, qS_seq, qS_set, qS_setJ, qS_if, qS_brk, qS_ret, qS_retV, qS_throw, qS_inc, qS_cl, qS_ast, qS_aop, qS_fst, qS_fop, qS_sw, qT_eC, qT_eCB, qT_eL, qT_eLJ, qT_eLR, qT_eLB, qT_e1, qT_e2, qT_bCmp, qT_bCmpJ, qT_bAnd, qT_bOr, qT_bNot, qT_eBI, qT_eIf, qT_eLd, qT_eLdR, qT_eLen, qT_eF, qT_eFR, qT_aN, qT_aS, qT_eCl, qT_eClR, qT_eClB, qT_some, qT_x, z_nx_N, z_nx_B, z_nx_R, z_nx_X, z_bk_N, z_bk_B, z_bk_R, z_bk_X, oAdd, oSub, oMul, oNeg, cLt, cLe, cGt, cGe, cEq, cNe, Option.some.injEq, Sum.inl.injEq, Sum.inr.injEq, Prod.mk.injEq, exists_eq_left, exists_eq_left', exists_eq_right, exists_and_left, reduceCtorEq, and_true, true_and, and_false, false_and, List.getElem?_cons_zero, List.getElem?_cons_succ, List.set_cons_zero, List.set_cons_succ, List.replicate, List.length_cons, List.length_nil, List.cons_append, List.nil_append, Nat.reduceAdd, Nat.reduceSub, decide_eq_true_eq, decide_eq_false_iff_not, Bool.true_eq_false, Bool.false_eq_true, true_implies, false_implies, implies_true, Nat.reduceLT, exists_const, z_vB_inj, and_assoc, z_in_iff, oI2L, oL2I, Int.toNat_natCast, z_toNat0, Bool.not_eq_true', Bool.not_eq_false', ne_eq, Bool.not_true, Bool.not_false, Nat.add_zero, Int.add_zero, z_sl_s]
    refine loop2 _ _ _ _ _ (fun f => ?_)
    simp only [qS_nop, qS_seq, qS_set, qS_setJ, qS_if, qS_brk, qS_ret, qS_retV, qS_throw, qS_inc, qS_cl, qS_ast, qS_aop, qS_fst, qS_fop, qS_sw, qT_eC, qT_eCB, qT_eL, qT_eLJ, qT_eLR, qT_eLB, qT_e1, qT_e2, qT_bCmp, qT_bCmpJ, qT_bAnd, qT_bOr, qT_bNot, qT_eBI, qT_eIf, qT_eLd, qT_eLdR, qT_eLen, qT_eF, qT_eFR, qT_aN, qT_aS, qT_eCl, qT_eClR, qT_eClB, qT_some, qT_x, z_nx_N, z_nx_B, z_nx_R, z_nx_X, z_bk_N, z_bk_B, z_bk_R, z_bk_X, oAdd, oSub, oMul, oNeg, cLt, cLe, cGt, cGe, cEq, cNe, Option.some.injEq, Sum.inl.injEq, Sum.inr.injEq, Prod.mk.injEq, exists_eq_left, exists_eq_left', exists_eq_right, exists_and_left, reduceCtorEq, and_true, true_and, and_false, false_and, List.getElem?_cons_zero, List.getElem?_cons_succ, List.set_cons_zero, List.set_cons_succ, List.replicate, List.length_cons, List.length_nil, List.cons_append, List.nil_append, Nat.reduceAdd, Nat.reduceSub, decide_eq_true_eq, decide_eq_false_iff_not, Bool.true_eq_false, Bool.false_eq_true, true_implies, false_implies, implies_true, Nat.reduceLT, exists_const, z_vB_inj, and_assoc, z_in_iff, oI2L, oL2I, Int.toNat_natCast, z_toNat0, Bool.not_eq_true', Bool.not_eq_false', ne_eq, Bool.not_true, Bool.not_false, Nat.add_zero, Int.add_zero, z_sl_s]
    refine loop3 _ _ _ _ (fun f c d e => ?_)
    simp only [e9, z_vB1, z_vB0, if_true, if_false, not_true_eq_false, not_false_eq_true, k_t_n, k_t_1, exists_eq, qS_nop, qS_seq, qS_set, qS_setJ, qS_if, qS_brk, qS_ret, qS_retV, qS_throw, qS_inc, qS_cl, qS_ast, qS_aop, qS_fst, qS_fop, qS_sw, qT_eC, qT_eCB, qT_eL, qT_eLJ, qT_eLR, qT_eLB, qT_e1, qT_e2, qT_bCmp, qT_bCmpJ, qT_bAnd, qT_bOr, qT_bNot, qT_eBI, qT_eIf, qT_eLd, qT_eLdR, qT_eLen, qT_eF, qT_eFR, qT_aN, qT_aS, qT_eCl, qT_eClR, qT_eClB, qT_some, qT_x, z_nx_N, z_nx_B, z_nx_R, z_nx_X, z_bk_N, z_bk_B, z_bk_R, z_bk_X, oAdd, oSub, oMul, oNeg, cLt, cLe, cGt, cGe, cEq, cNe, Option.some.injEq, Sum.inl.injEq, Sum.inr.injEq, Prod.mk.injEq, exists_eq_left, exists_eq_left', exists_eq_right, exists_and_left, reduceCtorEq, and_true, true_and, and_false, false_and, List.getElem?_cons_zero, List.getElem?_cons_succ, List.set_cons_zero, List.set_cons_succ, List.replicate, List.length_cons, List.length_nil, List.cons_append, List.nil_append, Nat.reduceAdd, Nat.reduceSub, decide_eq_true_eq, decide_eq_false_iff_not, Bool.true_eq_false, Bool.false_eq_true, true_implies, false_implies, implies_true, Nat.reduceLT, exists_const, z_vB_inj, and_assoc, z_in_iff, oI2L, oL2I, Int.toNat_natCast, z_toNat0, Bool.not_eq_true', Bool.not_eq_false', ne_eq, Bool.not_true, Bool.not_false, Nat.add_zero, Int.add_zero, z_sl_s]
    exact z_dec_c _ _ ⟨fun q => ⟨hB.1, hB.2, q⟩, fun q => q.2.2⟩
  · refine ⟨z_to n (rPj M V n 0) (S 95), ?_, fun q => absurd q hB⟩
    unfold m_X6_canProject
    rw [k_v85]
    apply q_body
    have b6 : INF = 1000000 := rfl
    simp only [b_X6_canProject, h89, e0, k_v85, k_o85, k_r0, k_r1, k_r2, k_r3, k_r4, k_r5, k_r6, k_r7, k_r8, k_r9, k_r10, k_r11, k_r12, k_r13, k_r14, k_r15, k_r16, k_r17, k_r18, k_rl, k_sc, k_st, k_a86, k_s86, k_a87, k_s87, k_a88, k_s88, k_a89, k_s89, k_a90, k_s90, k_a91, k_s91, k_a92, k_s92, k_a93, k_s93, k_a94, k_s94, k_a95, k_s95, k_a96, k_s96, k_a97, k_s97, k_a98, k_s98, k_a99, k_s99, k_a100, k_s100, k_a101, k_s101, k_a102, k_s102, k_u_s, k_u_n, k_u_u, Nat.reduceEqDiff, not_false_eq_true, qS_nop, qS_seq, qS_set, qS_setJ, qS_if, qS_brk, qS_ret, qS_retV, qS_throw, qS_inc, qS_cl, qS_ast, qS_aop, qS_fst, qS_fop, qS_sw, qT_eC, qT_eCB, qT_eL, qT_eLJ, qT_eLR, qT_eLB, qT_e1, qT_e2, qT_bCmp, qT_bCmpJ, qT_bAnd, qT_bOr, qT_bNot, qT_eBI, qT_eIf, qT_eLd, qT_eLdR, qT_eLen, qT_eF, qT_eFR, qT_aN, qT_aS, qT_eCl, qT_eClR, qT_eClB, qT_some, qT_x, z_nx_N, z_nx_B, z_nx_R, z_nx_X, z_bk_N, z_bk_B, z_bk_R, z_bk_X, oAdd, oSub, oMul, oNeg, cLt, cLe, cGt, cGe, cEq, cNe, Option.some.injEq, Sum.inl.injEq, Sum.inr.injEq, Prod.mk.injEq, exists_eq_left, exists_eq_left', exists_eq_right, exists_and_left, reduceCtorEq, and_true, true_and, and_false, false_and, List.getElem?_cons_zero, List.getElem?_cons_succ, List.set_cons_zero, List.set_cons_succ, List.replicate, List.length_cons, List.length_nil, List.cons_append, List.nil_append, Nat.reduceAdd, Nat.reduceSub, decide_eq_true_eq, decide_eq_false_iff_not, Bool.true_eq_false, Bool.false_eq_true, true_implies, false_implies, implies_true, Nat.reduceLT, exists_const, z_vB_inj, and_assoc, z_in_iff, oI2L, oL2I, Int.toNat_natCast, z_toNat0, Bool.not_eq_true', Bool.not_eq_false', ne_eq, Bool.not_true, Bool.not_false, Nat.add_zero, Int.add_zero, z_sl_s]
    repeat (refine And.intro (by omega) ?_)
    refine loop1 _ _ _ _ (fun f => ?_)
    rw [(z_dec_f _).mpr hB]
    simp only [qS_nop, qS_seq, qS_set, qS_setJ, qS_if, qS_brk, qS_ret, qS_retV, qS_throw, qS_inc, qS_cl, qS_ast, qS_aop, qS_fst, qS_fop, qS_sw, qT_eC, qT_eCB, qT_eL, qT_eLJ, qT_eLR, qT_eLB, qT_e1, qT_e2, qT_bCmp, qT_bCmpJ, qT_bAnd, qT_bOr, qT_bNot, qT_eBI, qT_eIf, qT_eLd, qT_eLdR, qT_eLen, qT_eF, qT_eFR, qT_aN, qT_aS, qT_eCl, qT_eClR, qT_eClB, qT_some, qT_x, z_nx_N, z_nx_B, z_nx_R, z_nx_X, z_bk_N, z_bk_B, z_bk_R, z_bk_X, oAdd, oSub, oMul, oNeg, cLt, cLe, cGt, cGe, cEq, cNe, Option.some.injEq, Sum.inl.injEq, Sum.inr.injEq, Prod.mk.injEq, exists_eq_left, exists_eq_left', exists_eq_right, exists_and_left, reduceCtorEq, and_true, true_and, and_false, false_and, List.getElem?_cons_zero, List.getElem?_cons_succ, List.set_cons_zero, List.set_cons_succ, List.replicate, List.length_cons, List.length_nil, List.cons_append, List.nil_append, Nat.reduceAdd, Nat.reduceSub, decide_eq_true_eq, decide_eq_false_iff_not, Bool.true_eq_false, Bool.false_eq_true, true_implies, false_implies, implies_true, Nat.reduceLT, exists_const, z_vB_inj, and_assoc, z_in_iff, oI2L, oL2I, Int.toNat_natCast, z_toNat0, Bool.not_eq_true', Bool.not_eq_false', ne_eq, Bool.not_true, Bool.not_false, Nat.add_zero, Int.add_zero, z_sl_s]
    refine loop2 _ _ _ _ _ (fun f => ?_)
    simp only [qS_nop, qS_seq, qS_set, qS_setJ, qS_if, qS_brk, qS_ret, qS_retV, qS_throw, qS_inc, qS_cl, qS_ast, qS_aop, qS_fst, qS_fop, qS_sw, qT_eC, qT_eCB, qT_eL, qT_eLJ, qT_eLR, qT_eLB, qT_e1, qT_e2, qT_bCmp, qT_bCmpJ, qT_bAnd, qT_bOr, qT_bNot, qT_eBI, qT_eIf, qT_eLd, qT_eLdR, qT_eLen, qT_eF, qT_eFR, qT_aN, qT_aS, qT_eCl, qT_eClR, qT_eClB, qT_some, qT_x, z_nx_N, z_nx_B, z_nx_R, z_nx_X, z_bk_N, z_bk_B, z_bk_R, z_bk_X, oAdd, oSub, oMul, oNeg, cLt, cLe, cGt, cGe, cEq, cNe, Option.some.injEq, Sum.inl.injEq, Sum.inr.injEq, Prod.mk.injEq, exists_eq_left, exists_eq_left', exists_eq_right, exists_and_left, reduceCtorEq, and_true, true_and, and_false, false_and, List.getElem?_cons_zero, List.getElem?_cons_succ, List.set_cons_zero, List.set_cons_succ, List.replicate, List.length_cons, List.length_nil, List.cons_append, List.nil_append, Nat.reduceAdd, Nat.reduceSub, decide_eq_true_eq, decide_eq_false_iff_not, Bool.true_eq_false, Bool.false_eq_true, true_implies, false_implies, implies_true, Nat.reduceLT, exists_const, z_vB_inj, and_assoc, z_in_iff, oI2L, oL2I, Int.toNat_natCast, z_toNat0, Bool.not_eq_true', Bool.not_eq_false', ne_eq, Bool.not_true, Bool.not_false, Nat.add_zero, Int.add_zero, z_sl_s]
    refine qS_loop0 ?_
    simp only [z_vB1, z_vB0, if_true, if_false, not_true_eq_false, not_false_eq_true, k_t_n, k_t_1, exists_eq, qS_nop, qS_seq, qS_set, qS_setJ, qS_if, qS_brk, qS_ret, qS_retV, qS_throw, qS_inc, qS_cl, qS_ast, qS_aop, qS_fst, qS_fop, qS_sw, qT_eC, qT_eCB, qT_eL, qT_eLJ, qT_eLR, qT_eLB, qT_e1, qT_e2, qT_bCmp, qT_bCmpJ, qT_bAnd, qT_bOr, qT_bNot, qT_eBI, qT_eIf, qT_eLd, qT_eLdR, qT_eLen, qT_eF, qT_eFR, qT_aN, qT_aS, qT_eCl, qT_eClR, qT_eClB, qT_some, qT_x, z_nx_N, z_nx_B, z_nx_R, z_nx_X, z_bk_N, z_bk_B, z_bk_R, z_bk_X, oAdd, oSub, oMul, oNeg, cLt, cLe, cGt, cGe, cEq, cNe, Option.some.injEq, Sum.inl.injEq, Sum.inr.injEq, Prod.mk.injEq, exists_eq_left, exists_eq_left', exists_eq_right, exists_and_left, reduceCtorEq, and_true, true_and, and_false, false_and, List.getElem?_cons_zero, List.getElem?_cons_succ, List.set_cons_zero, List.set_cons_succ, List.replicate, List.length_cons, List.length_nil, List.cons_append, List.nil_append, Nat.reduceAdd, Nat.reduceSub, decide_eq_true_eq, decide_eq_false_iff_not, Bool.true_eq_false, Bool.false_eq_true, true_implies, false_implies, implies_true, Nat.reduceLT, exists_const, z_vB_inj, and_assoc, z_in_iff, oI2L, oL2I, Int.toNat_natCast, z_toNat0, Bool.not_eq_true', Bool.not_eq_false', ne_eq, Bool.not_true, Bool.not_false, Nat.add_zero, Int.add_zero, z_sl_s]
    refine ⟨by omega, by omega, by omega, by omega, fun _ => ?_, fun _ => ?_⟩ <;> exact ((z_dec_f _).mpr (fun w => hB ⟨w.1, w.2.1⟩)).symm
end FPj
