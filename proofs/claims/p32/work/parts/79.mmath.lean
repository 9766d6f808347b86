/-! MATRICES: products; the determinant as a call -/
section MM
/-- missing, or between -c and c -/
def eB (c x : Int) : Prop := x = INF ∨ (-c ≤ x ∧ x ≤ c)
def mB (c : Int) (A : Nat → Nat → Int) (n : Nat) : Prop := ∀ i j, i < n → j < n → eB c (A i j)
theorem mm_lb {A B : Nat → Nat → Int} {n i j k : Nat} (hk : k < n) (a : A i k ≠ INF) (b : B k j ≠ INF) : mMul A B n i j ≤ A i k + B k j := by
  have w := z_mn_lb (fun k => z_plus (A i k) (B k j)) n k hk
  have e : z_plus (A i k) (B k j) = A i k + B k j := by
    unfold z_plus
    rw [if_neg (by omega)]
  simp only [e] at w
  exact w
theorem mm_at (A B : Nat → Nat → Int) (n i j : Nat) : mMul A B n i j = INF ∨ ∃ k, k < n ∧ A i k ≠ INF ∧ B k j ≠ INF ∧ mMul A B n i j = A i k + B k j := by
  rcases z_mn_at (fun k => z_plus (A i k) (B k j)) n with e | ⟨k, hk, e⟩
  · exact Or.inl e
  · have e' : mMul A B n i j = z_plus (A i k) (B k j) := e
    by_cases c : A i k = INF ∨ B k j = INF
    · left
      rw [e']
      unfold z_plus
      rw [if_pos c]
    · right
      refine ⟨k, hk, fun w => c (Or.inl w), fun w => c (Or.inr w), ?_⟩
      rw [e']
      unfold z_plus
      rw [if_neg c]
theorem mm_le (A B : Nat → Nat → Int) (n i j : Nat) : mMul A B n i j ≤ INF := z_mn_le _ _
theorem mB.mul {a b : Int} {A B : Nat → Nat → Int} {n : Nat} (hA : mB a A n) (hB : mB b B n) : mB (a + b) (mMul A B n) n := fun i j hi hj => by
  rcases mm_at A B n i j with e | ⟨k, hk, x, y, e⟩
  · exact Or.inl e
  · have p := hA i k hi hk
    have q := hB k j hk hj
    unfold eB at *
    omega
theorem mB.to {a b : Int} {A : Nat → Nat → Int} {n : Nat} (h : mB a A n) (w : a ≤ b) : mB b A n := fun i j hi hj => by
  have := h i j hi hj
  unfold eB at *
  omega
theorem mB.cg {a : Int} {A B : Nat → Nat → Int} {n : Nat} (h : mB a A n) (e : ∀ i j, i < n → j < n → B i j = A i j) : mB a B n := fun i j hi hj => by
  rw [e i j hi hj]
  exact h i j hi hj
theorem mB.w {A : Nat → Nat → Int} {n : Nat} (h : mB 99999 A n) : mWi A n := fun i j hi hj => h i j hi hj
theorem mm_cg {A B A' B' : Nat → Nat → Int} {n : Nat} (h1 : ∀ i j, i < n → j < n → A i j = A' i j) (h2 : ∀ i j, i < n → j < n → B i j = B' i j) {i j : Nat} (hi : i < n) (hj : j < n) : mMul A B n i j = mMul A' B' n i j := mMul_cg (fun k hk => h1 i k hi hk) (fun k hk => h2 k j hk hj)
theorem mm_assoc {A B C : Nat → Nat → Int} {n : Nat} (hA : mB 200000 A n) (hB : mB 200000 B n) (hC : mB 200000 C n) {i j : Nat} (hi : i < n) (hj : j < n) : mMul (mMul A B n) C n i j = mMul A (mMul B C n) n i j := by
  have b6 : INF = 1000000 := rfl
  have h1 : mMul (mMul A B n) C n i j ≤ mMul A (mMul B C n) n i j := by
    rcases mm_at A (mMul B C n) n i j with e | ⟨k, hk, x, y, e⟩
    · rw [e]
      exact mm_le _ _ _ _ _
    · rcases mm_at B C n k j with e2 | ⟨l, hl, z, w, e2⟩
      · exact absurd e2 y
      · have q := mm_lb (A := A) (B := B) (n := n) (i := i) (j := l) hk x z
        have p1 := hA i k hi hk
        have p2 := hB k l hk hl
        unfold eB at *
        have q2 := mm_lb (A := mMul A B n) (B := C) (n := n) (i := i) (j := j) hl (by omega) w
        omega
  have h2 : mMul A (mMul B C n) n i j ≤ mMul (mMul A B n) C n i j := by
    rcases mm_at (mMul A B n) C n i j with e | ⟨l, hl, x, y, e⟩
    · rw [e]
      exact mm_le _ _ _ _ _
    · rcases mm_at A B n i l with e2 | ⟨k, hk, z, w, e2⟩
      · exact absurd e2 x
      · have q := mm_lb (A := B) (B := C) (n := n) (i := k) (j := j) hl w y
        have p1 := hB k l hk hl
        have p2 := hC l j hl hj
        unfold eB at *
        have q2 := mm_lb (A := A) (B := mMul B C n) (n := n) (i := i) (j := j) hk z (by omega)
        omega
  omega
end MM
section MM2
variable {X : z_Hp} {S : Nat → Nat → Int} {i n : Nat}
theorem cN_e (I : cInv S) (hi : i < 4) (e : S (51 + 9 * i) 0 = (n : Int)) : ∀ x y, x < 5 → y < 5 → cN S i n x y = INF ∨ (-99999 ≤ cN S i n x y ∧ cN S i n x y ≤ 99999) := fun x y _ _ => by
  obtain ⟨n', a1, a2, a3, a4⟩ := I.2.1 i hi
  have en : n' = n := by omega
  subst en
  unfold cN
  split
  · next c => exact a4 x y c.1 c.2
  · exact Or.inl rfl
theorem f_det (I : cInv S) (hi : i < 4) (hn : 1 ≤ n ∧ n ≤ 5) (e : S (51 + 9 * i) 0 = (n : Int)) : ∃ S', m_X5_determinant [vR 0, vI (i : Int)] (k_W X S) = some (.inl (some (vI (dT (cN S i n) n))), k_W X S') ∧ cFr (fun _ => False) S S' ∧ kR (dT (cN S i n) n) := by
  have b6 : INF = 1000000 := rfl
  have c0 := s_nH1 (i := (i : Int)) (by omega)
  have r2 := k_2r hi
  have p5 := p2_32 hn.2
  have pp := Nat.pow_pos (n := n) (show 0 < 2 by decide)
  obtain ⟨h', x1, x2, x3⟩ := s_leastSum2 (N := cN S i n) (k_cA (X := X) S) (k_mat (X := X) (S := S) hi e) hn (fun x y hx hy => (cN_l hx hy).symm) (cN_b I hi e)
  have x4 := k_backC x2 x3
  have ed := (cSets_p (M := cN S i n) (n := n) (P := (S 47, S 48)) hn.2 (2 ^ n - 1) (Nat.le_refl _) (by omega)).1
  have bd := (dG_all hn.2 (cN_e I hi e) 32 (2 ^ n - 1) (by omega) (by omega)).1
  have nbl := nb_le ⟨2 ^ n - 1, by omega⟩
  simp only at nbl
  rw [x4, ed] at x1
  obtain ⟨S', hS'⟩ : ∃ S', S' = k_u (k_u S 47 (cSets (cN S i n) n (S 47, S 48) (2 ^ n - 1)).1) 48 (cSets (cN S i n) n (S 47, S 48) (2 ^ n - 1)).2 := ⟨_, rfl⟩
  rw [← hS'] at x1
  refine ⟨S', ?_, fun a ha _ => ?_, ?_⟩
  · unfold m_X5_determinant
    rw [k_v0]
    apply q_body
    have b6 : INF = 1000000 := rfl
    unfold dT
    simp only [b_X5_determinant, c0, k_o0, k_a2, r2, x1, qS_nop, qS_seq, qS_set, qS_setJ, qS_if, qS_brk, qS_ret, qS_retV, qS_throw, qS_inc, qS_cl, qS_ast, qS_aop, qS_fst, qS_fop, qS_sw, qT_eC, qT_eCB, qT_eL, qT_eLJ, qT_eLR, qT_eLS, qT_eSLen, qT_eSLd, qT_eLB, qT_e1, qT_e2, qT_bCmp, qT_bCmpJ, qT_bAnd, qT_bOr, qT_bNot, qT_eBI, qT_eIf, qT_eLd, qT_eLdR, qT_eLen, qT_eF, qT_eFR, qT_aN, qT_aS, qT_eCl, qT_eClR, qT_eClB, qT_some, qT_x, z_nx_N, z_nx_B, z_nx_R, z_nx_X, z_bk_N, z_bk_B, z_bk_R, z_bk_X, oAdd, oSub, oMul, oNeg, cLt, cLe, cGt, cGe, cEq, cNe, Option.some.injEq, Sum.inl.injEq, Sum.inr.injEq, Prod.mk.injEq, exists_eq_left, exists_eq_left', exists_eq_right, exists_and_left, reduceCtorEq, and_true, true_and, and_false, false_and, List.getElem?_cons_zero, List.getElem?_cons_succ, List.set_cons_zero, List.set_cons_succ, List.replicate, List.length_cons, List.length_nil, List.cons_append, List.nil_append, Nat.reduceAdd, Nat.reduceSub, decide_eq_true_eq, decide_eq_false_iff_not, Bool.true_eq_false, Bool.false_eq_true, true_implies, false_implies, implies_true, Nat.reduceLT, exists_const, z_vB_inj, and_assoc, z_in_iff, oI2L, oL2I, Int.toNat_natCast, z_toNat0, Bool.not_eq_true', Bool.not_eq_false', ne_eq, Bool.not_true, Bool.not_false, Nat.add_zero, Int.add_zero, z_sl_s]
    omega
  · rw [hS', k_u_n (fun e => ha (by subst e; unfold cFree; omega)), k_u_n (fun e => ha (by subst e; unfold cFree; omega))]
  · unfold dT
    exact ⟨by omega, by omega⟩
theorem f_ways (I : cInv S) (hi : i < 4) (hn : 1 ≤ n ∧ n ≤ 5) (e : S (51 + 9 * i) 0 = (n : Int)) : ∃ S' w, m_X5_ways [vR 0, vI (i : Int)] (k_W X S) = some (.inl (some (vI w)), k_W X S') ∧ cFr (fun _ => False) S S' ∧ kR w ∧ (w = 0 ↔ dT (cN S i n) n = INF) := by
  have b6 : INF = 1000000 := rfl
  have c0 := s_nH1 (i := (i : Int)) (by omega)
  have r2 := k_2r hi
  have p5 := p2_32 hn.2
  have pp := Nat.pow_pos (n := n) (show 0 < 2 by decide)
  obtain ⟨h', x1, x2, x3⟩ := s_countLeast2 (N := cN S i n) (k_cA (X := X) S) (k_mat (X := X) (S := S) hi e) hn (fun x y hx hy => (cN_l hx hy).symm) (cN_b I hi e)
  have x4 := k_backC x2 x3
  have ed := (cSets_p (M := cN S i n) (n := n) (P := (S 47, S 48)) hn.2 (2 ^ n - 1) (Nat.le_refl _) (by omega)).2
  have bd := (dG_all hn.2 (cN_e I hi e) 32 (2 ^ n - 1) (by omega) (by omega)).2.2.1
  have bb := cSets_in (P := ((fun _ => 0), (fun _ => 0))) (cN_b I hi e) hn.2 (2 ^ n - 1) (by omega) (2 ^ n - 1) (by omega)
  have nbl := nb_le ⟨2 ^ n - 1, by omega⟩
  simp only at nbl
  have p25 : (5 : Int) ^ nb (2 ^ n - 1) ≤ 3125 := by
    have : 5 ^ nb (2 ^ n - 1) ≤ 5 ^ 5 := Nat.pow_le_pow_right (by decide) nbl
    have := Int.ofNat_le.mpr this
    simpa using this
  have wb : 0 ≤ dW (cN S i n) n (2 ^ n - 1) ∧ dW (cN S i n) n (2 ^ n - 1) ≤ 3125 := ⟨bb.2.2.1, Int.le_trans bb.2.2.2 p25⟩
  rw [x4, ed] at x1
  obtain ⟨S', hS'⟩ : ∃ S', S' = k_u (k_u S 47 (cSets (cN S i n) n (S 47, S 48) (2 ^ n - 1)).1) 48 (cSets (cN S i n) n (S 47, S 48) (2 ^ n - 1)).2 := ⟨_, rfl⟩
  rw [← hS'] at x1
  refine ⟨S', dW (cN S i n) n (2 ^ n - 1), ?_, fun a ha _ => ?_, ⟨by omega, by omega⟩, bd⟩
  · unfold m_X5_ways
    rw [k_v0]
    apply q_body
    have b6 : INF = 1000000 := rfl
    simp only [b_X5_ways, c0, k_o0, k_a2, r2, x1, qS_nop, qS_seq, qS_set, qS_setJ, qS_if, qS_brk, qS_ret, qS_retV, qS_throw, qS_inc, qS_cl, qS_ast, qS_aop, qS_fst, qS_fop, qS_sw, qT_eC, qT_eCB, qT_eL, qT_eLJ, qT_eLR, qT_eLS, qT_eSLen, qT_eSLd, qT_eLB, qT_e1, qT_e2, qT_bCmp, qT_bCmpJ, qT_bAnd, qT_bOr, qT_bNot, qT_eBI, qT_eIf, qT_eLd, qT_eLdR, qT_eLen, qT_eF, qT_eFR, qT_aN, qT_aS, qT_eCl, qT_eClR, qT_eClB, qT_some, qT_x, z_nx_N, z_nx_B, z_nx_R, z_nx_X, z_bk_N, z_bk_B, z_bk_R, z_bk_X, oAdd, oSub, oMul, oNeg, cLt, cLe, cGt, cGe, cEq, cNe, Option.some.injEq, Sum.inl.injEq, Sum.inr.injEq, Prod.mk.injEq, exists_eq_left, exists_eq_left', exists_eq_right, exists_and_left, reduceCtorEq, and_true, true_and, and_false, false_and, List.getElem?_cons_zero, List.getElem?_cons_succ, List.set_cons_zero, List.set_cons_succ, List.replicate, List.length_cons, List.length_nil, List.cons_append, List.nil_append, Nat.reduceAdd, Nat.reduceSub, decide_eq_true_eq, decide_eq_false_iff_not, Bool.true_eq_false, Bool.false_eq_true, true_implies, false_implies, implies_true, Nat.reduceLT, exists_const, z_vB_inj, and_assoc, z_in_iff, oI2L, oL2I, Int.toNat_natCast, z_toNat0, Bool.not_eq_true', Bool.not_eq_false', ne_eq, Bool.not_true, Bool.not_false, Nat.add_zero, Int.add_zero, z_sl_s]
    omega
  · rw [hS', k_u_n (fun e => ha (by subst e; unfold cFree; omega)), k_u_n (fun e => ha (by subst e; unfold cFree; omega))]
end MM2
