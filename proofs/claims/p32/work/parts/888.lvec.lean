/-! THE LAW: vectors -/
section LV
variable {X : z_Hp}
theorem mSh_cg {M N : Nat → Nat → Int} {V W : Nat → Int} {r : Nat} : ∀ k, (∀ i, i < k + 1 → M r i = N r i ∧ V i = W i) → mSh M V r k = mSh N W r k
  | 0, h => by
    simp only [mSh]
    rw [(h 0 (by omega)).1, (h 0 (by omega)).2]
  | k + 1, h => by
    rw [mSh, mSh, mSh_cg k (fun i hi => h i (by omega)), (h (k + 1) (by omega)).1, (h (k + 1) (by omega)).2]
theorem mPr_cg {M N : Nat → Nat → Int} {V W : Nat → Int} {n i : Nat} (hn : 1 ≤ n) (hi : i < n) (h : ∀ x y, x < n → y < n → M x y = N x y) (hv : ∀ y, y < n → V y = W y) : ∀ x, x ≤ n → mPr M V n i x = mPr N W n i x
  | 0, _ => rfl
  | x + 1, hx => by
    rw [mPr, mPr, mPr_cg hn hi h hv x (by omega), mSh_cg (n - 1) (fun y hy => ⟨h x y (by omega) (by omega), hv y (by omega)⟩), h x i (by omega) hi]
theorem mGr_cg {M N : Nat → Nat → Int} {V W : Nat → Int} {j : Nat} : ∀ n, (∀ i, i < n → M i j = N i j ∧ V i = W i) → mGr M V j n = mGr N W j n
  | 0, _ => rfl
  | n + 1, h => by
    rw [mGr, mGr, mGr_cg n (fun i hi => h i (by omega)), (h n (by omega)).1, (h n (by omega)).2]
theorem z_mn_cg {f g : Nat → Int} {n : Nat} (h : ∀ k, k < n → f k = g k) : z_mn f n = z_mn g n := z_mn_eq h
/-- what stands before the solution -/
def lvU (U : Nat → Nat → Int) (n : Nat) : Prop := cInv U ∧ U 51 0 = (n : Int) ∧ U 60 0 = (n : Int) ∧ (∀ x y, x < n → y < n → cM U 0 x y = INF ∨ (-100 ≤ cM U 0 x y ∧ cM U 0 x y ≤ 100)) ∧ (∀ x y, x < n → y < n → -100 ≤ cM U 1 x y ∧ cM U 1 x y ≤ 100) ∧ (∀ k, k < 5 → -999 ≤ U 4 k ∧ U 4 k ≤ 999) ∧ ∀ k, k < 5 → U 5 k = 7
theorem f_lvB (sc : List Int) {U : Nat → Nat → Int} {n a : Nat} (nb : 1 ≤ n ∧ n ≤ 5) (H : lvU U n) : ∃ W, cInv W ∧ (qS (s_L_vectors_135 sc) [vR 0, vS, vI (a : Int), vI (n : Int), vB true, vI 5, vU, vU, vU, vU] (k_W X U) (fun oc h1 => oc = oR (some (vB true)) ∧ h1 = k_W X W) ↔ True) := by
  have b6 : INF = 1000000 := rfl
  obtain ⟨I, e0, e1, hA, hB, hV, h7⟩ := H
  obtain ⟨A, hAd⟩ : ∃ A, A = cut (cM U 0) n := ⟨_, rfl⟩
  have Ae : ∀ x y, x < n → y < n → cM U 0 x y = A x y := fun x y hx hy => by
    rw [hAd]
    exact (if_pos ⟨hx, hy⟩).symm
  have Ab : ∀ x y, A x y = INF ∨ (-100 ≤ A x y ∧ A x y ≤ 100) := fun x y => by
    rw [hAd]
    unfold cut
    split
    · next c => exact hA x y c.1 c.2
    · exact Or.inl rfl
  obtain ⟨V, hVd⟩ : ∃ V : Nat → Int, V = fun k => if k < 5 then U 4 k else 0 := ⟨_, rfl⟩
  have Ve : ∀ k, k < 5 → U 4 k = V k := fun k hk => by
    rw [hVd]
    exact (if_pos hk).symm
  have Vb : ∀ k, -1000 ≤ V k ∧ V k ≤ 1000 := fun k => by
    rw [hVd]
    simp only
    split
    · next c => have := hV k c; omega
    · omega
  have Vb2 : ∀ k, k < n → -999 ≤ V k ∧ V k ≤ 999 := fun k hk => by
    have := hV k (by omega)
    rw [Ve k (by omega)] at this
    exact this
  have gb := fun k => mGr_lb (M := A) (V := V) (j := k) (fun i => Ab i k) Vb n
  have gc : ∀ k, k < n → mGr (cM U 0) (U (4 + 0)) k n = mGr A V k n := fun k hk => mGr_cg n (fun i hi => ⟨Ae i k hi hk, Ve i (by omega)⟩)
  have QV : ∀ k, k < n → U (4 + 0) k ≠ INF := fun k hk => by
    have := hV k (by omega)
    show U 4 k ≠ INF
    omega
  -- the solution
  obtain ⟨W1, F, s1, Fe, w1, r1, I1⟩ := f_solve (X := X) I (i := 0) (j := 0) (l := 1) (by decide) (by decide) (by decide) e0 QV (fun k hk => by
    rw [gc k hk]
    have := (gb k).1
    omega)
  have Fe' : ∀ k, k < n → F k = mGr A V k n := fun k hk => by rw [Fe k hk, gc k hk]
  have Fb : ∀ k, k < n → F k = INF ∨ (-1100 ≤ F k ∧ F k ≤ 1100) := fun k hk => by rw [Fe' k hk]; exact (gb k).1
  have le : ∀ i, i < n → mLd (cM U 0) F n i = mLd A F n i := fun i hi => z_mn_eq (fun k hk => by rw [Ae i k hi hk])
  have tq : (∀ x, x < n → mLd (cM U 0) F n x = U (4 + 0) x) ↔ (∀ x, x < n → mLd A F n x = V x) := ⟨fun q x hx => by rw [← le x hx, ← Ve x (by omega)]; exact q x hx, fun q x hx => by rw [le x hx]; exact (q x hx).trans (Ve x (by omega)).symm⟩
  rw [z_dec_c _ _ tq] at s1
  have ge := fun i (hi : i < n) => mLd_ge (n := n) Ab Vb Fe' hi
  have W10 : cM W1 0 = cM U 0 ∧ W1 51 = U 51 := r1.m (i := 0) (by decide) (fun a _ _ => by omega)
  have W11 : cM W1 1 = cM U 1 ∧ W1 60 = U 60 := r1.m (i := 1) (by decide) (fun a _ _ => by omega)
  have W14 : W1 4 = U 4 := r1 4 (by unfold cFree; omega) (by omega)
  have w15 : ∀ k, W1 5 k = if k < n then F k else U 5 k := w1
  -- the projections
  obtain ⟨B, hBd⟩ : ∃ B, B = cM U 1 := ⟨_, rfl⟩
  have Bn : ∀ k, k < n → (-1300 ≤ mPr B V n k n ∧ mPr B V n k n ≤ 1500) := fun k hk => mPr_b3 (by rw [hBd]; exact hB) (fun i hi => by have := Vb2 i hi; omega) hk
  have numB : ∀ (T : Nat → Nat → Int), cM T 1 = B → mNum (cM T 1) n := fun T e x y hx hy => by
    rw [e, hBd]
    have := hB x y hx hy
    omega
  have prc : ∀ (T : Nat → Nat → Int) (v : Nat → Int) (k : Nat), cM T 1 = B → (∀ i, i < n → v i = V i) → k < n → mPr (cM T 1) v n k n = mPr B V n k n := fun T v k e hv hk => by
    rw [e]
    exact mPr_cg nb.1 hk (fun x y hx hy => rfl) hv n (Nat.le_refl n)
  have V1 : ∀ i, i < n → W1 (4 + 0) i = V i := fun i hi => by
    show W1 4 i = V i
    rw [W14]
    exact Ve i (by omega)
  have B1 : cM W1 1 = B := by rw [W11.1, hBd]
  obtain ⟨W2, s2, w2, r2, I2⟩ := f_project (X := X) I1 (i := 1) (j := 0) (l := 2) (by decide) (by decide) (by decide) (n := n) (by show W1 60 0 = _; rw [W11.2]; exact e1) (numB W1 B1) (fun k hk => by rw [V1 k hk]; have := Vb2 k hk; omega) (fun k hk => by
    rw [prc W1 _ k B1 V1 hk]
    have := Bn k hk
    omega)
  have pq : ∀ (T : Nat → Nat → Int) (v : Nat → Int), cM T 1 = B → (∀ i, i < n → v i = V i) → ((∀ x, x < n → mPr (cM T 1) v n x n = v x) ↔ (∀ x, x < n → mPr B V n x n = V x)) := fun T v e hv => ⟨fun q x hx => by rw [← prc T v x e hv hx, ← hv x hx]; exact q x hx, fun q x hx => by rw [prc T v x e hv hx, hv x hx]; exact q x hx⟩
  rw [z_dec_c _ _ (pq W1 _ B1 V1)] at s2
  have W21 : cM W2 1 = cM W1 1 ∧ W2 60 = W1 60 := r2.m (i := 1) (by decide) (fun a _ _ => by omega)
  have B2 : cM W2 1 = B := by rw [W21.1, B1]
  have W24 : W2 4 = W1 4 := r2 4 (by unfold cFree; omega) (by omega)
  have V2 : ∀ i, i < n → W2 (4 + 0) i = V i := fun i hi => by
    show W2 4 i = V i
    rw [W24]
    exact V1 i hi
  obtain ⟨W3, s3, w3, r3, I3⟩ := f_project (X := X) I2 (i := 1) (j := 0) (l := 3) (by decide) (by decide) (by decide) (n := n) (by show W2 60 0 = _; rw [W21.2, W11.2]; exact e1) (numB W2 B2) (fun k hk => by rw [V2 k hk]; have := Vb2 k hk; omega) (fun k hk => by
    rw [prc W2 _ k B2 V2 hk]
    have := Bn k hk
    omega)
  rw [z_dec_c _ _ (pq W2 _ B2 V2)] at s3
  have W31 : cM W3 1 = cM W2 1 ∧ W3 60 = W2 60 := r3.m (i := 1) (by decide) (fun a _ _ => by omega)
  have B3 : cM W3 1 = B := by rw [W31.1, B2]
  have W36 : W3 6 = W2 6 := r3 6 (by unfold cFree; omega) (by omega)
  have P2 : ∀ k, k < n → W2 6 k = mPr B V n k n := fun k hk => by
    have := w2 k
    rw [if_pos hk, prc W1 _ k B1 V1 hk] at this
    exact this
  have P3 : ∀ i, i < n → W3 (4 + 2) i = mPr B V n i n := fun i hi => by
    show W3 6 i = _
    rw [W36]
    exact P2 i hi
  have idm : ∀ k, k < n → mPr (cM W3 1) (W3 (4 + 2)) n k n = mPr B V n k n := fun k hk => by
    rw [B3, mPr_id (V := V) P3 hk]
    exact P3 k hk
  obtain ⟨W4, s4, w4, r4, I4⟩ := f_project (X := X) I3 (i := 1) (j := 2) (l := 3) (by decide) (by decide) (by decide) (n := n) (by show W3 60 0 = _; rw [W31.2, W21.2, W11.2]; exact e1) (numB W3 B3) (fun k hk => by rw [P3 k hk]; have := Bn k hk; omega) (fun k hk => by
    rw [idm k hk]
    have := Bn k hk
    omega)
  rw [(z_dec_iff _).mpr (fun x hx => by rw [idm x hx, P3 x hx])] at s4
  have W46 : W4 6 = W3 6 := r4 6 (by unfold cFree; omega) (by omega)
  have p4 : W4 7 (n - 1) = mPr B V n (n - 1) n := by
    have := w4 (n - 1)
    rw [if_pos (by omega), idm (n - 1) (by omega)] at this
    exact this
  have p4' : W4 6 (n - 1) = mPr B V n (n - 1) n := by
    rw [W46]
    exact P3 (n - 1) (by omega)
  have pge := fun k (hk : k < n) => mPr_ge (M := B) (V := V) hk
  -- in the law's words
  obtain ⟨bS, hS⟩ : ∃ b, b = z_dec (∀ x, x < n → mLd A F n x = V x) := ⟨_, rfl⟩
  obtain ⟨bP, hP⟩ : ∃ b, b = z_dec (∀ x, x < n → mPr B V n x n = V x) := ⟨_, rfl⟩
  rw [← hS] at s1
  rw [← hP] at s2 s3
  have E1 : m_L_asks [vR 0, vI 3, vI 0, vI 0, vI 1] (k_W X U) = some (.inl (some (vI (if bS = true then 1 else 0))), k_W X W1) := f_asks3_ok s1
  have E2 : m_L_asks [vR 0, vI 4, vI 1, vI 0, vI 2] (k_W X W1) = some (.inl (some (vI (if bP = true then 1 else 0))), k_W X W2) := f_asks4_ok s2
  have E3 : m_L_asks [vR 0, vI 4, vI 1, vI 0, vI 3] (k_W X W2) = some (.inl (some (vI (if bP = true then 1 else 0))), k_W X W3) := f_asks4_ok s3
  have E4 : m_L_asks [vR 0, vI 4, vI 1, vI 2, vI 3] (k_W X W3) = some (.inl (some (vI (if true = true then 1 else 0))), k_W X W4) := f_asks4_ok s4
  have e10 : W1 51 0 = (n : Int) := by rw [W10.2]; exact e0
  have at0 : ∀ x y, x < n → y < n → m_X5_at [vR 0, vI 0, vI (x : Int), vI (y : Int)] (k_W X W1) = some (.inl (some (vI (A x y))), k_W X W1) := fun x y hx hy => by
    have w := f_at (X := X) (S := W1) (m := 0) (by decide) nb.2 e10 hx hy
    rw [W10.1, Ae x y hx hy] at w
    exact w
  have pt0 : ∀ k, k < n → m_X5_partAt [vR 0, vI 0, vI (k : Int)] (k_W X W1) = some (.inl (some (vI (V k))), k_W X W1) := fun k hk => by
    have w := f_partAt (X := X) (S := W1) (i := 0) (j := k) (by decide) (by omega)
    rw [V1 k hk] at w
    exact w
  have pt1 : ∀ k, k < n → m_X5_partAt [vR 0, vI 1, vI (k : Int)] (k_W X W1) = some (.inl (some (vI (F k))), k_W X W1) := fun k hk => by
    have w := f_partAt (X := X) (S := W1) (i := 1) (j := k) (by decide) (by omega)
    have e : W1 (4 + 1) k = F k := (w15 k).trans (if_pos hk)
    rw [e] at w
    exact w
  have pt7 : ∀ k, n ≤ k → k < 5 → m_X5_partAt [vR 0, vI 1, vI (k : Int)] (k_W X W1) = some (.inl (some (vI 7)), k_W X W1) := fun k hk h5 => by
    have w := f_partAt (X := X) (S := W1) (i := 1) (j := k) (by decide) h5
    have e : W1 (4 + 1) k = 7 := (w15 k).trans ((if_neg (by omega)).trans (h7 k h5))
    rw [e] at w
    exact w
  have q20 : ∀ k, k < n → m_X5_partAt [vR 0, vI 0, vI (k : Int)] (k_W X W2) = some (.inl (some (vI (V k))), k_W X W2) := fun k hk => by
    have w := f_partAt (X := X) (S := W2) (i := 0) (j := k) (by decide) (by omega)
    rw [V2 k hk] at w
    exact w
  have q22 : ∀ k, k < n → m_X5_partAt [vR 0, vI 2, vI (k : Int)] (k_W X W2) = some (.inl (some (vI (mPr B V n k n))), k_W X W2) := fun k hk => by
    have w := f_partAt (X := X) (S := W2) (i := 2) (j := k) (by decide) (by omega)
    have e : W2 (4 + 2) k = mPr B V n k n := P2 k hk
    rw [e] at w
    exact w
  have nn1 : (n : Int) - 1 = ((n - 1 : Nat) : Int) := by omega
  have q43 : m_X5_partAt [vR 0, vI 3, vI ((n - 1 : Nat) : Int)] (k_W X W4) = some (.inl (some (vI (mPr B V n (n - 1) n))), k_W X W4) := by
    have w := f_partAt (X := X) (S := W4) (i := 3) (j := n - 1) (by decide) (by omega)
    have e : W4 (4 + 3) (n - 1) = mPr B V n (n - 1) n := p4
    rw [e] at w
    exact w
  have q42 : m_X5_partAt [vR 0, vI 2, vI ((n - 1 : Nat) : Int)] (k_W X W4) = some (.inl (some (vI (mPr B V n (n - 1) n))), k_W X W4) := by
    have w := f_partAt (X := X) (S := W4) (i := 2) (j := n - 1) (by decide) (by omega)
    have e : W4 (4 + 2) (n - 1) = mPr B V n (n - 1) n := p4'
    rw [e] at w
    exact w
  obtain ⟨t, ht⟩ : ∃ t : Int, t = if bS = true then 1 else 0 := ⟨_, rfl⟩
  rw [← ht] at E1
  have tb : 0 ≤ t ∧ t ≤ 1 := by rw [ht]; split <;> omega
  have Bl := Bn (n - 1) (by omega)
  refine ⟨W4, I4, iff_true_intro ?_⟩
  simp only [s_L_vectors_135, s_L_vectors_145, s_L_vectors_148, E1, z_vB1, z_vB0, if_true, if_false, not_true_eq_false, not_false_eq_true, exists_eq, qS_nop, qS_seq, qS_set, qS_setJ, qS_if, qS_brk, qS_ret, qS_retV, qS_throw, qS_inc, qS_cl, qS_ast, qS_aop, qS_fst, qS_fop, qS_sw, qT_eC, qT_eCB, qT_eL, qT_eLJ, qT_eLR, qT_eLS, qT_eSLen, qT_eSLd, qT_eLB, qT_e1, qT_e2, qT_bCmp, qT_bCmpJ, qT_bAnd, qT_bOr, qT_bNot, qT_eBI, qT_eIf, qT_eLd, qT_eLdR, qT_eLen, qT_eF, qT_eFR, qT_aN, qT_aS, qT_eCl, qT_eClR, qT_eClB, qT_some, qT_x, z_nx_N, z_nx_B, z_nx_R, z_nx_X, z_bk_N, z_bk_B, z_bk_R, z_bk_X, oAdd, oSub, oMul, oNeg, cLt, cLe, cGt, cGe, cEq, cNe, Option.some.injEq, Sum.inl.injEq, Sum.inr.injEq, Prod.mk.injEq, exists_eq_left, exists_eq_left', exists_eq_right, exists_and_left, reduceCtorEq, and_true, true_and, and_false, false_and, List.getElem?_cons_zero, List.getElem?_cons_succ, List.set_cons_zero, List.set_cons_succ, List.replicate, List.length_cons, List.length_nil, List.cons_append, List.nil_append, Nat.reduceAdd, Nat.reduceSub, decide_eq_true_eq, decide_eq_false_iff_not, Bool.true_eq_false, Bool.false_eq_true, true_implies, false_implies, implies_true, Nat.reduceLT, exists_const, z_vB_inj, and_assoc, z_in_iff, oI2L, oL2I, Int.toNat_natCast, z_toNat0, Bool.not_eq_true', Bool.not_eq_false', ne_eq, Bool.not_true, Bool.not_false, Nat.add_zero, Int.add_zero, z_sl_s]
  refine qS_loop (fun k ρ h' => h' = k_W X W1 ∧ ∃ z8 z9, ρ = [vR 0, vS, vI (a : Int), vI (n : Int), vB true, vI t, vB (z_dec (∀ i, i < k → mLd A F n i = V i)), vI (k : Int), z8, z9]) n ?_ ?_ n 0 z_fuel _ _ (by omega) (z_fuel_lt (by omega)) ⟨rfl, _, _, by rw [show z_dec (∀ i, i < 0 → mLd A F n i = V i) = true from (z_dec_iff _).mpr (fun k hk => absurd hk (Nat.not_lt_zero k))]; rfl⟩
  · rintro i ρ h' hi ⟨rfl, z8, z9, rfl⟩
    simp only [l_L_vectors_157, s_L_vectors_161, z_vB1, z_vB0, if_true, if_false, not_true_eq_false, not_false_eq_true, exists_eq, qS_nop, qS_seq, qS_set, qS_setJ, qS_if, qS_brk, qS_ret, qS_retV, qS_throw, qS_inc, qS_cl, qS_ast, qS_aop, qS_fst, qS_fop, qS_sw, qT_eC, qT_eCB, qT_eL, qT_eLJ, qT_eLR, qT_eLS, qT_eSLen, qT_eSLd, qT_eLB, qT_e1, qT_e2, qT_bCmp, qT_bCmpJ, qT_bAnd, qT_bOr, qT_bNot, qT_eBI, qT_eIf, qT_eLd, qT_eLdR, qT_eLen, qT_eF, qT_eFR, qT_aN, qT_aS, qT_eCl, qT_eClR, qT_eClB, qT_some, qT_x, z_nx_N, z_nx_B, z_nx_R, z_nx_X, z_bk_N, z_bk_B, z_bk_R, z_bk_X, oAdd, oSub, oMul, oNeg, cLt, cLe, cGt, cGe, cEq, cNe, Option.some.injEq, Sum.inl.injEq, Sum.inr.injEq, Prod.mk.injEq, exists_eq_left, exists_eq_left', exists_eq_right, exists_and_left, reduceCtorEq, and_true, true_and, and_false, false_and, List.getElem?_cons_zero, List.getElem?_cons_succ, List.set_cons_zero, List.set_cons_succ, List.replicate, List.length_cons, List.length_nil, List.cons_append, List.nil_append, Nat.reduceAdd, Nat.reduceSub, decide_eq_true_eq, decide_eq_false_iff_not, Bool.true_eq_false, Bool.false_eq_true, true_implies, false_implies, implies_true, Nat.reduceLT, exists_const, z_vB_inj, and_assoc, z_in_iff, oI2L, oL2I, Int.toNat_natCast, z_toNat0, Bool.not_eq_true', Bool.not_eq_false', ne_eq, Bool.not_true, Bool.not_false, Nat.add_zero, Int.add_zero, z_sl_s]
    repeat (refine And.intro (by omega) ?_)
    refine qS_for (fun j => [vR 0, vS, vI (a : Int), vI (n : Int), vB true, vI t, vB (z_dec (∀ x, x < i → mLd A F n x = V x)), vI (i : Int), vI (z_mn (fun j => z_plus (A i j) (F j)) j), vI (j : Int)]) (fun _ => k_W X W1) (fun _ => True) n rfl rfl trivial (by omega) ?_ ?_
    · intro j hj _
      have u1 := at0 i j hi hj
      have u2 := pt1 j hj
      have ab := Ab i j
      have fb := Fb j hj
      have l1 := f_lplus (a := A i j) (b := F j) ⟨by omega, by omega⟩ ⟨by omega, by omega⟩
      have zb : -2000 ≤ z_plus (A i j) (F j) ∧ z_plus (A i j) (F j) ≤ 1000000 := by
        unfold z_plus
        split <;> omega
      have mb := z_mn_b (fun j => z_plus (A i j) (F j)) (-2000) (by decide) j (fun x hx => by
        have := Ab i x
        have := Fb x (by omega)
        unfold z_plus
        split <;> omega)
      have ml := z_mn_le (fun j => z_plus (A i j) (F j)) j
      have l2 := f_lesser (a := z_mn (fun j => z_plus (A i j) (F j)) j) (b := z_plus (A i j) (F j)) ⟨by omega, by omega⟩ ⟨by omega, by omega⟩
      simp only [l_L_vectors_170, u1, u2, l1, l2, z_vB1, z_vB0, if_true, if_false, not_true_eq_false, not_false_eq_true, exists_eq, qS_nop, qS_seq, qS_set, qS_setJ, qS_if, qS_brk, qS_ret, qS_retV, qS_throw, qS_inc, qS_cl, qS_ast, qS_aop, qS_fst, qS_fop, qS_sw, qT_eC, qT_eCB, qT_eL, qT_eLJ, qT_eLR, qT_eLS, qT_eSLen, qT_eSLd, qT_eLB, qT_e1, qT_e2, qT_bCmp, qT_bCmpJ, qT_bAnd, qT_bOr, qT_bNot, qT_eBI, qT_eIf, qT_eLd, qT_eLdR, qT_eLen, qT_eF, qT_eFR, qT_aN, qT_aS, qT_eCl, qT_eClR, qT_eClB, qT_some, qT_x, z_nx_N, z_nx_B, z_nx_R, z_nx_X, z_bk_N, z_bk_B, z_bk_R, z_bk_X, oAdd, oSub, oMul, oNeg, cLt, cLe, cGt, cGe, cEq, cNe, Option.some.injEq, Sum.inl.injEq, Sum.inr.injEq, Prod.mk.injEq, exists_eq_left, exists_eq_left', exists_eq_right, exists_and_left, reduceCtorEq, and_true, true_and, and_false, false_and, List.getElem?_cons_zero, List.getElem?_cons_succ, List.set_cons_zero, List.set_cons_succ, List.replicate, List.length_cons, List.length_nil, List.cons_append, List.nil_append, Nat.reduceAdd, Nat.reduceSub, decide_eq_true_eq, decide_eq_false_iff_not, Bool.true_eq_false, Bool.false_eq_true, true_implies, false_implies, implies_true, Nat.reduceLT, exists_const, z_vB_inj, and_assoc, z_in_iff, oI2L, oL2I, Int.toNat_natCast, z_toNat0, Bool.not_eq_true', Bool.not_eq_false', ne_eq, Bool.not_true, Bool.not_false, Nat.add_zero, Int.add_zero, z_sl_s]
      (repeat' (first | apply And.intro | intro _)) <;> first | omega | rfl | grind
    · intro _
      have u1 := pt0 i hi
      have g := ge i hi
      have vb := Vb2 i hi
      have wd : z_dec (∀ x, x < i + 1 → mLd A F n x = V x) = (z_dec (∀ x, x < i → mLd A F n x = V x) && z_dec (mLd A F n i = V i)) := by
        rw [← z_dec_and]
        exact z_dec_c _ _ ⟨fun q => ⟨fun k hk => q k (by omega), q i (by omega)⟩, fun q k hk => by rcases Nat.lt_succ_iff_lt_or_eq.mp hk with h | rfl; exact q.1 k h; exact q.2⟩
      have em : z_mn (fun j => z_plus (A i j) (F j)) n = mLd A F n i := rfl
      have mb : mLd A F n i ≤ INF := z_mn_le _ _
      have vd : (z_dec (mLd A F n i = V i) = true ↔ mLd A F n i = V i) := z_dec_iff _
      rw [em, wd]
      generalize z_dec (∀ x, x < i → mLd A F n x = V x) = D1 at *
      generalize z_dec (mLd A F n i = V i) = D2 at *
      simp only [s_L_vectors_202, s_L_vectors_226, u1, g, z_vB1, z_vB0, if_true, if_false, not_true_eq_false, not_false_eq_true, exists_eq, qS_nop, qS_seq, qS_set, qS_setJ, qS_if, qS_brk, qS_ret, qS_retV, qS_throw, qS_inc, qS_cl, qS_ast, qS_aop, qS_fst, qS_fop, qS_sw, qT_eC, qT_eCB, qT_eL, qT_eLJ, qT_eLR, qT_eLS, qT_eSLen, qT_eSLd, qT_eLB, qT_e1, qT_e2, qT_bCmp, qT_bCmpJ, qT_bAnd, qT_bOr, qT_bNot, qT_eBI, qT_eIf, qT_eLd, qT_eLdR, qT_eLen, qT_eF, qT_eFR, qT_aN, qT_aS, qT_eCl, qT_eClR, qT_eClB, qT_some, qT_x, z_nx_N, z_nx_B, z_nx_R, z_nx_X, z_bk_N, z_bk_B, z_bk_R, z_bk_X, oAdd, oSub, oMul, oNeg, cLt, cLe, cGt, cGe, cEq, cNe, Option.some.injEq, Sum.inl.injEq, Sum.inr.injEq, Prod.mk.injEq, exists_eq_left, exists_eq_left', exists_eq_right, exists_and_left, reduceCtorEq, and_true, true_and, and_false, false_and, List.getElem?_cons_zero, List.getElem?_cons_succ, List.set_cons_zero, List.set_cons_succ, List.replicate, List.length_cons, List.length_nil, List.cons_append, List.nil_append, Nat.reduceAdd, Nat.reduceSub, decide_eq_true_eq, decide_eq_false_iff_not, Bool.true_eq_false, Bool.false_eq_true, true_implies, false_implies, implies_true, Nat.reduceLT, exists_const, z_vB_inj, and_assoc, z_in_iff, oI2L, oL2I, Int.toNat_natCast, z_toNat0, Bool.not_eq_true', Bool.not_eq_false', ne_eq, Bool.not_true, Bool.not_false, Nat.add_zero, Int.add_zero, z_sl_s]
      clear wd em
      generalize mLd A F n i = m at *
      generalize V i = v at *
      cases D1 <;> cases D2 <;> (try simp only [List.cons.injEq, Sum.inl.injEq, Sum.inr.injEq, z_vB_inj, and_true, true_and, exists_eq', exists_eq_left, exists_eq_left', exists_eq_right, exists_eq_right', exists_and_left, exists_and_right, exists_const, if_true, if_false, z_vB1, z_vB0, z_vBP, z_bd, decide_eq_true_eq, decide_eq_false_iff_not, Bool.not_eq_true', Bool.false_eq_true, Bool.true_eq_false, z_dec_iff, z_dec_f, z_dec_inj, true_iff, iff_true, false_iff, iff_false, not_true_eq_false, not_false_eq_true, Classical.not_not]) <;> (repeat' (first | apply And.intro | intro _)) <;> first | omega | rfl | grind
  · rintro ρ h' ⟨rfl, z8, z9, rfl⟩
    rw [← hS]
    simp only [s_L_vectors_256, z_vB1, z_vB0, if_true, if_false, not_true_eq_false, not_false_eq_true, exists_eq, qS_nop, qS_seq, qS_set, qS_setJ, qS_if, qS_brk, qS_ret, qS_retV, qS_throw, qS_inc, qS_cl, qS_ast, qS_aop, qS_fst, qS_fop, qS_sw, qT_eC, qT_eCB, qT_eL, qT_eLJ, qT_eLR, qT_eLS, qT_eSLen, qT_eSLd, qT_eLB, qT_e1, qT_e2, qT_bCmp, qT_bCmpJ, qT_bAnd, qT_bOr, qT_bNot, qT_eBI, qT_eIf, qT_eLd, qT_eLdR, qT_eLen, qT_eF, qT_eFR, qT_aN, qT_aS, qT_eCl, qT_eClR, qT_eClB, qT_some, qT_x, z_nx_N, z_nx_B, z_nx_R, z_nx_X, z_bk_N, z_bk_B, z_bk_R, z_bk_X, oAdd, oSub, oMul, oNeg, cLt, cLe, cGt, cGe, cEq, cNe, Option.some.injEq, Sum.inl.injEq, Sum.inr.injEq, Prod.mk.injEq, exists_eq_left, exists_eq_left', exists_eq_right, exists_and_left, reduceCtorEq, and_true, true_and, and_false, false_and, List.getElem?_cons_zero, List.getElem?_cons_succ, List.set_cons_zero, List.set_cons_succ, List.replicate, List.length_cons, List.length_nil, List.cons_append, List.nil_append, Nat.reduceAdd, Nat.reduceSub, decide_eq_true_eq, decide_eq_false_iff_not, Bool.true_eq_false, Bool.false_eq_true, true_implies, false_implies, implies_true, Nat.reduceLT, exists_const, z_vB_inj, and_assoc, z_in_iff, oI2L, oL2I, Int.toNat_natCast, z_toNat0, Bool.not_eq_true', Bool.not_eq_false', ne_eq, Bool.not_true, Bool.not_false, Nat.add_zero, Int.add_zero, z_sl_s]
    repeat (refine And.intro (by omega) ?_)
    refine qS_for (fun k => [vR 0, vS, vI (a : Int), vI (n : Int), vB true, vI t, vB bS, vI ((n : Int) + (k : Int)), z8, z9]) (fun _ => k_W X W1) (fun _ => True) (5 - n) (by rw [show (n : Int) + ((0 : Nat) : Int) = (n : Int) by omega]) rfl trivial (by omega) ?_ ?_
    · intro k hk _
      have u := pt7 (n + k) (by omega) (by omega)
      have e : ((n + k : Nat) : Int) = (n : Int) + (k : Int) := Int.natCast_add n k
      rw [e] at u
      simp only [l_L_vectors_265, u, z_vB1, z_vB0, if_true, if_false, not_true_eq_false, not_false_eq_true, exists_eq, qS_nop, qS_seq, qS_set, qS_setJ, qS_if, qS_brk, qS_ret, qS_retV, qS_throw, qS_inc, qS_cl, qS_ast, qS_aop, qS_fst, qS_fop, qS_sw, qT_eC, qT_eCB, qT_eL, qT_eLJ, qT_eLR, qT_eLS, qT_eSLen, qT_eSLd, qT_eLB, qT_e1, qT_e2, qT_bCmp, qT_bCmpJ, qT_bAnd, qT_bOr, qT_bNot, qT_eBI, qT_eIf, qT_eLd, qT_eLdR, qT_eLen, qT_eF, qT_eFR, qT_aN, qT_aS, qT_eCl, qT_eClR, qT_eClB, qT_some, qT_x, z_nx_N, z_nx_B, z_nx_R, z_nx_X, z_bk_N, z_bk_B, z_bk_R, z_bk_X, oAdd, oSub, oMul, oNeg, cLt, cLe, cGt, cGe, cEq, cNe, Option.some.injEq, Sum.inl.injEq, Sum.inr.injEq, Prod.mk.injEq, exists_eq_left, exists_eq_left', exists_eq_right, exists_and_left, reduceCtorEq, and_true, true_and, and_false, false_and, List.getElem?_cons_zero, List.getElem?_cons_succ, List.set_cons_zero, List.set_cons_succ, List.replicate, List.length_cons, List.length_nil, List.cons_append, List.nil_append, Nat.reduceAdd, Nat.reduceSub, decide_eq_true_eq, decide_eq_false_iff_not, Bool.true_eq_false, Bool.false_eq_true, true_implies, false_implies, implies_true, Nat.reduceLT, exists_const, z_vB_inj, and_assoc, z_in_iff, oI2L, oL2I, Int.toNat_natCast, z_toNat0, Bool.not_eq_true', Bool.not_eq_false', ne_eq, Bool.not_true, Bool.not_false, Nat.add_zero, Int.add_zero, z_sl_s]
      (repeat' (first | apply And.intro | intro _)) <;> first | omega | rfl | grind
    · intro _
      simp only [s_L_vectors_295, s_L_vectors_314, E2, z_vB1, z_vB0, if_true, if_false, not_true_eq_false, not_false_eq_true, exists_eq, qS_nop, qS_seq, qS_set, qS_setJ, qS_if, qS_brk, qS_ret, qS_retV, qS_throw, qS_inc, qS_cl, qS_ast, qS_aop, qS_fst, qS_fop, qS_sw, qT_eC, qT_eCB, qT_eL, qT_eLJ, qT_eLR, qT_eLS, qT_eSLen, qT_eSLd, qT_eLB, qT_e1, qT_e2, qT_bCmp, qT_bCmpJ, qT_bAnd, qT_bOr, qT_bNot, qT_eBI, qT_eIf, qT_eLd, qT_eLdR, qT_eLen, qT_eF, qT_eFR, qT_aN, qT_aS, qT_eCl, qT_eClR, qT_eClB, qT_some, qT_x, z_nx_N, z_nx_B, z_nx_R, z_nx_X, z_bk_N, z_bk_B, z_bk_R, z_bk_X, oAdd, oSub, oMul, oNeg, cLt, cLe, cGt, cGe, cEq, cNe, Option.some.injEq, Sum.inl.injEq, Sum.inr.injEq, Prod.mk.injEq, exists_eq_left, exists_eq_left', exists_eq_right, exists_and_left, reduceCtorEq, and_true, true_and, and_false, false_and, List.getElem?_cons_zero, List.getElem?_cons_succ, List.set_cons_zero, List.set_cons_succ, List.replicate, List.length_cons, List.length_nil, List.cons_append, List.nil_append, Nat.reduceAdd, Nat.reduceSub, decide_eq_true_eq, decide_eq_false_iff_not, Bool.true_eq_false, Bool.false_eq_true, true_implies, false_implies, implies_true, Nat.reduceLT, exists_const, z_vB_inj, and_assoc, z_in_iff, oI2L, oL2I, Int.toNat_natCast, z_toNat0, Bool.not_eq_true', Bool.not_eq_false', ne_eq, Bool.not_true, Bool.not_false, Nat.add_zero, Int.add_zero, z_sl_s]
      repeat (refine And.intro (by omega) ?_)
      refine qS_for (fun k => [vR 0, vS, vI (a : Int), vI (n : Int), vB true, vI t, vB bS, vB bP, vI (k : Int), z9]) (fun _ => k_W X W2) (fun _ => True) n ?_ rfl trivial (by omega) ?_ ?_
      · cases bP <;> rfl
      · intro k hk _
        have u1 := q20 k hk
        have u2 := q22 k hk
        have g := pge k hk
        have vb := Vb2 k hk
        have v1000 : V k < 1000 := by omega
        have pb := Bn k hk
        have eq : bP = true → mPr B V n k n = V k := fun h => by
          rw [hP] at h
          exact (z_dec_iff _).mp h k hk
        simp only [l_L_vectors_323, s_L_vectors_352, u1, u2, g, v1000, z_vB1, z_vB0, if_true, if_false, not_true_eq_false, not_false_eq_true, exists_eq, qS_nop, qS_seq, qS_set, qS_setJ, qS_if, qS_brk, qS_ret, qS_retV, qS_throw, qS_inc, qS_cl, qS_ast, qS_aop, qS_fst, qS_fop, qS_sw, qT_eC, qT_eCB, qT_eL, qT_eLJ, qT_eLR, qT_eLS, qT_eSLen, qT_eSLd, qT_eLB, qT_e1, qT_e2, qT_bCmp, qT_bCmpJ, qT_bAnd, qT_bOr, qT_bNot, qT_eBI, qT_eIf, qT_eLd, qT_eLdR, qT_eLen, qT_eF, qT_eFR, qT_aN, qT_aS, qT_eCl, qT_eClR, qT_eClB, qT_some, qT_x, z_nx_N, z_nx_B, z_nx_R, z_nx_X, z_bk_N, z_bk_B, z_bk_R, z_bk_X, oAdd, oSub, oMul, oNeg, cLt, cLe, cGt, cGe, cEq, cNe, Option.some.injEq, Sum.inl.injEq, Sum.inr.injEq, Prod.mk.injEq, exists_eq_left, exists_eq_left', exists_eq_right, exists_and_left, reduceCtorEq, and_true, true_and, and_false, false_and, List.getElem?_cons_zero, List.getElem?_cons_succ, List.set_cons_zero, List.set_cons_succ, List.replicate, List.length_cons, List.length_nil, List.cons_append, List.nil_append, Nat.reduceAdd, Nat.reduceSub, decide_eq_true_eq, decide_eq_false_iff_not, Bool.true_eq_false, Bool.false_eq_true, true_implies, false_implies, implies_true, Nat.reduceLT, exists_const, z_vB_inj, and_assoc, z_in_iff, oI2L, oL2I, Int.toNat_natCast, z_toNat0, Bool.not_eq_true', Bool.not_eq_false', ne_eq, Bool.not_true, Bool.not_false, Nat.add_zero, Int.add_zero, z_sl_s]
        generalize mPr B V n k n = m at *
        generalize V k = v at *
        cases bP <;> (try simp only [List.cons.injEq, Sum.inl.injEq, Sum.inr.injEq, z_vB_inj, and_true, true_and, exists_eq', exists_eq_left, exists_eq_left', exists_eq_right, exists_eq_right', exists_and_left, exists_and_right, exists_const, if_true, if_false, z_vB1, z_vB0, z_vBP, z_bd, decide_eq_true_eq, decide_eq_false_iff_not, Bool.not_eq_true', Bool.false_eq_true, Bool.true_eq_false, z_dec_iff, z_dec_f, z_dec_inj, true_iff, iff_true, false_iff, iff_false, not_true_eq_false, not_false_eq_true, Classical.not_not]) <;> (repeat' (first | apply And.intro | intro _)) <;> first | omega | rfl | grind
      · intro _
        simp only [s_L_vectors_400, E3, E4, nn1, q43, q42, z_vB1, z_vB0, if_true, if_false, not_true_eq_false, not_false_eq_true, exists_eq, qS_nop, qS_seq, qS_set, qS_setJ, qS_if, qS_brk, qS_ret, qS_retV, qS_throw, qS_inc, qS_cl, qS_ast, qS_aop, qS_fst, qS_fop, qS_sw, qT_eC, qT_eCB, qT_eL, qT_eLJ, qT_eLR, qT_eLS, qT_eSLen, qT_eSLd, qT_eLB, qT_e1, qT_e2, qT_bCmp, qT_bCmpJ, qT_bAnd, qT_bOr, qT_bNot, qT_eBI, qT_eIf, qT_eLd, qT_eLdR, qT_eLen, qT_eF, qT_eFR, qT_aN, qT_aS, qT_eCl, qT_eClR, qT_eClB, qT_some, qT_x, z_nx_N, z_nx_B, z_nx_R, z_nx_X, z_bk_N, z_bk_B, z_bk_R, z_bk_X, oAdd, oSub, oMul, oNeg, cLt, cLe, cGt, cGe, cEq, cNe, Option.some.injEq, Sum.inl.injEq, Sum.inr.injEq, Prod.mk.injEq, exists_eq_left, exists_eq_left', exists_eq_right, exists_and_left, reduceCtorEq, and_true, true_and, and_false, false_and, List.getElem?_cons_zero, List.getElem?_cons_succ, List.set_cons_zero, List.set_cons_succ, List.replicate, List.length_cons, List.length_nil, List.cons_append, List.nil_append, Nat.reduceAdd, Nat.reduceSub, decide_eq_true_eq, decide_eq_false_iff_not, Bool.true_eq_false, Bool.false_eq_true, true_implies, false_implies, implies_true, Nat.reduceLT, exists_const, z_vB_inj, and_assoc, z_in_iff, oI2L, oL2I, Int.toNat_natCast, z_toNat0, Bool.not_eq_true', Bool.not_eq_false', ne_eq, Bool.not_true, Bool.not_false, Nat.add_zero, Int.add_zero, z_sl_s]
        cases bS <;> cases bP <;> (try simp only [List.cons.injEq, Sum.inl.injEq, Sum.inr.injEq, z_vB_inj, and_true, true_and, exists_eq', exists_eq_left, exists_eq_left', exists_eq_right, exists_eq_right', exists_and_left, exists_and_right, exists_const, if_true, if_false, z_vB1, z_vB0, z_vBP, z_bd, decide_eq_true_eq, decide_eq_false_iff_not, Bool.not_eq_true', Bool.false_eq_true, Bool.true_eq_false, z_dec_iff, z_dec_f, z_dec_inj, true_iff, iff_true, false_iff, iff_false, not_true_eq_false, not_false_eq_true, Classical.not_not]) <;> (repeat' (first | apply And.intro | intro _)) <;> first | omega | rfl | grind
end LV
