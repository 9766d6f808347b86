/-! THE LAW: sums, products -/
section LP2
variable {P : Nat → Int} {S : Nat → Nat → Int}
theorem z_at_in {o k : Nat} {f g : Nat → Int} {x : Nat} (h : x < k) : z_at o k f g (o + x) = f x := by
  unfold z_at
  rw [if_pos (by omega), Nat.add_sub_cancel_left]
theorem z_at_out {o k : Nat} {f g : Nat → Int} {x : Nat} (h : ¬ (o ≤ x ∧ x < o + k)) : z_at o k f g x = g x := if_neg h
theorem z_cs (H : Nat → Int) (k : Nat) : (H k = INF ∧ z_cnt (fun k => z_dec (H k ≠ INF)) (k + 1) = z_cnt (fun k => z_dec (H k ≠ INF)) k) ∨ (¬ H k = INF ∧ z_cnt (fun k => z_dec (H k ≠ INF)) (k + 1) = z_cnt (fun k => z_dec (H k ≠ INF)) k + 1) := by
  have e : z_cnt (fun k => z_dec (H k ≠ INF)) (k + 1) = z_cnt (fun k => z_dec (H k ≠ INF)) k + (if z_dec (H k ≠ INF) = true then 1 else 0) := rfl
  by_cases c : H k = INF
  · rw [e, (z_dec_f _).mpr (fun w => w c), if_neg (by decide), Int.add_zero]
    exact Or.inl ⟨c, rfl⟩
  · rw [e, (z_dec_iff _).mpr c, if_pos rfl]
    exact Or.inr ⟨c, rfl⟩
theorem f_polys2 (I : cInv S) (M : pMr P S) {x y : Nat} (hx : x < 1073741824) (hy : y < 1073741824) (hwh : x % 5 = 2) : lpR m_L_polys x y P S := by
  have b6 : INF = 1000000 := rfl
  obtain ⟨i, hi⟩ : ∃ i, i = x / 5 % 4 := ⟨_, rfl⟩
  obtain ⟨j, hj⟩ : ∃ j, j = x / 20 % 4 := ⟨_, rfl⟩
  obtain ⟨l, hl⟩ : ∃ l, l = x / 80 % 4 := ⟨_, rfl⟩
  have h_i : i < 4 := by omega
  have h_j : j < 4 := by omega
  have h_l : l < 4 := by omega
  have d0 : oRem (x : Int) 5 = some (2 : Int) := by
    rw [show (2 : Int) = ((x % 5 : Nat) : Int) by omega]
    exact z_rm (m := 5) (by decide) (by omega) (by decide)
  have d1 : oDiv (x : Int) 5 = some ((x / 5 : Nat) : Int) := z_dv (m := 5) (by decide) (by omega) (by decide)
  have d2 : oRem ((x / 5 : Nat) : Int) 4 = some (i : Int) := by rw [hi]; exact z_rm (m := 4) (by decide) (by omega) (by decide)
  have d3 : oDiv (x : Int) 20 = some ((x / 20 : Nat) : Int) := z_dv (m := 20) (by decide) (by omega) (by decide)
  have d4 : oRem ((x / 20 : Nat) : Int) 4 = some (j : Int) := by rw [hj]; exact z_rm (m := 4) (by decide) (by omega) (by decide)
  have d5 : oDiv (x : Int) 80 = some ((x / 80 : Nat) : Int) := z_dv (m := 80) (by decide) (by omega) (by decide)
  have d6 : oRem ((x / 80 : Nat) : Int) 4 = some (l : Int) := by rw [hl]; exact z_rm (m := 4) (by decide) (by omega) (by decide)
  have d7 : oRem (y : Int) 1999 = some ((y % 1999 : Nat) : Int) := z_rm (m := 1999) (by decide) (by omega) (by decide)
  obtain ⟨w, hw⟩ : ∃ w : Int, w = ((y % 1999 : Nat) : Int) - 999 := ⟨_, rfl⟩
  have w1 : -999 ≤ w := by omega
  have w2 : w ≤ 999 := by omega
  obtain ⟨F, hF⟩ : ∃ F, F = S (50 + 9 * i) := ⟨_, rfl⟩
  obtain ⟨G, hG⟩ : ∃ G, G = S (50 + 9 * j) := ⟨_, rfl⟩
  have pF : pOk F := by rw [hF]; exact I.1 i h_i
  have pG : pOk G := by rw [hG]; exact I.1 j h_j
  have vF := fun Q : Nat → Int => f_value (X := kP Q) (S := S) h_i (by rw [← hF]; exact pF) w1 w2
  have vG := fun Q : Nat → Int => f_value (X := kP Q) (S := S) h_j (by rw [← hG]; exact pG) w1 w2
  rw [← hF] at vF
  rw [← hG] at vG
  have vFb := z_val_b pF w1 w2 9 (Nat.le_refl 9)
  have vGb := z_val_b pG w1 w2 9 (Nat.le_refl 9)
  have mF : ∀ k, k < 9 → P (9 * i + k) = F k := fun k hk => by rw [hF]; exact M i k h_i hk
  have mG : ∀ k, k < 9 → P (9 * j + k) = G k := fun k hk => by rw [hG]; exact M j k h_j hk
  obtain ⟨H, hH⟩ : ∃ H, H = pMin F G := ⟨_, rfl⟩
  have pH : pOk H := by rw [hH]; exact pMin_ok pF pG
  obtain ⟨Z, hZ⟩ : ∃ Z, Z = z_at (9 * l) 9 H (z_at 36 9 H P) := ⟨_, rfl⟩
  obtain ⟨S', s1, s2⟩ := f_sum (X := kP Z) (S := S) h_i h_j h_l (by rw [← hF]; exact pF) (by rw [← hG]; exact pG)
  rw [← hF, ← hG, ← hH] at s1 s2
  have I' := s2.inv I h_l pH
  have M' : pMr Z S' := M.set h_l s2 (fun k hk => by rw [hZ]; exact z_at_in hk) (fun q h1 h2 => by
    rw [hZ, z_at_out h2, z_at_out (by omega)])
  have pl : pOk (S' (50 + 9 * l)) := I'.1 l h_l
  have vl := f_value (X := kP Z) (S := S') h_l pl w1 w2
  have ev : z_val (S' (50 + 9 * l)) w 9 = if z_val G w 9 < z_val F w 9 then z_val G w 9 else z_val F w 9 := by
    rw [z_val_cg 9 s2.1, hH]
    have e : pMin F G = fun k => if F k < G k then F k else G k := by
      funext k
      unfold pMin
      split <;> split <;> omega
    rw [e, pV_min pF pG w1 w2 9 (Nat.le_refl 9)]
    split <;> split <;> omega
  rw [ev] at vl
  have ls := f_lesser (a := z_val F w 9) (b := z_val G w 9) ⟨by omega, by omega⟩ ⟨by omega, by omega⟩
  have n22 : ¬ ((2 : Int) < 2) := by decide
  refine ⟨Z, S', ?_, I', M'⟩
  unfold m_L_polys
  apply q_body
  have b6 : INF = 1000000 := rfl
  simp only [b_L_polys, s_L_polys_5, s_L_polys_12, s_L_polys_20, s_L_polys_28, s_L_polys_39, s_L_polys_146, s_L_polys_155, s_L_polys_165, s_L_polys_175, d0, d1, d2, d3, d4, d5, d6, d7, n22, ← hw, vF, vG, z_vB1, z_vB0, if_true, if_false, not_true_eq_false, not_false_eq_true, exists_eq, qS_nop, qS_seq, qS_set, qS_setJ, qS_if, qS_brk, qS_ret, qS_retV, qS_throw, qS_inc, qS_cl, qS_ast, qS_aop, qS_fst, qS_fop, qS_sw, qT_eC, qT_eCB, qT_eL, qT_eLJ, qT_eLR, qT_eLS, qT_eSLen, qT_eSLd, qT_eLB, qT_e1, qT_e2, qT_bCmp, qT_bCmpJ, qT_bAnd, qT_bOr, qT_bNot, qT_eBI, qT_eIf, qT_eLd, qT_eLdR, qT_eLen, qT_eF, qT_eFR, qT_aN, qT_aS, qT_eCl, qT_eClR, qT_eClB, qT_some, qT_x, z_nx_N, z_nx_B, z_nx_R, z_nx_X, z_bk_N, z_bk_B, z_bk_R, z_bk_X, oAdd, oSub, oMul, oNeg, cLt, cLe, cGt, cGe, cEq, cNe, Option.some.injEq, Sum.inl.injEq, Sum.inr.injEq, Prod.mk.injEq, exists_eq_left, exists_eq_left', exists_eq_right, exists_and_left, reduceCtorEq, and_true, true_and, and_false, false_and, List.getElem?_cons_zero, List.getElem?_cons_succ, List.set_cons_zero, List.set_cons_succ, List.replicate, List.length_cons, List.length_nil, List.cons_append, List.nil_append, Nat.reduceAdd, Nat.reduceSub, decide_eq_true_eq, decide_eq_false_iff_not, Bool.true_eq_false, Bool.false_eq_true, true_implies, false_implies, implies_true, Nat.reduceLT, exists_const, z_vB_inj, and_assoc, z_in_iff, oI2L, oL2I, Int.toNat_natCast, z_toNat0, Bool.not_eq_true', Bool.not_eq_false', ne_eq, Bool.not_true, Bool.not_false, Nat.add_zero, Int.add_zero, z_sl_s]
  repeat (refine And.intro (by omega) ?_)
  refine qS_loop (fun k ρ h' => h' = k_W (kP (z_at 36 k H P)) S ∧ ∃ z, ρ = [vR 0, vI (x : Int), vI (y : Int), vR 85, vI 2, vI (i : Int), vI (j : Int), vI (l : Int), vI w, vI (z_cnt (fun k => z_dec (H k ≠ INF)) k), vI (z_val F w 9), vI (z_val G w 9), vI (k : Int), z, vU]) 9 ?_ ?_ 9 0 z_fuel _ _ (by omega) (z_fuel_lt (by omega)) ⟨by rw [z_at_0], vU, rfl⟩
  · rintro k ρ h' hk ⟨rfl, z, rfl⟩
    have bF := pF.z hk
    have bG := pG.z hk
    have l1 := f_lesser (a := F k) (b := G k) ⟨by omega, by omega⟩ ⟨by omega, by omega⟩
    have eH : (if G k < F k then G k else F k) = H k := by rw [hH]; rfl
    rw [eH] at l1
    have bH := pH.z hk
    have t1 : (9 * (i : Int) + (k : Int)).toNat = 9 * i + k := by omega
    have t2 : (9 * (j : Int) + (k : Int)).toNat = 9 * j + k := by omega
    have t3 : (36 + (k : Int)).toNat = 36 + k := by omega
    have m1 : z_at 36 k H P (9 * i + k) = F k := by rw [z_at_out (by omega)]; exact mF k hk
    have m2 : z_at 36 k H P (9 * j + k) = G k := by rw [z_at_out (by omega)]; exact mG k hk
    have zs := z_at_s 36 k H P
    have cc := z_cnt_b (fun k => z_dec (H k ≠ INF)) k
    have hc := z_cs H k
    simp only [l_L_polys_185, s_L_polys_210, s_L_polys_227, kP_a, kP_s, t1, t2, t3, m1, m2, l1, zs, z_vB1, z_vB0, if_true, if_false, not_true_eq_false, not_false_eq_true, exists_eq, qS_nop, qS_seq, qS_set, qS_setJ, qS_if, qS_brk, qS_ret, qS_retV, qS_throw, qS_inc, qS_cl, qS_ast, qS_aop, qS_fst, qS_fop, qS_sw, qT_eC, qT_eCB, qT_eL, qT_eLJ, qT_eLR, qT_eLS, qT_eSLen, qT_eSLd, qT_eLB, qT_e1, qT_e2, qT_bCmp, qT_bCmpJ, qT_bAnd, qT_bOr, qT_bNot, qT_eBI, qT_eIf, qT_eLd, qT_eLdR, qT_eLen, qT_eF, qT_eFR, qT_aN, qT_aS, qT_eCl, qT_eClR, qT_eClB, qT_some, qT_x, z_nx_N, z_nx_B, z_nx_R, z_nx_X, z_bk_N, z_bk_B, z_bk_R, z_bk_X, oAdd, oSub, oMul, oNeg, cLt, cLe, cGt, cGe, cEq, cNe, Option.some.injEq, Sum.inl.injEq, Sum.inr.injEq, Prod.mk.injEq, exists_eq_left, exists_eq_left', exists_eq_right, exists_and_left, reduceCtorEq, and_true, true_and, and_false, false_and, List.getElem?_cons_zero, List.getElem?_cons_succ, List.set_cons_zero, List.set_cons_succ, List.replicate, List.length_cons, List.length_nil, List.cons_append, List.nil_append, Nat.reduceAdd, Nat.reduceSub, decide_eq_true_eq, decide_eq_false_iff_not, Bool.true_eq_false, Bool.false_eq_true, true_implies, false_implies, implies_true, Nat.reduceLT, exists_const, z_vB_inj, and_assoc, z_in_iff, oI2L, oL2I, Int.toNat_natCast, z_toNat0, Bool.not_eq_true', Bool.not_eq_false', ne_eq, Bool.not_true, Bool.not_false, Nat.add_zero, Int.add_zero, z_sl_s]
    rcases hc with ⟨c1, c2⟩ | ⟨c1, c2⟩
    · rw [c2]
      (repeat' (first | apply And.intro | intro _)) <;> first | omega | rfl | grind
    · rw [c2]
      (repeat' (first | apply And.intro | intro _)) <;> first | omega | rfl | grind
  · rintro ρ h' ⟨rfl, z, rfl⟩
    simp only [s_L_polys_242, qS_nop, qS_seq, qS_set, qS_setJ, qS_if, qS_brk, qS_ret, qS_retV, qS_throw, qS_inc, qS_cl, qS_ast, qS_aop, qS_fst, qS_fop, qS_sw, qT_eC, qT_eCB, qT_eL, qT_eLJ, qT_eLR, qT_eLS, qT_eSLen, qT_eSLd, qT_eLB, qT_e1, qT_e2, qT_bCmp, qT_bCmpJ, qT_bAnd, qT_bOr, qT_bNot, qT_eBI, qT_eIf, qT_eLd, qT_eLdR, qT_eLen, qT_eF, qT_eFR, qT_aN, qT_aS, qT_eCl, qT_eClR, qT_eClB, qT_some, qT_x, z_nx_N, z_nx_B, z_nx_R, z_nx_X, z_bk_N, z_bk_B, z_bk_R, z_bk_X, oAdd, oSub, oMul, oNeg, cLt, cLe, cGt, cGe, cEq, cNe, Option.some.injEq, Sum.inl.injEq, Sum.inr.injEq, Prod.mk.injEq, exists_eq_left, exists_eq_left', exists_eq_right, exists_and_left, reduceCtorEq, and_true, true_and, and_false, false_and, List.getElem?_cons_zero, List.getElem?_cons_succ, List.set_cons_zero, List.set_cons_succ, List.replicate, List.length_cons, List.length_nil, List.cons_append, List.nil_append, Nat.reduceAdd, Nat.reduceSub, decide_eq_true_eq, decide_eq_false_iff_not, Bool.true_eq_false, Bool.false_eq_true, true_implies, false_implies, implies_true, Nat.reduceLT, exists_const, z_vB_inj, and_assoc, z_in_iff, oI2L, oL2I, Int.toNat_natCast, z_toNat0, Bool.not_eq_true', Bool.not_eq_false', ne_eq, Bool.not_true, Bool.not_false, Nat.add_zero, Int.add_zero, z_sl_s]
    repeat (refine And.intro (by omega) ?_)
    refine qS_for (fun k => [vR 0, vI (x : Int), vI (y : Int), vR 85, vI 2, vI (i : Int), vI (j : Int), vI (l : Int), vI w, vI (z_cnt (fun k => z_dec (H k ≠ INF)) 9), vI (z_val F w 9), vI (z_val G w 9), vI (k : Int), z, vU]) (fun k => k_W (kP (z_at (9 * l) k H (z_at 36 9 H P))) S) (fun _ => True) 9 rfl (by rw [z_at_0]) trivial (by decide) ?_ ?_
    · intro k hk _
      have t1 : (9 * (l : Int) + (k : Int)).toNat = 9 * l + k := by omega
      have t3 : (36 + (k : Int)).toNat = 36 + k := by omega
      have m1 : z_at (9 * l) k H (z_at 36 9 H P) (36 + k) = H k := by rw [z_at_out (by omega)]; exact z_at_in hk
      have zs := z_at_s (9 * l) k H (z_at 36 9 H P)
      simp only [l_L_polys_252, kP_a, kP_s, t1, t3, m1, zs, qS_nop, qS_seq, qS_set, qS_setJ, qS_if, qS_brk, qS_ret, qS_retV, qS_throw, qS_inc, qS_cl, qS_ast, qS_aop, qS_fst, qS_fop, qS_sw, qT_eC, qT_eCB, qT_eL, qT_eLJ, qT_eLR, qT_eLS, qT_eSLen, qT_eSLd, qT_eLB, qT_e1, qT_e2, qT_bCmp, qT_bCmpJ, qT_bAnd, qT_bOr, qT_bNot, qT_eBI, qT_eIf, qT_eLd, qT_eLdR, qT_eLen, qT_eF, qT_eFR, qT_aN, qT_aS, qT_eCl, qT_eClR, qT_eClB, qT_some, qT_x, z_nx_N, z_nx_B, z_nx_R, z_nx_X, z_bk_N, z_bk_B, z_bk_R, z_bk_X, oAdd, oSub, oMul, oNeg, cLt, cLe, cGt, cGe, cEq, cNe, Option.some.injEq, Sum.inl.injEq, Sum.inr.injEq, Prod.mk.injEq, exists_eq_left, exists_eq_left', exists_eq_right, exists_and_left, reduceCtorEq, and_true, true_and, and_false, false_and, List.getElem?_cons_zero, List.getElem?_cons_succ, List.set_cons_zero, List.set_cons_succ, List.replicate, List.length_cons, List.length_nil, List.cons_append, List.nil_append, Nat.reduceAdd, Nat.reduceSub, decide_eq_true_eq, decide_eq_false_iff_not, Bool.true_eq_false, Bool.false_eq_true, true_implies, false_implies, implies_true, Nat.reduceLT, exists_const, z_vB_inj, and_assoc, z_in_iff, oI2L, oL2I, Int.toNat_natCast, z_toNat0, Bool.not_eq_true', Bool.not_eq_false', ne_eq, Bool.not_true, Bool.not_false, Nat.add_zero, Int.add_zero, z_sl_s]
      (repeat' (first | apply And.intro | intro _)) <;> first | omega | rfl | grind
    · intro _
      have cc := z_cnt_b (fun k => z_dec (H k ≠ INF)) 9
      rw [← hZ]
      simp only [s_L_polys_275, s1, vl, ls, z_vB1, z_vB0, if_true, if_false, not_true_eq_false, not_false_eq_true, exists_eq, qS_nop, qS_seq, qS_set, qS_setJ, qS_if, qS_brk, qS_ret, qS_retV, qS_throw, qS_inc, qS_cl, qS_ast, qS_aop, qS_fst, qS_fop, qS_sw, qT_eC, qT_eCB, qT_eL, qT_eLJ, qT_eLR, qT_eLS, qT_eSLen, qT_eSLd, qT_eLB, qT_e1, qT_e2, qT_bCmp, qT_bCmpJ, qT_bAnd, qT_bOr, qT_bNot, qT_eBI, qT_eIf, qT_eLd, qT_eLdR, qT_eLen, qT_eF, qT_eFR, qT_aN, qT_aS, qT_eCl, qT_eClR, qT_eClB, qT_some, qT_x, z_nx_N, z_nx_B, z_nx_R, z_nx_X, z_bk_N, z_bk_B, z_bk_R, z_bk_X, oAdd, oSub, oMul, oNeg, cLt, cLe, cGt, cGe, cEq, cNe, Option.some.injEq, Sum.inl.injEq, Sum.inr.injEq, Prod.mk.injEq, exists_eq_left, exists_eq_left', exists_eq_right, exists_and_left, reduceCtorEq, and_true, true_and, and_false, false_and, List.getElem?_cons_zero, List.getElem?_cons_succ, List.set_cons_zero, List.set_cons_succ, List.replicate, List.length_cons, List.length_nil, List.cons_append, List.nil_append, Nat.reduceAdd, Nat.reduceSub, decide_eq_true_eq, decide_eq_false_iff_not, Bool.true_eq_false, Bool.false_eq_true, true_implies, false_implies, implies_true, Nat.reduceLT, exists_const, z_vB_inj, and_assoc, z_in_iff, oI2L, oL2I, Int.toNat_natCast, z_toNat0, Bool.not_eq_true', Bool.not_eq_false', ne_eq, Bool.not_true, Bool.not_false, Nat.add_zero, Int.add_zero, z_sl_s]
      (repeat' (first | apply And.intro | intro _)) <;> first | omega | rfl | grind
end LP2
