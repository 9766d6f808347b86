/-! THE LAW: products -/
section LP3
variable {P : Nat → Int} {S : Nat → Nat → Int}
theorem z_n0 {k : Nat} {p : Prop} (h : k < 0) : p := absurd h (Nat.not_lt_zero k)
theorem rMk_ua {f g G : Nat → Int} {k : Nat} (hk : k < 81) : z_up (z_at 36 17 (rMk f g k) G) (36 + (k / 9 + k % 9)) (if z_plus (f (k / 9)) (g (k % 9)) < rMk f g k (k / 9 + k % 9) then z_plus (f (k / 9)) (g (k % 9)) else rMk f g k (k / 9 + k % 9)) = z_at 36 17 (rMk f g (k + 1)) G := by
  funext x
  unfold z_up z_at
  by_cases c : x = 36 + (k / 9 + k % 9)
  · rw [if_pos c, if_pos (show 36 ≤ x ∧ x < 36 + 17 by omega)]
    conv => rhs; unfold rMk
    rw [show x - 36 = k / 9 + k % 9 by omega, if_pos (rfl : k / 9 + k % 9 = k / 9 + k % 9)]
  · rw [if_neg c]
    by_cases d : 36 ≤ x ∧ x < 36 + 17
    · rw [if_pos d, if_pos d]
      conv => rhs; unfold rMk
      rw [if_neg (by omega)]
    · rw [if_neg d, if_neg d]
theorem z_dec_and (A B : Prop) : z_dec (A ∧ B) = (z_dec A && z_dec B) := by
  by_cases a : A
  · by_cases b : B
    · rw [(z_dec_iff _).mpr ⟨a, b⟩, (z_dec_iff _).mpr a, (z_dec_iff _).mpr b]; rfl
    · rw [(z_dec_f (A ∧ B)).mpr (fun w => b w.2), (z_dec_f B).mpr b, Bool.and_false]
  · rw [(z_dec_f (A ∧ B)).mpr (fun w => a w.1), (z_dec_f A).mpr a, Bool.false_and]
theorem rMf_s {f g : Nat → Int} {m : Nat} : z_dec (∀ k, k < m + 1 → rMf (rMk f g 81 k) k) = (z_dec (∀ k, k < m → rMf (rMk f g 81 k) k) && z_dec (rMf (rMk f g 81 m) m)) := by
  rw [← z_dec_and]
  exact z_dec_c _ _ ⟨fun q => ⟨fun k hk => q k (by omega), q m (by omega)⟩, fun q k hk => by rcases Nat.lt_succ_iff_lt_or_eq.mp hk with h | rfl; exact q.1 k h; exact q.2⟩
theorem rMf_d (x : Int) (m : Nat) : (m < 9 → (z_dec (rMf x m) = true ↔ (x = INF ∨ (-9999 ≤ x ∧ x ≤ 9999)))) ∧ (¬ m < 9 → (z_dec (rMf x m) = true ↔ x = INF)) := by
  rw [z_dec_iff]
  unfold rMf
  refine ⟨fun h => ?_, fun h => ?_⟩
  · rw [if_pos h]; omega
  · rw [if_neg h]
theorem f_polys3 (I : cInv S) (M : pMr P S) {x y : Nat} (hx : x < 1073741824) (hy : y < 1073741824) (hwh : x % 5 = 3) : lpR m_L_polys x y P S := by
  have b6 : INF = 1000000 := rfl
  obtain ⟨i, hi⟩ : ∃ i, i = x / 5 % 4 := ⟨_, rfl⟩
  obtain ⟨j, hj⟩ : ∃ j, j = x / 20 % 4 := ⟨_, rfl⟩
  obtain ⟨l, hl⟩ : ∃ l, l = x / 80 % 4 := ⟨_, rfl⟩
  have h_i : i < 4 := by omega
  have h_j : j < 4 := by omega
  have h_l : l < 4 := by omega
  have d0 : oRem (x : Int) 5 = some (3 : Int) := by
    rw [show (3 : Int) = ((x % 5 : Nat) : Int) by omega]
    exact z_rm (m := 5) (by decide) (by omega) (by decide)
  have d1 : oDiv (x : Int) 5 = some ((x / 5 : Nat) : Int) := z_dv (m := 5) (by decide) (by omega) (by decide)
  have d2 : oRem ((x / 5 : Nat) : Int) 4 = some (i : Int) := by rw [hi]; exact z_rm (m := 4) (by decide) (by omega) (by decide)
  have d3 : oDiv (x : Int) 20 = some ((x / 20 : Nat) : Int) := z_dv (m := 20) (by decide) (by omega) (by decide)
  have d4 : oRem ((x / 20 : Nat) : Int) 4 = some (j : Int) := by rw [hj]; exact z_rm (m := 4) (by decide) (by omega) (by decide)
  have d5 : oDiv (x : Int) 80 = some ((x / 80 : Nat) : Int) := z_dv (m := 80) (by decide) (by omega) (by decide)
  have d6 : oRem ((x / 80 : Nat) : Int) 4 = some (l : Int) := by rw [hl]; exact z_rm (m := 4) (by decide) (by omega) (by decide)
  have d7 : oRem (y : Int) 1999 = some ((y % 1999 : Nat) : Int) := z_rm (m := 1999) (by decide) (by omega) (by decide)
  obtain ⟨w, hw⟩ : ∃ w : Int, w = ((y % 1999 : Nat) : Int) - 999 := ⟨_, rfl⟩
  have w1 : -999 ≤ w := by omega
  have w2 : w ≤ 999 := by omega
  obtain ⟨F, hF⟩ : ∃ F, F = S (50 + 9 * i) := ⟨_, rfl⟩
  obtain ⟨G, hG⟩ : ∃ G, G = S (50 + 9 * j) := ⟨_, rfl⟩
  have pF : pOk F := by rw [hF]; exact I.1 i h_i
  have pG : pOk G := by rw [hG]; exact I.1 j h_j
  have vF := fun Q : Nat → Int => f_value (X := kP Q) (S := S) h_i (by rw [← hF]; exact pF) w1 w2
  have vG := fun Q : Nat → Int => f_value (X := kP Q) (S := S) h_j (by rw [← hG]; exact pG) w1 w2
  rw [← hF] at vF
  rw [← hG] at vG
  have vFb := z_val_b pF w1 w2 9 (Nat.le_refl 9)
  have vGb := z_val_b pG w1 w2 9 (Nat.le_refl 9)
  have mF : ∀ k, k < 9 → P (9 * i + k) = F k := fun k hk => by rw [hF]; exact M i k h_i hk
  have mG : ∀ k, k < 9 → P (9 * j + k) = G k := fun k hk => by rw [hG]; exact M j k h_j hk
  have n32 : ¬ ((3 : Int) < 2) := by decide
  have n33 : ¬ ((3 : Int) = 2) := by decide
  have all := rMk_all pF pG
  obtain ⟨S', s1, s2⟩ := f_product (X := kP P) (S := S) h_i h_j h_l (by rw [← hF]; exact pF) (by rw [← hG]; exact pG)
  clear s1 s2
  by_cases Q : pFits F G 9 ∧ pOk (pMul F G)
  · have hm := (z_dec_iff _).mpr (all.mpr Q)
    obtain ⟨Z, hZ⟩ : ∃ Z, Z = z_at (9 * l) 9 (pMul F G) (z_at 36 17 (rMk F G 81) P) := ⟨_, rfl⟩
    obtain ⟨S', -, s1⟩ := f_product (X := kP Z) (S := S) h_i h_j h_l (by rw [← hF]; exact pF) (by rw [← hG]; exact pG)
    rw [← hF, ← hG] at s1
    obtain ⟨s1, s2⟩ := s1 Q
    have as := f_asks0_ok s1
    have I' := s2.inv I h_l Q.2
    have M' : pMr Z S' := M.set h_l s2 (fun k hk => by rw [hZ]; exact z_at_in hk) (fun q h1 h2 => by
      rw [hZ, z_at_out h2, z_at_out (by omega)])
    have pl : pOk (S' (50 + 9 * l)) := I'.1 l h_l
    have vl := f_value (X := kP Z) (S := S') h_l pl w1 w2
    have ev : z_val (S' (50 + 9 * l)) w 9 = z_plus (z_val F w 9) (z_val G w 9) := by
      rw [z_val_cg 9 s2.1, pMul_pOk_v pF pG Q.2 Q.1 w1 w2]
    have vlb := z_val_b pl w1 w2 9 (Nat.le_refl 9)
    rw [ev] at vl vlb
    have ls := f_lplus (a := z_val F w 9) (b := z_val G w 9) ⟨by omega, by omega⟩ ⟨by omega, by omega⟩
    have c17 := rMk_cnt ((rMk_fits pF pG).mpr Q.1)
    refine ⟨Z, S', ?_, I', M'⟩
    unfold m_L_polys
    apply q_body
    have b6 : INF = 1000000 := rfl
    simp only [b_L_polys, s_L_polys_5, s_L_polys_12, s_L_polys_20, s_L_polys_28, s_L_polys_39, s_L_polys_146, s_L_polys_314, s_L_polys_323, s_L_polys_333, s_L_polys_343, s_L_polys_346, d0, d1, d2, d3, d4, d5, d6, d7, n32, n33, ← hw, vF, vG, z_vB1, z_vB0, if_true, if_false, not_true_eq_false, not_false_eq_true, exists_eq, qS_nop, qS_seq, qS_set, qS_setJ, qS_if, qS_brk, qS_ret, qS_retV, qS_throw, qS_inc, qS_cl, qS_ast, qS_aop, qS_fst, qS_fop, qS_sw, qT_eC, qT_eCB, qT_eL, qT_eLJ, qT_eLR, qT_eLS, qT_eSLen, qT_eSLd, qT_eLB, qT_e1, qT_e2, qT_bCmp, qT_bCmpJ, qT_bAnd, qT_bOr, qT_bNot, qT_eBI, qT_eIf, qT_eLd, qT_eLdR, qT_eLen, qT_eF, qT_eFR, qT_aN, qT_aS, qT_eCl, qT_eClR, qT_eClB, qT_some, qT_x, z_nx_N, z_nx_B, z_nx_R, z_nx_X, z_bk_N, z_bk_B, z_bk_R, z_bk_X, oAdd, oSub, oMul, oNeg, cLt, cLe, cGt, cGe, cEq, cNe, Option.some.injEq, Sum.inl.injEq, Sum.inr.injEq, Prod.mk.injEq, exists_eq_left, exists_eq_left', exists_eq_right, exists_and_left, reduceCtorEq, and_true, true_and, and_false, false_and, List.getElem?_cons_zero, List.getElem?_cons_succ, List.set_cons_zero, List.set_cons_succ, List.replicate, List.length_cons, List.length_nil, List.cons_append, List.nil_append, Nat.reduceAdd, Nat.reduceSub, decide_eq_true_eq, decide_eq_false_iff_not, Bool.true_eq_false, Bool.false_eq_true, true_implies, false_implies, implies_true, Nat.reduceLT, exists_const, z_vB_inj, and_assoc, z_in_iff, oI2L, oL2I, Int.toNat_natCast, z_toNat0, Bool.not_eq_true', Bool.not_eq_false', ne_eq, Bool.not_true, Bool.not_false, Nat.add_zero, Int.add_zero, z_sl_s]
    repeat (refine And.intro (by omega) ?_)
    refine qS_for (fun k => [vR 0, vI (x : Int), vI (y : Int), vR 85, vI 3, vI (i : Int), vI (j : Int), vI (l : Int), vI w, vI 0, vI (z_val F w 9), vI (z_val G w 9), vB true, vI ((k : Int) + 36), vU]) (fun k => k_W (kP (z_at 36 k (fun _ => INF) P)) S) (fun _ => True) 17 rfl (by rw [z_at_0]) trivial (by decide) ?_ ?_
    · intro k hk _
      have t3 : ((k : Int) + 36).toNat = 36 + k := by omega
      have zs := z_at_s 36 k (fun _ => INF) P
      simp only [l_L_polys_357, kP_a, kP_s, t3, zs, qS_nop, qS_seq, qS_set, qS_setJ, qS_if, qS_brk, qS_ret, qS_retV, qS_throw, qS_inc, qS_cl, qS_ast, qS_aop, qS_fst, qS_fop, qS_sw, qT_eC, qT_eCB, qT_eL, qT_eLJ, qT_eLR, qT_eLS, qT_eSLen, qT_eSLd, qT_eLB, qT_e1, qT_e2, qT_bCmp, qT_bCmpJ, qT_bAnd, qT_bOr, qT_bNot, qT_eBI, qT_eIf, qT_eLd, qT_eLdR, qT_eLen, qT_eF, qT_eFR, qT_aN, qT_aS, qT_eCl, qT_eClR, qT_eClB, qT_some, qT_x, z_nx_N, z_nx_B, z_nx_R, z_nx_X, z_bk_N, z_bk_B, z_bk_R, z_bk_X, oAdd, oSub, oMul, oNeg, cLt, cLe, cGt, cGe, cEq, cNe, Option.some.injEq, Sum.inl.injEq, Sum.inr.injEq, Prod.mk.injEq, exists_eq_left, exists_eq_left', exists_eq_right, exists_and_left, reduceCtorEq, and_true, true_and, and_false, false_and, List.getElem?_cons_zero, List.getElem?_cons_succ, List.set_cons_zero, List.set_cons_succ, List.replicate, List.length_cons, List.length_nil, List.cons_append, List.nil_append, Nat.reduceAdd, Nat.reduceSub, decide_eq_true_eq, decide_eq_false_iff_not, Bool.true_eq_false, Bool.false_eq_true, true_implies, false_implies, implies_true, Nat.reduceLT, exists_const, z_vB_inj, and_assoc, z_in_iff, oI2L, oL2I, Int.toNat_natCast, z_toNat0, Bool.not_eq_true', Bool.not_eq_false', ne_eq, Bool.not_true, Bool.not_false, Nat.add_zero, Int.add_zero, z_sl_s]
      (repeat' (first | apply And.intro | intro _)) <;> first | omega | rfl | grind
    · intro _
      simp only [s_L_polys_369, qS_nop, qS_seq, qS_set, qS_setJ, qS_if, qS_brk, qS_ret, qS_retV, qS_throw, qS_inc, qS_cl, qS_ast, qS_aop, qS_fst, qS_fop, qS_sw, qT_eC, qT_eCB, qT_eL, qT_eLJ, qT_eLR, qT_eLS, qT_eSLen, qT_eSLd, qT_eLB, qT_e1, qT_e2, qT_bCmp, qT_bCmpJ, qT_bAnd, qT_bOr, qT_bNot, qT_eBI, qT_eIf, qT_eLd, qT_eLdR, qT_eLen, qT_eF, qT_eFR, qT_aN, qT_aS, qT_eCl, qT_eClR, qT_eClB, qT_some, qT_x, z_nx_N, z_nx_B, z_nx_R, z_nx_X, z_bk_N, z_bk_B, z_bk_R, z_bk_X, oAdd, oSub, oMul, oNeg, cLt, cLe, cGt, cGe, cEq, cNe, Option.some.injEq, Sum.inl.injEq, Sum.inr.injEq, Prod.mk.injEq, exists_eq_left, exists_eq_left', exists_eq_right, exists_and_left, reduceCtorEq, and_true, true_and, and_false, false_and, List.getElem?_cons_zero, List.getElem?_cons_succ, List.set_cons_zero, List.set_cons_succ, List.replicate, List.length_cons, List.length_nil, List.cons_append, List.nil_append, Nat.reduceAdd, Nat.reduceSub, decide_eq_true_eq, decide_eq_false_iff_not, Bool.true_eq_false, Bool.false_eq_true, true_implies, false_implies, implies_true, Nat.reduceLT, exists_const, z_vB_inj, and_assoc, z_in_iff, oI2L, oL2I, Int.toNat_natCast, z_toNat0, Bool.not_eq_true', Bool.not_eq_false', ne_eq, Bool.not_true, Bool.not_false, Nat.add_zero, Int.add_zero, z_sl_s]
      repeat (refine And.intro (by omega) ?_)
      refine qS_loop (fun k ρ h' => h' = k_W (kP (z_at 36 17 (rMk F G k) P)) S ∧ ∃ z, ρ = [vR 0, vI (x : Int), vI (y : Int), vR 85, vI 3, vI (i : Int), vI (j : Int), vI (l : Int), vI w, vI 0, vI (z_val F w 9), vI (z_val G w 9), vB true, vI (k : Int), z]) 81 ?_ ?_ 81 0 z_fuel _ _ (by omega) (z_fuel_lt (by omega)) ⟨rfl, vU, rfl⟩
      · rintro k ρ h' hk ⟨rfl, z, rfl⟩
        have g1 : oDiv (k : Int) 9 = some ((k / 9 : Nat) : Int) := z_dv (m := 9) (by decide) (by omega) (by decide)
        have g2 : oRem (k : Int) 9 = some ((k % 9 : Nat) : Int) := z_rm (m := 9) (by decide) (by omega) (by decide)
        have h9 : k / 9 < 9 := by omega
        have h8 : k % 9 < 9 := by omega
        have b1 := pF _ h9
        have b2 := pG _ h8
        have b3 := z_plus_inf b1 b2
        have b4 := rMk_b pF pG k (k / 9 + k % 9) (by omega)
        have b5 := rMk_le F G k (k / 9 + k % 9)
        have e1 := f_lplus (a := F (k / 9)) (b := G (k % 9)) ⟨by omega, by omega⟩ ⟨by omega, by omega⟩
        have e2 := f_lesser (a := rMk F G k (k / 9 + k % 9)) (b := z_plus (F (k / 9)) (G (k % 9))) ⟨by omega, by omega⟩ ⟨by omega, by omega⟩
        have t : (36 + ((k / 9 : Nat) : Int) + ((k % 9 : Nat) : Int)).toNat = 36 + (k / 9 + k % 9) := by omega
        have t1 : (9 * (i : Int) + ((k / 9 : Nat) : Int)).toNat = 9 * i + k / 9 := by omega
        have t2 : (9 * (j : Int) + ((k % 9 : Nat) : Int)).toNat = 9 * j + k % 9 := by omega
        have m1 : z_at 36 17 (rMk F G k) P (9 * i + k / 9) = F (k / 9) := by rw [z_at_out (by omega)]; exact mF _ h9
        have m2 : z_at 36 17 (rMk F G k) P (9 * j + k % 9) = G (k % 9) := by rw [z_at_out (by omega)]; exact mG _ h8
        have m3 : z_at 36 17 (rMk F G k) P (36 + (k / 9 + k % 9)) = rMk F G k (k / 9 + k % 9) := z_at_in (by omega)
        have u := rMk_ua (f := F) (g := G) (G := P) hk
        simp only [l_L_polys_379, s_L_polys_395, kP_a, kP_s, g1, g2, t, t1, t2, m1, m2, m3, e1, e2, u, qS_nop, qS_seq, qS_set, qS_setJ, qS_if, qS_brk, qS_ret, qS_retV, qS_throw, qS_inc, qS_cl, qS_ast, qS_aop, qS_fst, qS_fop, qS_sw, qT_eC, qT_eCB, qT_eL, qT_eLJ, qT_eLR, qT_eLS, qT_eSLen, qT_eSLd, qT_eLB, qT_e1, qT_e2, qT_bCmp, qT_bCmpJ, qT_bAnd, qT_bOr, qT_bNot, qT_eBI, qT_eIf, qT_eLd, qT_eLdR, qT_eLen, qT_eF, qT_eFR, qT_aN, qT_aS, qT_eCl, qT_eClR, qT_eClB, qT_some, qT_x, z_nx_N, z_nx_B, z_nx_R, z_nx_X, z_bk_N, z_bk_B, z_bk_R, z_bk_X, oAdd, oSub, oMul, oNeg, cLt, cLe, cGt, cGe, cEq, cNe, Option.some.injEq, Sum.inl.injEq, Sum.inr.injEq, Prod.mk.injEq, exists_eq_left, exists_eq_left', exists_eq_right, exists_and_left, reduceCtorEq, and_true, true_and, and_false, false_and, List.getElem?_cons_zero, List.getElem?_cons_succ, List.set_cons_zero, List.set_cons_succ, List.replicate, List.length_cons, List.length_nil, List.cons_append, List.nil_append, Nat.reduceAdd, Nat.reduceSub, decide_eq_true_eq, decide_eq_false_iff_not, Bool.true_eq_false, Bool.false_eq_true, true_implies, false_implies, implies_true, Nat.reduceLT, exists_const, z_vB_inj, and_assoc, z_in_iff, oI2L, oL2I, Int.toNat_natCast, z_toNat0, Bool.not_eq_true', Bool.not_eq_false', ne_eq, Bool.not_true, Bool.not_false, Nat.add_zero, Int.add_zero, z_sl_s]
        (repeat' (first | apply And.intro | intro _)) <;> first | omega | rfl | grind
      · rintro ρ h' ⟨rfl, z, rfl⟩
        simp only [s_L_polys_441, qS_nop, qS_seq, qS_set, qS_setJ, qS_if, qS_brk, qS_ret, qS_retV, qS_throw, qS_inc, qS_cl, qS_ast, qS_aop, qS_fst, qS_fop, qS_sw, qT_eC, qT_eCB, qT_eL, qT_eLJ, qT_eLR, qT_eLS, qT_eSLen, qT_eSLd, qT_eLB, qT_e1, qT_e2, qT_bCmp, qT_bCmpJ, qT_bAnd, qT_bOr, qT_bNot, qT_eBI, qT_eIf, qT_eLd, qT_eLdR, qT_eLen, qT_eF, qT_eFR, qT_aN, qT_aS, qT_eCl, qT_eClR, qT_eClB, qT_some, qT_x, z_nx_N, z_nx_B, z_nx_R, z_nx_X, z_bk_N, z_bk_B, z_bk_R, z_bk_X, oAdd, oSub, oMul, oNeg, cLt, cLe, cGt, cGe, cEq, cNe, Option.some.injEq, Sum.inl.injEq, Sum.inr.injEq, Prod.mk.injEq, exists_eq_left, exists_eq_left', exists_eq_right, exists_and_left, reduceCtorEq, and_true, true_and, and_false, false_and, List.getElem?_cons_zero, List.getElem?_cons_succ, List.set_cons_zero, List.set_cons_succ, List.replicate, List.length_cons, List.length_nil, List.cons_append, List.nil_append, Nat.reduceAdd, Nat.reduceSub, decide_eq_true_eq, decide_eq_false_iff_not, Bool.true_eq_false, Bool.false_eq_true, true_implies, false_implies, implies_true, Nat.reduceLT, exists_const, z_vB_inj, and_assoc, z_in_iff, oI2L, oL2I, Int.toNat_natCast, z_toNat0, Bool.not_eq_true', Bool.not_eq_false', ne_eq, Bool.not_true, Bool.not_false, Nat.add_zero, Int.add_zero, z_sl_s]
        repeat (refine And.intro (by omega) ?_)
        refine qS_for (fun m => [vR 0, vI (x : Int), vI (y : Int), vR 85, vI 3, vI (i : Int), vI (j : Int), vI (l : Int), vI w, vI (z_cnt (fun k => z_dec (rMk F G 81 k ≠ INF)) m), vI (z_val F w 9), vI (z_val G w 9), vB (z_dec (∀ k, k < m → rMf (rMk F G 81 k) k)), vI ((m : Int) + 36), z]) (fun _ => k_W (kP (z_at 36 17 (rMk F G 81) P)) S) (fun _ => True) 17 ?_ rfl trivial (by decide) ?_ ?_
        · rw [show z_dec (∀ k, k < 0 → rMf (rMk F G 81 k) k) = true from (z_dec_iff _).mpr (fun k hk => absurd hk (Nat.not_lt_zero k))]
          rfl
        · intro m hm _
          have t3 : ((m : Int) + 36).toNat = 36 + m := by omega
          have m1 : z_at 36 17 (rMk F G 81) P (36 + m) = rMk F G 81 m := z_at_in hm
          have b4 := rMk_b pF pG 81 m (by omega)
          have b5 := rMk_le F G 81 m
          have wd : z_dec (∀ k, k < m + 1 → rMf (rMk F G 81 k) k) = (z_dec (∀ k, k < m → rMf (rMk F G 81 k) k) && z_dec (rMf (rMk F G 81 m) m)) := rMf_s
          have vd := rMf_d (rMk F G 81 m) m
          have cc := z_cnt_b (fun k => z_dec (rMk F G 81 k ≠ INF)) m
          have hc := z_cs (rMk F G 81) m
          rw [wd]
          generalize z_dec (rMf (rMk F G 81 m) m) = D at *
          generalize z_dec (∀ k, k < m → rMf (rMk F G 81 k) k) = B at *
          generalize z_cnt (fun k => z_dec (rMk F G 81 k ≠ INF)) (m + 1) = C1 at *
          generalize z_cnt (fun k => z_dec (rMk F G 81 k ≠ INF)) m = C at *
          simp only [l_L_polys_452, s_L_polys_512, kP_a, kP_s, t3, m1, qS_nop, qS_seq, qS_set, qS_setJ, qS_if, qS_brk, qS_ret, qS_retV, qS_throw, qS_inc, qS_cl, qS_ast, qS_aop, qS_fst, qS_fop, qS_sw, qT_eC, qT_eCB, qT_eL, qT_eLJ, qT_eLR, qT_eLS, qT_eSLen, qT_eSLd, qT_eLB, qT_e1, qT_e2, qT_bCmp, qT_bCmpJ, qT_bAnd, qT_bOr, qT_bNot, qT_eBI, qT_eIf, qT_eLd, qT_eLdR, qT_eLen, qT_eF, qT_eFR, qT_aN, qT_aS, qT_eCl, qT_eClR, qT_eClB, qT_some, qT_x, z_nx_N, z_nx_B, z_nx_R, z_nx_X, z_bk_N, z_bk_B, z_bk_R, z_bk_X, oAdd, oSub, oMul, oNeg, cLt, cLe, cGt, cGe, cEq, cNe, Option.some.injEq, Sum.inl.injEq, Sum.inr.injEq, Prod.mk.injEq, exists_eq_left, exists_eq_left', exists_eq_right, exists_and_left, reduceCtorEq, and_true, true_and, and_false, false_and, List.getElem?_cons_zero, List.getElem?_cons_succ, List.set_cons_zero, List.set_cons_succ, List.replicate, List.length_cons, List.length_nil, List.cons_append, List.nil_append, Nat.reduceAdd, Nat.reduceSub, decide_eq_true_eq, decide_eq_false_iff_not, Bool.true_eq_false, Bool.false_eq_true, true_implies, false_implies, implies_true, Nat.reduceLT, exists_const, z_vB_inj, and_assoc, z_in_iff, oI2L, oL2I, Int.toNat_natCast, z_toNat0, Bool.not_eq_true', Bool.not_eq_false', ne_eq, Bool.not_true, Bool.not_false, Nat.add_zero, Int.add_zero, z_sl_s]
          generalize rMk F G 81 m = A at *
          clear wd m1
          cases B <;> cases D <;> (repeat' (first | apply And.intro | intro _)) <;> first | omega | rfl | grind
        · intro _
          rw [hm, c17]
          simp only [s_L_polys_537, z_vB1, z_vB0, if_true, if_false, not_true_eq_false, not_false_eq_true, exists_eq, qS_nop, qS_seq, qS_set, qS_setJ, qS_if, qS_brk, qS_ret, qS_retV, qS_throw, qS_inc, qS_cl, qS_ast, qS_aop, qS_fst, qS_fop, qS_sw, qT_eC, qT_eCB, qT_eL, qT_eLJ, qT_eLR, qT_eLS, qT_eSLen, qT_eSLd, qT_eLB, qT_e1, qT_e2, qT_bCmp, qT_bCmpJ, qT_bAnd, qT_bOr, qT_bNot, qT_eBI, qT_eIf, qT_eLd, qT_eLdR, qT_eLen, qT_eF, qT_eFR, qT_aN, qT_aS, qT_eCl, qT_eClR, qT_eClB, qT_some, qT_x, z_nx_N, z_nx_B, z_nx_R, z_nx_X, z_bk_N, z_bk_B, z_bk_R, z_bk_X, oAdd, oSub, oMul, oNeg, cLt, cLe, cGt, cGe, cEq, cNe, Option.some.injEq, Sum.inl.injEq, Sum.inr.injEq, Prod.mk.injEq, exists_eq_left, exists_eq_left', exists_eq_right, exists_and_left, reduceCtorEq, and_true, true_and, and_false, false_and, List.getElem?_cons_zero, List.getElem?_cons_succ, List.set_cons_zero, List.set_cons_succ, List.replicate, List.length_cons, List.length_nil, List.cons_append, List.nil_append, Nat.reduceAdd, Nat.reduceSub, decide_eq_true_eq, decide_eq_false_iff_not, Bool.true_eq_false, Bool.false_eq_true, true_implies, false_implies, implies_true, Nat.reduceLT, exists_const, z_vB_inj, and_assoc, z_in_iff, oI2L, oL2I, Int.toNat_natCast, z_toNat0, Bool.not_eq_true', Bool.not_eq_false', ne_eq, Bool.not_true, Bool.not_false, Nat.add_zero, Int.add_zero, z_sl_s]
          repeat (refine And.intro (by omega) ?_)
          refine qS_for (fun k => [vR 0, vI (x : Int), vI (y : Int), vR 85, vI 3, vI (i : Int), vI (j : Int), vI (l : Int), vI w, vI (z_cnt (fun k => z_dec (pMul F G k ≠ INF)) 9), vI (z_val F w 9), vI (z_val G w 9), vB true, vI (k : Int), z]) (fun k => k_W (kP (z_at (9 * l) k (pMul F G) (z_at 36 17 (rMk F G 81) P))) S) (fun _ => True) 9 rfl (by rw [z_at_0]) trivial (by decide) ?_ ?_
          · intro k hk _
            have t1 : (9 * (l : Int) + (k : Int)).toNat = 9 * l + k := by omega
            have t3 : (36 + (k : Int)).toNat = 36 + k := by omega
            have m1 : z_at (9 * l) k (pMul F G) (z_at 36 17 (rMk F G 81) P) (36 + k) = pMul F G k := by rw [z_at_out (by omega), z_at_in (by omega), rMk_mul F G hk]
            have zs := z_at_s (9 * l) k (pMul F G) (z_at 36 17 (rMk F G 81) P)
            simp only [l_L_polys_552, kP_a, kP_s, t1, t3, m1, zs, z_vB1, z_vB0, if_true, if_false, not_true_eq_false, not_false_eq_true, exists_eq, qS_nop, qS_seq, qS_set, qS_setJ, qS_if, qS_brk, qS_ret, qS_retV, qS_throw, qS_inc, qS_cl, qS_ast, qS_aop, qS_fst, qS_fop, qS_sw, qT_eC, qT_eCB, qT_eL, qT_eLJ, qT_eLR, qT_eLS, qT_eSLen, qT_eSLd, qT_eLB, qT_e1, qT_e2, qT_bCmp, qT_bCmpJ, qT_bAnd, qT_bOr, qT_bNot, qT_eBI, qT_eIf, qT_eLd, qT_eLdR, qT_eLen, qT_eF, qT_eFR, qT_aN, qT_aS, qT_eCl, qT_eClR, qT_eClB, qT_some, qT_x, z_nx_N, z_nx_B, z_nx_R, z_nx_X, z_bk_N, z_bk_B, z_bk_R, z_bk_X, oAdd, oSub, oMul, oNeg, cLt, cLe, cGt, cGe, cEq, cNe, Option.some.injEq, Sum.inl.injEq, Sum.inr.injEq, Prod.mk.injEq, exists_eq_left, exists_eq_left', exists_eq_right, exists_and_left, reduceCtorEq, and_true, true_and, and_false, false_and, List.getElem?_cons_zero, List.getElem?_cons_succ, List.set_cons_zero, List.set_cons_succ, List.replicate, List.length_cons, List.length_nil, List.cons_append, List.nil_append, Nat.reduceAdd, Nat.reduceSub, decide_eq_true_eq, decide_eq_false_iff_not, Bool.true_eq_false, Bool.false_eq_true, true_implies, false_implies, implies_true, Nat.reduceLT, exists_const, z_vB_inj, and_assoc, z_in_iff, oI2L, oL2I, Int.toNat_natCast, z_toNat0, Bool.not_eq_true', Bool.not_eq_false', ne_eq, Bool.not_true, Bool.not_false, Nat.add_zero, Int.add_zero, z_sl_s]
            (repeat' (first | apply And.intro | intro _)) <;> first | omega | rfl | grind
          · intro _
            have cc := z_cnt_b (fun k => z_dec (pMul F G k ≠ INF)) 9
            rw [← hZ]
            simp only [s_L_polys_575, as, vl, ls, z_vB1, z_vB0, if_true, if_false, not_true_eq_false, not_false_eq_true, exists_eq, qS_nop, qS_seq, qS_set, qS_setJ, qS_if, qS_brk, qS_ret, qS_retV, qS_throw, qS_inc, qS_cl, qS_ast, qS_aop, qS_fst, qS_fop, qS_sw, qT_eC, qT_eCB, qT_eL, qT_eLJ, qT_eLR, qT_eLS, qT_eSLen, qT_eSLd, qT_eLB, qT_e1, qT_e2, qT_bCmp, qT_bCmpJ, qT_bAnd, qT_bOr, qT_bNot, qT_eBI, qT_eIf, qT_eLd, qT_eLdR, qT_eLen, qT_eF, qT_eFR, qT_aN, qT_aS, qT_eCl, qT_eClR, qT_eClB, qT_some, qT_x, z_nx_N, z_nx_B, z_nx_R, z_nx_X, z_bk_N, z_bk_B, z_bk_R, z_bk_X, oAdd, oSub, oMul, oNeg, cLt, cLe, cGt, cGe, cEq, cNe, Option.some.injEq, Sum.inl.injEq, Sum.inr.injEq, Prod.mk.injEq, exists_eq_left, exists_eq_left', exists_eq_right, exists_and_left, reduceCtorEq, and_true, true_and, and_false, false_and, List.getElem?_cons_zero, List.getElem?_cons_succ, List.set_cons_zero, List.set_cons_succ, List.replicate, List.length_cons, List.length_nil, List.cons_append, List.nil_append, Nat.reduceAdd, Nat.reduceSub, decide_eq_true_eq, decide_eq_false_iff_not, Bool.true_eq_false, Bool.false_eq_true, true_implies, false_implies, implies_true, Nat.reduceLT, exists_const, z_vB_inj, and_assoc, z_in_iff, oI2L, oL2I, Int.toNat_natCast, z_toNat0, Bool.not_eq_true', Bool.not_eq_false', ne_eq, Bool.not_true, Bool.not_false, Nat.add_zero, Int.add_zero, z_sl_s]
            (repeat' (first | apply And.intro | intro _)) <;> first | omega | rfl | grind
  · have hm := (z_dec_f _).mpr (fun w => Q (all.mp w))
    obtain ⟨Z, hZ⟩ : ∃ Z, Z = z_at 36 17 (rMk F G 81) P := ⟨_, rfl⟩
    obtain ⟨S', s1, -⟩ := f_product (X := kP Z) (S := S) h_i h_j h_l (by rw [← hF]; exact pF) (by rw [← hG]; exact pG)
    rw [← hF, ← hG] at s1
    obtain ⟨s1, s2⟩ := s1 Q
    have as := f_asks0_is s1
    have I' := I.eq s2
    have M' : pMr Z S' := fun q k hq hk => by
      rw [hZ, z_at_out (by omega)]
      exact M.w s2 q k hq hk
    refine ⟨Z, S', ?_, I', M'⟩
    unfold m_L_polys
    apply q_body
    have b6 : INF = 1000000 := rfl
    simp only [b_L_polys, s_L_polys_5, s_L_polys_12, s_L_polys_20, s_L_polys_28, s_L_polys_39, s_L_polys_146, s_L_polys_314, s_L_polys_323, s_L_polys_333, s_L_polys_343, s_L_polys_346, d0, d1, d2, d3, d4, d5, d6, d7, n32, n33, ← hw, vF, vG, z_vB1, z_vB0, if_true, if_false, not_true_eq_false, not_false_eq_true, exists_eq, qS_nop, qS_seq, qS_set, qS_setJ, qS_if, qS_brk, qS_ret, qS_retV, qS_throw, qS_inc, qS_cl, qS_ast, qS_aop, qS_fst, qS_fop, qS_sw, qT_eC, qT_eCB, qT_eL, qT_eLJ, qT_eLR, qT_eLS, qT_eSLen, qT_eSLd, qT_eLB, qT_e1, qT_e2, qT_bCmp, qT_bCmpJ, qT_bAnd, qT_bOr, qT_bNot, qT_eBI, qT_eIf, qT_eLd, qT_eLdR, qT_eLen, qT_eF, qT_eFR, qT_aN, qT_aS, qT_eCl, qT_eClR, qT_eClB, qT_some, qT_x, z_nx_N, z_nx_B, z_nx_R, z_nx_X, z_bk_N, z_bk_B, z_bk_R, z_bk_X, oAdd, oSub, oMul, oNeg, cLt, cLe, cGt, cGe, cEq, cNe, Option.some.injEq, Sum.inl.injEq, Sum.inr.injEq, Prod.mk.injEq, exists_eq_left, exists_eq_left', exists_eq_right, exists_and_left, reduceCtorEq, and_true, true_and, and_false, false_and, List.getElem?_cons_zero, List.getElem?_cons_succ, List.set_cons_zero, List.set_cons_succ, List.replicate, List.length_cons, List.length_nil, List.cons_append, List.nil_append, Nat.reduceAdd, Nat.reduceSub, decide_eq_true_eq, decide_eq_false_iff_not, Bool.true_eq_false, Bool.false_eq_true, true_implies, false_implies, implies_true, Nat.reduceLT, exists_const, z_vB_inj, and_assoc, z_in_iff, oI2L, oL2I, Int.toNat_natCast, z_toNat0, Bool.not_eq_true', Bool.not_eq_false', ne_eq, Bool.not_true, Bool.not_false, Nat.add_zero, Int.add_zero, z_sl_s]
    repeat (refine And.intro (by omega) ?_)
    refine qS_for (fun k => [vR 0, vI (x : Int), vI (y : Int), vR 85, vI 3, vI (i : Int), vI (j : Int), vI (l : Int), vI w, vI 0, vI (z_val F w 9), vI (z_val G w 9), vB true, vI ((k : Int) + 36), vU]) (fun k => k_W (kP (z_at 36 k (fun _ => INF) P)) S) (fun _ => True) 17 rfl (by rw [z_at_0]) trivial (by decide) ?_ ?_
    · intro k hk _
      have t3 : ((k : Int) + 36).toNat = 36 + k := by omega
      have zs := z_at_s 36 k (fun _ => INF) P
      simp only [l_L_polys_357, kP_a, kP_s, t3, zs, qS_nop, qS_seq, qS_set, qS_setJ, qS_if, qS_brk, qS_ret, qS_retV, qS_throw, qS_inc, qS_cl, qS_ast, qS_aop, qS_fst, qS_fop, qS_sw, qT_eC, qT_eCB, qT_eL, qT_eLJ, qT_eLR, qT_eLS, qT_eSLen, qT_eSLd, qT_eLB, qT_e1, qT_e2, qT_bCmp, qT_bCmpJ, qT_bAnd, qT_bOr, qT_bNot, qT_eBI, qT_eIf, qT_eLd, qT_eLdR, qT_eLen, qT_eF, qT_eFR, qT_aN, qT_aS, qT_eCl, qT_eClR, qT_eClB, qT_some, qT_x, z_nx_N, z_nx_B, z_nx_R, z_nx_X, z_bk_N, z_bk_B, z_bk_R, z_bk_X, oAdd, oSub, oMul, oNeg, cLt, cLe, cGt, cGe, cEq, cNe, Option.some.injEq, Sum.inl.injEq, Sum.inr.injEq, Prod.mk.injEq, exists_eq_left, exists_eq_left', exists_eq_right, exists_and_left, reduceCtorEq, and_true, true_and, and_false, false_and, List.getElem?_cons_zero, List.getElem?_cons_succ, List.set_cons_zero, List.set_cons_succ, List.replicate, List.length_cons, List.length_nil, List.cons_append, List.nil_append, Nat.reduceAdd, Nat.reduceSub, decide_eq_true_eq, decide_eq_false_iff_not, Bool.true_eq_false, Bool.false_eq_true, true_implies, false_implies, implies_true, Nat.reduceLT, exists_const, z_vB_inj, and_assoc, z_in_iff, oI2L, oL2I, Int.toNat_natCast, z_toNat0, Bool.not_eq_true', Bool.not_eq_false', ne_eq, Bool.not_true, Bool.not_false, Nat.add_zero, Int.add_zero, z_sl_s]
      (repeat' (first | apply And.intro | intro _)) <;> first | omega | rfl | grind
    · intro _
      simp only [s_L_polys_369, qS_nop, qS_seq, qS_set, qS_setJ, qS_if, qS_brk, qS_ret, qS_retV, qS_throw, qS_inc, qS_cl, qS_ast, qS_aop, qS_fst, qS_fop, qS_sw, qT_eC, qT_eCB, qT_eL, qT_eLJ, qT_eLR, qT_eLS, qT_eSLen, qT_eSLd, qT_eLB, qT_e1, qT_e2, qT_bCmp, qT_bCmpJ, qT_bAnd, qT_bOr, qT_bNot, qT_eBI, qT_eIf, qT_eLd, qT_eLdR, qT_eLen, qT_eF, qT_eFR, qT_aN, qT_aS, qT_eCl, qT_eClR, qT_eClB, qT_some, qT_x, z_nx_N, z_nx_B, z_nx_R, z_nx_X, z_bk_N, z_bk_B, z_bk_R, z_bk_X, oAdd, oSub, oMul, oNeg, cLt, cLe, cGt, cGe, cEq, cNe, Option.some.injEq, Sum.inl.injEq, Sum.inr.injEq, Prod.mk.injEq, exists_eq_left, exists_eq_left', exists_eq_right, exists_and_left, reduceCtorEq, and_true, true_and, and_false, false_and, List.getElem?_cons_zero, List.getElem?_cons_succ, List.set_cons_zero, List.set_cons_succ, List.replicate, List.length_cons, List.length_nil, List.cons_append, List.nil_append, Nat.reduceAdd, Nat.reduceSub, decide_eq_true_eq, decide_eq_false_iff_not, Bool.true_eq_false, Bool.false_eq_true, true_implies, false_implies, implies_true, Nat.reduceLT, exists_const, z_vB_inj, and_assoc, z_in_iff, oI2L, oL2I, Int.toNat_natCast, z_toNat0, Bool.not_eq_true', Bool.not_eq_false', ne_eq, Bool.not_true, Bool.not_false, Nat.add_zero, Int.add_zero, z_sl_s]
      repeat (refine And.intro (by omega) ?_)
      refine qS_loop (fun k ρ h' => h' = k_W (kP (z_at 36 17 (rMk F G k) P)) S ∧ ∃ z, ρ = [vR 0, vI (x : Int), vI (y : Int), vR 85, vI 3, vI (i : Int), vI (j : Int), vI (l : Int), vI w, vI 0, vI (z_val F w 9), vI (z_val G w 9), vB true, vI (k : Int), z]) 81 ?_ ?_ 81 0 z_fuel _ _ (by omega) (z_fuel_lt (by omega)) ⟨rfl, vU, rfl⟩
      · rintro k ρ h' hk ⟨rfl, z, rfl⟩
        have g1 : oDiv (k : Int) 9 = some ((k / 9 : Nat) : Int) := z_dv (m := 9) (by decide) (by omega) (by decide)
        have g2 : oRem (k : Int) 9 = some ((k % 9 : Nat) : Int) := z_rm (m := 9) (by decide) (by omega) (by decide)
        have h9 : k / 9 < 9 := by omega
        have h8 : k % 9 < 9 := by omega
        have b1 := pF _ h9
        have b2 := pG _ h8
        have b3 := z_plus_inf b1 b2
        have b4 := rMk_b pF pG k (k / 9 + k % 9) (by omega)
        have b5 := rMk_le F G k (k / 9 + k % 9)
        have e1 := f_lplus (a := F (k / 9)) (b := G (k % 9)) ⟨by omega, by omega⟩ ⟨by omega, by omega⟩
        have e2 := f_lesser (a := rMk F G k (k / 9 + k % 9)) (b := z_plus (F (k / 9)) (G (k % 9))) ⟨by omega, by omega⟩ ⟨by omega, by omega⟩
        have t : (36 + ((k / 9 : Nat) : Int) + ((k % 9 : Nat) : Int)).toNat = 36 + (k / 9 + k % 9) := by omega
        have t1 : (9 * (i : Int) + ((k / 9 : Nat) : Int)).toNat = 9 * i + k / 9 := by omega
        have t2 : (9 * (j : Int) + ((k % 9 : Nat) : Int)).toNat = 9 * j + k % 9 := by omega
        have m1 : z_at 36 17 (rMk F G k) P (9 * i + k / 9) = F (k / 9) := by rw [z_at_out (by omega)]; exact mF _ h9
        have m2 : z_at 36 17 (rMk F G k) P (9 * j + k % 9) = G (k % 9) := by rw [z_at_out (by omega)]; exact mG _ h8
        have m3 : z_at 36 17 (rMk F G k) P (36 + (k / 9 + k % 9)) = rMk F G k (k / 9 + k % 9) := z_at_in (by omega)
        have u := rMk_ua (f := F) (g := G) (G := P) hk
        simp only [l_L_polys_379, s_L_polys_395, kP_a, kP_s, g1, g2, t, t1, t2, m1, m2, m3, e1, e2, u, qS_nop, qS_seq, qS_set, qS_setJ, qS_if, qS_brk, qS_ret, qS_retV, qS_throw, qS_inc, qS_cl, qS_ast, qS_aop, qS_fst, qS_fop, qS_sw, qT_eC, qT_eCB, qT_eL, qT_eLJ, qT_eLR, qT_eLS, qT_eSLen, qT_eSLd, qT_eLB, qT_e1, qT_e2, qT_bCmp, qT_bCmpJ, qT_bAnd, qT_bOr, qT_bNot, qT_eBI, qT_eIf, qT_eLd, qT_eLdR, qT_eLen, qT_eF, qT_eFR, qT_aN, qT_aS, qT_eCl, qT_eClR, qT_eClB, qT_some, qT_x, z_nx_N, z_nx_B, z_nx_R, z_nx_X, z_bk_N, z_bk_B, z_bk_R, z_bk_X, oAdd, oSub, oMul, oNeg, cLt, cLe, cGt, cGe, cEq, cNe, Option.some.injEq, Sum.inl.injEq, Sum.inr.injEq, Prod.mk.injEq, exists_eq_left, exists_eq_left', exists_eq_right, exists_and_left, reduceCtorEq, and_true, true_and, and_false, false_and, List.getElem?_cons_zero, List.getElem?_cons_succ, List.set_cons_zero, List.set_cons_succ, List.replicate, List.length_cons, List.length_nil, List.cons_append, List.nil_append, Nat.reduceAdd, Nat.reduceSub, decide_eq_true_eq, decide_eq_false_iff_not, Bool.true_eq_false, Bool.false_eq_true, true_implies, false_implies, implies_true, Nat.reduceLT, exists_const, z_vB_inj, and_assoc, z_in_iff, oI2L, oL2I, Int.toNat_natCast, z_toNat0, Bool.not_eq_true', Bool.not_eq_false', ne_eq, Bool.not_true, Bool.not_false, Nat.add_zero, Int.add_zero, z_sl_s]
        (repeat' (first | apply And.intro | intro _)) <;> first | omega | rfl | grind
      · rintro ρ h' ⟨rfl, z, rfl⟩
        simp only [s_L_polys_441, qS_nop, qS_seq, qS_set, qS_setJ, qS_if, qS_brk, qS_ret, qS_retV, qS_throw, qS_inc, qS_cl, qS_ast, qS_aop, qS_fst, qS_fop, qS_sw, qT_eC, qT_eCB, qT_eL, qT_eLJ, qT_eLR, qT_eLS, qT_eSLen, qT_eSLd, qT_eLB, qT_e1, qT_e2, qT_bCmp, qT_bCmpJ, qT_bAnd, qT_bOr, qT_bNot, qT_eBI, qT_eIf, qT_eLd, qT_eLdR, qT_eLen, qT_eF, qT_eFR, qT_aN, qT_aS, qT_eCl, qT_eClR, qT_eClB, qT_some, qT_x, z_nx_N, z_nx_B, z_nx_R, z_nx_X, z_bk_N, z_bk_B, z_bk_R, z_bk_X, oAdd, oSub, oMul, oNeg, cLt, cLe, cGt, cGe, cEq, cNe, Option.some.injEq, Sum.inl.injEq, Sum.inr.injEq, Prod.mk.injEq, exists_eq_left, exists_eq_left', exists_eq_right, exists_and_left, reduceCtorEq, and_true, true_and, and_false, false_and, List.getElem?_cons_zero, List.getElem?_cons_succ, List.set_cons_zero, List.set_cons_succ, List.replicate, List.length_cons, List.length_nil, List.cons_append, List.nil_append, Nat.reduceAdd, Nat.reduceSub, decide_eq_true_eq, decide_eq_false_iff_not, Bool.true_eq_false, Bool.false_eq_true, true_implies, false_implies, implies_true, Nat.reduceLT, exists_const, z_vB_inj, and_assoc, z_in_iff, oI2L, oL2I, Int.toNat_natCast, z_toNat0, Bool.not_eq_true', Bool.not_eq_false', ne_eq, Bool.not_true, Bool.not_false, Nat.add_zero, Int.add_zero, z_sl_s]
        repeat (refine And.intro (by omega) ?_)
        refine qS_for (fun m => [vR 0, vI (x : Int), vI (y : Int), vR 85, vI 3, vI (i : Int), vI (j : Int), vI (l : Int), vI w, vI (z_cnt (fun k => z_dec (rMk F G 81 k ≠ INF)) m), vI (z_val F w 9), vI (z_val G w 9), vB (z_dec (∀ k, k < m → rMf (rMk F G 81 k) k)), vI ((m : Int) + 36), z]) (fun _ => k_W (kP (z_at 36 17 (rMk F G 81) P)) S) (fun _ => True) 17 ?_ rfl trivial (by decide) ?_ ?_
        · rw [show z_dec (∀ k, k < 0 → rMf (rMk F G 81 k) k) = true from (z_dec_iff _).mpr (fun k hk => absurd hk (Nat.not_lt_zero k))]
          rfl
        · intro m hm _
          have t3 : ((m : Int) + 36).toNat = 36 + m := by omega
          have m1 : z_at 36 17 (rMk F G 81) P (36 + m) = rMk F G 81 m := z_at_in hm
          have b4 := rMk_b pF pG 81 m (by omega)
          have b5 := rMk_le F G 81 m
          have wd : z_dec (∀ k, k < m + 1 → rMf (rMk F G 81 k) k) = (z_dec (∀ k, k < m → rMf (rMk F G 81 k) k) && z_dec (rMf (rMk F G 81 m) m)) := rMf_s
          have vd := rMf_d (rMk F G 81 m) m
          have cc := z_cnt_b (fun k => z_dec (rMk F G 81 k ≠ INF)) m
          have hc := z_cs (rMk F G 81) m
          rw [wd]
          generalize z_dec (rMf (rMk F G 81 m) m) = D at *
          generalize z_dec (∀ k, k < m → rMf (rMk F G 81 k) k) = B at *
          generalize z_cnt (fun k => z_dec (rMk F G 81 k ≠ INF)) (m + 1) = C1 at *
          generalize z_cnt (fun k => z_dec (rMk F G 81 k ≠ INF)) m = C at *
          simp only [l_L_polys_452, s_L_polys_512, kP_a, kP_s, t3, m1, qS_nop, qS_seq, qS_set, qS_setJ, qS_if, qS_brk, qS_ret, qS_retV, qS_throw, qS_inc, qS_cl, qS_ast, qS_aop, qS_fst, qS_fop, qS_sw, qT_eC, qT_eCB, qT_eL, qT_eLJ, qT_eLR, qT_eLS, qT_eSLen, qT_eSLd, qT_eLB, qT_e1, qT_e2, qT_bCmp, qT_bCmpJ, qT_bAnd, qT_bOr, qT_bNot, qT_eBI, qT_eIf, qT_eLd, qT_eLdR, qT_eLen, qT_eF, qT_eFR, qT_aN, qT_aS, qT_eCl, qT_eClR, qT_eClB, qT_some, qT_x, z_nx_N, z_nx_B, z_nx_R, z_nx_X, z_bk_N, z_bk_B, z_bk_R, z_bk_X, oAdd, oSub, oMul, oNeg, cLt, cLe, cGt, cGe, cEq, cNe, Option.some.injEq, Sum.inl.injEq, Sum.inr.injEq, Prod.mk.injEq, exists_eq_left, exists_eq_left', exists_eq_right, exists_and_left, reduceCtorEq, and_true, true_and, and_false, false_and, List.getElem?_cons_zero, List.getElem?_cons_succ, List.set_cons_zero, List.set_cons_succ, List.replicate, List.length_cons, List.length_nil, List.cons_append, List.nil_append, Nat.reduceAdd, Nat.reduceSub, decide_eq_true_eq, decide_eq_false_iff_not, Bool.true_eq_false, Bool.false_eq_true, true_implies, false_implies, implies_true, Nat.reduceLT, exists_const, z_vB_inj, and_assoc, z_in_iff, oI2L, oL2I, Int.toNat_natCast, z_toNat0, Bool.not_eq_true', Bool.not_eq_false', ne_eq, Bool.not_true, Bool.not_false, Nat.add_zero, Int.add_zero, z_sl_s]
          generalize rMk F G 81 m = A at *
          clear wd m1
          cases B <;> cases D <;> (repeat' (first | apply And.intro | intro _)) <;> first | omega | rfl | grind
        · intro _
          rw [hm]
          simp only [s_L_polys_537, z_vB1, z_vB0, if_true, if_false, not_true_eq_false, not_false_eq_true, exists_eq, qS_nop, qS_seq, qS_set, qS_setJ, qS_if, qS_brk, qS_ret, qS_retV, qS_throw, qS_inc, qS_cl, qS_ast, qS_aop, qS_fst, qS_fop, qS_sw, qT_eC, qT_eCB, qT_eL, qT_eLJ, qT_eLR, qT_eLS, qT_eSLen, qT_eSLd, qT_eLB, qT_e1, qT_e2, qT_bCmp, qT_bCmpJ, qT_bAnd, qT_bOr, qT_bNot, qT_eBI, qT_eIf, qT_eLd, qT_eLdR, qT_eLen, qT_eF, qT_eFR, qT_aN, qT_aS, qT_eCl, qT_eClR, qT_eClB, qT_some, qT_x, z_nx_N, z_nx_B, z_nx_R, z_nx_X, z_bk_N, z_bk_B, z_bk_R, z_bk_X, oAdd, oSub, oMul, oNeg, cLt, cLe, cGt, cGe, cEq, cNe, Option.some.injEq, Sum.inl.injEq, Sum.inr.injEq, Prod.mk.injEq, exists_eq_left, exists_eq_left', exists_eq_right, exists_and_left, reduceCtorEq, and_true, true_and, and_false, false_and, List.getElem?_cons_zero, List.getElem?_cons_succ, List.set_cons_zero, List.set_cons_succ, List.replicate, List.length_cons, List.length_nil, List.cons_append, List.nil_append, Nat.reduceAdd, Nat.reduceSub, decide_eq_true_eq, decide_eq_false_iff_not, Bool.true_eq_false, Bool.false_eq_true, true_implies, false_implies, implies_true, Nat.reduceLT, exists_const, z_vB_inj, and_assoc, z_in_iff, oI2L, oL2I, Int.toNat_natCast, z_toNat0, Bool.not_eq_true', Bool.not_eq_false', ne_eq, Bool.not_true, Bool.not_false, Nat.add_zero, Int.add_zero, z_sl_s]
          repeat (refine And.intro (by omega) ?_)
          refine qS_for (fun k => [vR 0, vI (x : Int), vI (y : Int), vR 85, vI 3, vI (i : Int), vI (j : Int), vI (l : Int), vI w, vI (z_cnt (fun k => z_dec (rMk F G 81 k ≠ INF)) 17), vI (z_val F w 9), vI (z_val G w 9), vB false, vI (k : Int), z]) (fun k => k_W (kP (z_at 36 17 (rMk F G 81) P)) S) (fun _ => True) 0 rfl rfl trivial (by decide) ?_ ?_
          · intro k hk _
            simp only [l_L_polys_552, kP_a, z_vB1, z_vB0, if_true, if_false, not_true_eq_false, not_false_eq_true, exists_eq, qS_nop, qS_seq, qS_set, qS_setJ, qS_if, qS_brk, qS_ret, qS_retV, qS_throw, qS_inc, qS_cl, qS_ast, qS_aop, qS_fst, qS_fop, qS_sw, qT_eC, qT_eCB, qT_eL, qT_eLJ, qT_eLR, qT_eLS, qT_eSLen, qT_eSLd, qT_eLB, qT_e1, qT_e2, qT_bCmp, qT_bCmpJ, qT_bAnd, qT_bOr, qT_bNot, qT_eBI, qT_eIf, qT_eLd, qT_eLdR, qT_eLen, qT_eF, qT_eFR, qT_aN, qT_aS, qT_eCl, qT_eClR, qT_eClB, qT_some, qT_x, z_nx_N, z_nx_B, z_nx_R, z_nx_X, z_bk_N, z_bk_B, z_bk_R, z_bk_X, oAdd, oSub, oMul, oNeg, cLt, cLe, cGt, cGe, cEq, cNe, Option.some.injEq, Sum.inl.injEq, Sum.inr.injEq, Prod.mk.injEq, exists_eq_left, exists_eq_left', exists_eq_right, exists_and_left, reduceCtorEq, and_true, true_and, and_false, false_and, List.getElem?_cons_zero, List.getElem?_cons_succ, List.set_cons_zero, List.set_cons_succ, List.replicate, List.length_cons, List.length_nil, List.cons_append, List.nil_append, Nat.reduceAdd, Nat.reduceSub, decide_eq_true_eq, decide_eq_false_iff_not, Bool.true_eq_false, Bool.false_eq_true, true_implies, false_implies, implies_true, Nat.reduceLT, exists_const, z_vB_inj, and_assoc, z_in_iff, oI2L, oL2I, Int.toNat_natCast, z_toNat0, Bool.not_eq_true', Bool.not_eq_false', ne_eq, Bool.not_true, Bool.not_false, Nat.add_zero, Int.add_zero, z_sl_s]
            omega
          · intro _
            rw [← hZ]
            simp only [s_L_polys_575, as, z_vB1, z_vB0, if_true, if_false, not_true_eq_false, not_false_eq_true, exists_eq, qS_nop, qS_seq, qS_set, qS_setJ, qS_if, qS_brk, qS_ret, qS_retV, qS_throw, qS_inc, qS_cl, qS_ast, qS_aop, qS_fst, qS_fop, qS_sw, qT_eC, qT_eCB, qT_eL, qT_eLJ, qT_eLR, qT_eLS, qT_eSLen, qT_eSLd, qT_eLB, qT_e1, qT_e2, qT_bCmp, qT_bCmpJ, qT_bAnd, qT_bOr, qT_bNot, qT_eBI, qT_eIf, qT_eLd, qT_eLdR, qT_eLen, qT_eF, qT_eFR, qT_aN, qT_aS, qT_eCl, qT_eClR, qT_eClB, qT_some, qT_x, z_nx_N, z_nx_B, z_nx_R, z_nx_X, z_bk_N, z_bk_B, z_bk_R, z_bk_X, oAdd, oSub, oMul, oNeg, cLt, cLe, cGt, cGe, cEq, cNe, Option.some.injEq, Sum.inl.injEq, Sum.inr.injEq, Prod.mk.injEq, exists_eq_left, exists_eq_left', exists_eq_right, exists_and_left, reduceCtorEq, and_true, true_and, and_false, false_and, List.getElem?_cons_zero, List.getElem?_cons_succ, List.set_cons_zero, List.set_cons_succ, List.replicate, List.length_cons, List.length_nil, List.cons_append, List.nil_append, Nat.reduceAdd, Nat.reduceSub, decide_eq_true_eq, decide_eq_false_iff_not, Bool.true_eq_false, Bool.false_eq_true, true_implies, false_implies, implies_true, Nat.reduceLT, exists_const, z_vB_inj, and_assoc, z_in_iff, oI2L, oL2I, Int.toNat_natCast, z_toNat0, Bool.not_eq_true', Bool.not_eq_false', ne_eq, Bool.not_true, Bool.not_false, Nat.add_zero, Int.add_zero, z_sl_s]
            (repeat' (first | apply And.intro | intro _)) <;> first | omega | rfl | grind
end LP3
