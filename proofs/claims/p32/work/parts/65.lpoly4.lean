/-! THE LAW: the same as functions -/
section LP4
theorem qS_pop {α : Type} (x : z_Ev α) (ρ : List z_V) (h : z_Hp) (Q : z_Oc → z_Hp → Prop) : qS (sPop x) ρ h Q ↔ qT (x ρ h) (fun _ h => Q (oN ρ) h) (fun E h => Q (oX E) h) := by
  unfold qS sPop
  rw [qO_bindS]
  exact Iff.rfl
variable {P : Nat → Int} {S : Nat → Nat → Int}
theorem f_polys4 (I : cInv S) (M : pMr P S) {x y : Nat} (hx : x < 1073741824) (hy : y < 1073741824) (hwh : x % 5 = 4) : lpR m_L_polys x y P S := by
  have b6 : INF = 1000000 := rfl
  obtain ⟨i, hi⟩ : ∃ i, i = x / 5 % 4 := ⟨_, rfl⟩
  obtain ⟨j, hj⟩ : ∃ j, j = x / 20 % 4 := ⟨_, rfl⟩
  obtain ⟨l, hl⟩ : ∃ l, l = x / 80 % 4 := ⟨_, rfl⟩
  have h_i : i < 4 := by omega
  have h_j : j < 4 := by omega
  have h_l : l < 4 := by omega
  have d0 : oRem (x : Int) 5 = some (4 : Int) := by
    rw [show (4 : Int) = ((x % 5 : Nat) : Int) by omega]
    exact z_rm (m := 5) (by decide) (by omega) (by decide)
  have d1 : oDiv (x : Int) 5 = some ((x / 5 : Nat) : Int) := z_dv (m := 5) (by decide) (by omega) (by decide)
  have d2 : oRem ((x / 5 : Nat) : Int) 4 = some (i : Int) := by rw [hi]; exact z_rm (m := 4) (by decide) (by omega) (by decide)
  have d3 : oDiv (x : Int) 20 = some ((x / 20 : Nat) : Int) := z_dv (m := 20) (by decide) (by omega) (by decide)
  have d4 : oRem ((x / 20 : Nat) : Int) 4 = some (j : Int) := by rw [hj]; exact z_rm (m := 4) (by decide) (by omega) (by decide)
  have d5 : oDiv (x : Int) 80 = some ((x / 80 : Nat) : Int) := z_dv (m := 80) (by decide) (by omega) (by decide)
  have d6 : oRem ((x / 80 : Nat) : Int) 4 = some (l : Int) := by rw [hl]; exact z_rm (m := 4) (by decide) (by omega) (by decide)
  have d7 : oRem (y : Int) 1999 = some ((y % 1999 : Nat) : Int) := z_rm (m := 1999) (by decide) (by omega) (by decide)
  obtain ⟨w, hw⟩ : ∃ w : Int, w = ((y % 1999 : Nat) : Int) - 999 := ⟨_, rfl⟩
  have w1 : -999 ≤ w := by omega
  have w2 : w ≤ 999 := by omega
  obtain ⟨F, hF⟩ : ∃ F, F = S (50 + 9 * i) := ⟨_, rfl⟩
  obtain ⟨G, hG⟩ : ∃ G, G = S (50 + 9 * j) := ⟨_, rfl⟩
  have pF : pOk F := by rw [hF]; exact I.1 i h_i
  have pG : pOk G := by rw [hG]; exact I.1 j h_j
  have vF := fun Q : Nat → Int => f_value (X := kP Q) (S := S) h_i (by rw [← hF]; exact pF) w1 w2
  have vG := fun Q : Nat → Int => f_value (X := kP Q) (S := S) h_j (by rw [← hG]; exact pG) w1 w2
  rw [← hF] at vF
  rw [← hG] at vG
  have vFb := z_val_b pF w1 w2 9 (Nat.le_refl 9)
  have vGb := z_val_b pG w1 w2 9 (Nat.le_refl 9)
  have mF : ∀ k, k < 9 → P (9 * i + k) = F k := fun k hk => by rw [hF]; exact M i k h_i hk
  have mG : ∀ k, k < 9 → P (9 * j + k) = G k := fun k hk => by rw [hG]; exact M j k h_j hk
  have n42 : ¬ ((4 : Int) < 2) := by decide
  have n43 : ¬ ((4 : Int) = 2) := by decide
  have n44 : ¬ ((4 : Int) = 3) := by decide
  obtain ⟨q, hq⟩ : ∃ q, q = y / 2000 % 9 := ⟨_, rfl⟩
  have h_q : q < 9 := by omega
  have e6 : oDiv (y : Int) 2000 = some ((y / 2000 : Nat) : Int) := z_dv (m := 2000) (by decide) (by omega) (by decide)
  have e7 : oRem ((y / 2000 : Nat) : Int) 9 = some (q : Int) := by rw [hq]; exact z_rm (m := 9) (by decide) (by omega) (by decide)
  have sm := f_areSame (X := kP P) (S := S) h_i h_j (by rw [← hF]; exact pF) (by rw [← hG]; exact pG)
  have sp := f_isSpare (X := kP P) (S := S) h_i h_q (by rw [← hF]; exact pF)
  have v0F := f_value (X := kP P) (S := S) h_i (by rw [← hF]; exact pF) (x := 0) (by decide) (by decide)
  have v0G := f_value (X := kP P) (S := S) h_j (by rw [← hG]; exact pG) (x := 0) (by decide) (by decide)
  have v7F := f_value (X := kP P) (S := S) h_i (by rw [← hF]; exact pF) (x := 7) (by decide) (by decide)
  have v7G := f_value (X := kP P) (S := S) h_j (by rw [← hG]; exact pG) (x := 7) (by decide) (by decide)
  rw [← hF] at sm sp v0F v7F
  rw [← hG] at sm v0G v7G
  have b0F := z_val_b pF (x := 0) (by decide) (by decide) 9 (Nat.le_refl 9)
  have b0G := z_val_b pG (x := 0) (by decide) (by decide) 9 (Nat.le_refl 9)
  have b7F := z_val_b pF (x := 7) (by decide) (by decide) 9 (Nat.le_refl 9)
  have b7G := z_val_b pG (x := 7) (by decide) (by decide) 9 (Nat.le_refl 9)
  have s_w : pSame F G 9 → z_val F w 9 = z_val G w 9 := fun h => pV_same pF pG h w1 w2
  have s_0 : pSame F G 9 → z_val F 0 9 = z_val G 0 9 := fun h => pV_same pF pG h (by decide) (by decide)
  have s_7 : pSame F G 9 → z_val F 7 9 = z_val G 7 9 := fun h => pV_same pF pG h (by decide) (by decide)
  have fin : ∀ Z S', cInv S' → pMr Z S' → (∀ V : Bool, (pSame F G 9 → V = true) → (qS s_L_polys_702 [vR 0, vI (x : Int), vI (y : Int), vR 85, vI 4, vI (i : Int), vI (j : Int), vI (l : Int), vI w, vB (z_dec (pSame F G 9)), vB V, vU, vU, vU, vU] (k_W (kP P) S) (fun oc h1 => oc = oR (some (vB true)) ∧ h1 = k_W (kP Z) S') ↔ True)) → lpR m_L_polys x y P S := by
    intro Z S' I' M' R
    refine ⟨Z, S', ?_, I', M'⟩
    unfold m_L_polys
    apply q_body
    have b6 : INF = 1000000 := rfl
    simp only [b_L_polys, s_L_polys_5, s_L_polys_12, s_L_polys_20, s_L_polys_28, s_L_polys_39, s_L_polys_146, s_L_polys_314, s_L_polys_630, s_L_polys_640, d0, d1, d2, d3, d4, d5, d6, d7, n42, n43, n44, ← hw, vF, vG, sm, v0F, v0G, v7F, v7G, z_vB1, z_vB0, if_true, if_false, not_true_eq_false, not_false_eq_true, exists_eq, qS_nop, qS_seq, qS_set, qS_setJ, qS_if, qS_brk, qS_ret, qS_retV, qS_throw, qS_inc, qS_cl, qS_ast, qS_aop, qS_fst, qS_fop, qS_sw, qT_eC, qT_eCB, qT_eL, qT_eLJ, qT_eLR, qT_eLS, qT_eSLen, qT_eSLd, qT_eLB, qT_e1, qT_e2, qT_bCmp, qT_bCmpJ, qT_bAnd, qT_bOr, qT_bNot, qT_eBI, qT_eIf, qT_eLd, qT_eLdR, qT_eLen, qT_eF, qT_eFR, qT_aN, qT_aS, qT_eCl, qT_eClR, qT_eClB, qT_some, qT_x, z_nx_N, z_nx_B, z_nx_R, z_nx_X, z_bk_N, z_bk_B, z_bk_R, z_bk_X, oAdd, oSub, oMul, oNeg, cLt, cLe, cGt, cGe, cEq, cNe, Option.some.injEq, Sum.inl.injEq, Sum.inr.injEq, Prod.mk.injEq, exists_eq_left, exists_eq_left', exists_eq_right, exists_and_left, reduceCtorEq, and_true, true_and, and_false, false_and, List.getElem?_cons_zero, List.getElem?_cons_succ, List.set_cons_zero, List.set_cons_succ, List.replicate, List.length_cons, List.length_nil, List.cons_append, List.nil_append, Nat.reduceAdd, Nat.reduceSub, decide_eq_true_eq, decide_eq_false_iff_not, Bool.true_eq_false, Bool.false_eq_true, true_implies, false_implies, implies_true, Nat.reduceLT, exists_const, z_vB_inj, and_assoc, z_in_iff, oI2L, oL2I, Int.toNat_natCast, z_toNat0, Bool.not_eq_true', Bool.not_eq_false', ne_eq, Bool.not_true, Bool.not_false, Nat.add_zero, Int.add_zero, z_sl_s]
    refine ⟨by omega, by omega, by omega, by omega, by omega, by omega, by omega, by omega, by omega, by omega, by omega, by omega, by omega, by omega, by omega, by omega, ?_⟩
    refine ⟨fun a => ⟨by omega, by omega, by omega, by omega, fun b => ⟨by omega, by omega, by omega, by omega, ?_⟩, fun b => ?_⟩, fun a => ?_⟩
    · rw [R _ (fun h => decide_eq_true (s_7 h))]
      trivial
    · rw [R false (fun h => absurd (s_0 h) b)]
      trivial
    · rw [R false (fun h => absurd (s_w h) a)]
      trivial
  have sv : ∀ V : Bool, (pSame F G 9 → V = true) → z_dec (pSame F G 9) = false ∨ (z_dec (pSame F G 9) = true ∧ V = true) := fun V hV => by
    by_cases c : pSame F G 9
    · exact Or.inr ⟨(z_dec_iff _).mpr c, hV c⟩
    · exact Or.inl ((z_dec_f _).mpr c)
  by_cases c : pSpare F q ∧ i ≠ j
  · have c1 := (z_dec_iff _).mpr c.1
    have nij : ¬ (i : Int) = (j : Int) := by omega
    obtain ⟨S1, s1, s2⟩ := f_sum (X := kP P) (S := S) h_i h_i h_j (by rw [← hF]; exact pF) (by rw [← hF]; exact pF)
    rw [← hF] at s1 s2
    have pm : pMin F F = F := by
      funext k
      unfold pMin
      split <;> rfl
    rw [pm] at s1 s2
    have cf := f_coefficient (X := kP P) (S := S1) (i := j) (j := q) h_j h_q (n := 1000000) (Or.inr rfl)
    obtain ⟨S', hS'⟩ : ∃ S', S' = k_u S1 (50 + 9 * j) (z_up (S1 (50 + 9 * j)) q 1000000) := ⟨_, rfl⟩
    rw [← hS'] at cf
    obtain ⟨H, hH⟩ : ∃ H, H = z_up F q INF := ⟨_, rfl⟩
    have s3 : fLd S S' j H := by
      refine ⟨fun k hk => ?_, fun a ha hn => ?_⟩
      · rw [hS', k_u_s, hH]
        unfold z_up
        split
        · rfl
        · exact s2.1 k hk
      · rw [hS', k_u_n hn]
        exact s2.2 a ha hn
    have pH : pOk H := by
      rw [hH]
      intro k hk
      unfold z_up
      split
      · exact Or.inl rfl
      · exact pF k hk
    have I' := s3.inv I h_j pH
    obtain ⟨Z, hZ⟩ : ∃ Z, Z = z_at (9 * j) 9 H P := ⟨_, rfl⟩
    have M' : pMr Z S' := M.set h_j s3 (fun k hk => by rw [hZ]; exact z_at_in hk) (fun a h1 h2 => by rw [hZ, z_at_out h2])
    have eF : S' (50 + 9 * i) = F := by rw [s3.2 _ (by unfold cFree; omega) (by omega), hF]
    obtain ⟨G', hG'⟩ : ∃ G', G' = S' (50 + 9 * j) := ⟨_, rfl⟩
    have pG' : pOk G' := by rw [hG']; exact I'.1 j h_j
    have hs : pSame F G' 9 := (pSame_cg (fun _ _ => rfl) (fun k hk => by rw [hG', s3.1 k hk, hH])).mpr (pSpare_rm c.1)
    have a1 := f_areSame (X := kP Z) (S := S') h_i h_j (by rw [eF]; exact pF) (by rw [← hG']; exact pG')
    have a2 := f_areSame (X := kP Z) (S := S') h_j h_i (by rw [← hG']; exact pG') (by rw [eF]; exact pF)
    have a3 := f_value (X := kP Z) (S := S') h_j (by rw [← hG']; exact pG') w1 w2
    have a4 := f_roots (X := kP Z) (S := S') h_i (by rw [eF]; exact pF)
    have a5 := f_roots (X := kP Z) (S := S') h_j (by rw [← hG']; exact pG')
    rw [eF, ← hG', (z_dec_iff _).mpr hs] at a1
    rw [eF, ← hG', (z_dec_iff _).mpr hs.sy] at a2
    rw [← hG', ← pV_same pF pG' hs w1 w2] at a3
    have er : pRts G' = pRts F := by unfold pRts; rw [hs.cnt 9 (Nat.le_refl 9)]
    rw [← hG', er] at a5
    rw [eF] at a4
    have cb := pCors_b F 9
    have rb : 0 ≤ pRts F ∧ pRts F ≤ 8 := by unfold pRts; split <;> omega
    refine fin Z S' I' M' (fun V hV => ?_)
    have hv := sv V hV
    refine iff_true_intro ?_
    simp only [s_L_polys_702, s_L_polys_712, s_L_polys_722, s_L_polys_732, s_L_polys_755, s_L_polys_766, e6, e7, sp, c1, vF, nij, s1, cf, qS_pop, z_vB1, z_vB0, if_true, if_false, not_true_eq_false, not_false_eq_true, exists_eq, qS_nop, qS_seq, qS_set, qS_setJ, qS_if, qS_brk, qS_ret, qS_retV, qS_throw, qS_inc, qS_cl, qS_ast, qS_aop, qS_fst, qS_fop, qS_sw, qT_eC, qT_eCB, qT_eL, qT_eLJ, qT_eLR, qT_eLS, qT_eSLen, qT_eSLd, qT_eLB, qT_e1, qT_e2, qT_bCmp, qT_bCmpJ, qT_bAnd, qT_bOr, qT_bNot, qT_eBI, qT_eIf, qT_eLd, qT_eLdR, qT_eLen, qT_eF, qT_eFR, qT_aN, qT_aS, qT_eCl, qT_eClR, qT_eClB, qT_some, qT_x, z_nx_N, z_nx_B, z_nx_R, z_nx_X, z_bk_N, z_bk_B, z_bk_R, z_bk_X, oAdd, oSub, oMul, oNeg, cLt, cLe, cGt, cGe, cEq, cNe, Option.some.injEq, Sum.inl.injEq, Sum.inr.injEq, Prod.mk.injEq, exists_eq_left, exists_eq_left', exists_eq_right, exists_and_left, reduceCtorEq, and_true, true_and, and_false, false_and, List.getElem?_cons_zero, List.getElem?_cons_succ, List.set_cons_zero, List.set_cons_succ, List.replicate, List.length_cons, List.length_nil, List.cons_append, List.nil_append, Nat.reduceAdd, Nat.reduceSub, decide_eq_true_eq, decide_eq_false_iff_not, Bool.true_eq_false, Bool.false_eq_true, true_implies, false_implies, implies_true, Nat.reduceLT, exists_const, z_vB_inj, and_assoc, z_in_iff, oI2L, oL2I, Int.toNat_natCast, z_toNat0, Bool.not_eq_true', Bool.not_eq_false', ne_eq, Bool.not_true, Bool.not_false, Nat.add_zero, Int.add_zero, z_sl_s]
    repeat (refine And.intro (by omega) ?_)
    refine qS_for (fun k => [vR 0, vI (x : Int), vI (y : Int), vR 85, vI 4, vI (i : Int), vI (j : Int), vI (l : Int), vI w, vB (z_dec (pSame F G 9)), vB V, vI (q : Int), vB true, vI (z_val F w 9), vI (k : Int)]) (fun k => k_W (kP (z_at (9 * j) k H P)) S') (fun _ => True) 9 rfl (by rw [z_at_0]) trivial (by decide) ?_ ?_
    · intro k hk _
      have t1 : (9 * (i : Int) + (k : Int)).toNat = 9 * i + k := by omega
      have t2 : (9 * (j : Int) + (k : Int)).toNat = 9 * j + k := by omega
      have m1 : z_at (9 * j) k H P (9 * i + k) = F k := by rw [z_at_out (by omega)]; exact mF k hk
      have zs := z_at_s (9 * j) k H P
      have hk1 : H k = if (k : Int) = (q : Int) then 1000000 else F k := by
        rw [hH]
        unfold z_up
        split
        · rw [if_pos (by omega)]
        · rw [if_neg (by omega)]
      simp only [l_L_polys_776, kP_a, kP_s, t1, t2, m1, qS_nop, qS_seq, qS_set, qS_setJ, qS_if, qS_brk, qS_ret, qS_retV, qS_throw, qS_inc, qS_cl, qS_ast, qS_aop, qS_fst, qS_fop, qS_sw, qT_eC, qT_eCB, qT_eL, qT_eLJ, qT_eLR, qT_eLS, qT_eSLen, qT_eSLd, qT_eLB, qT_e1, qT_e2, qT_bCmp, qT_bCmpJ, qT_bAnd, qT_bOr, qT_bNot, qT_eBI, qT_eIf, qT_eLd, qT_eLdR, qT_eLen, qT_eF, qT_eFR, qT_aN, qT_aS, qT_eCl, qT_eClR, qT_eClB, qT_some, qT_x, z_nx_N, z_nx_B, z_nx_R, z_nx_X, z_bk_N, z_bk_B, z_bk_R, z_bk_X, oAdd, oSub, oMul, oNeg, cLt, cLe, cGt, cGe, cEq, cNe, Option.some.injEq, Sum.inl.injEq, Sum.inr.injEq, Prod.mk.injEq, exists_eq_left, exists_eq_left', exists_eq_right, exists_and_left, reduceCtorEq, and_true, true_and, and_false, false_and, List.getElem?_cons_zero, List.getElem?_cons_succ, List.set_cons_zero, List.set_cons_succ, List.replicate, List.length_cons, List.length_nil, List.cons_append, List.nil_append, Nat.reduceAdd, Nat.reduceSub, decide_eq_true_eq, decide_eq_false_iff_not, Bool.true_eq_false, Bool.false_eq_true, true_implies, false_implies, implies_true, Nat.reduceLT, exists_const, z_vB_inj, and_assoc, z_in_iff, oI2L, oL2I, Int.toNat_natCast, z_toNat0, Bool.not_eq_true', Bool.not_eq_false', ne_eq, Bool.not_true, Bool.not_false, Nat.add_zero, Int.add_zero, z_sl_s]
      have fa := pF.z hk
      by_cases d : (k : Int) = (q : Int)
      · rw [if_pos d] at hk1
        rw [← zs, hk1]
        (repeat' (first | apply And.intro | intro _)) <;> first | omega | rfl | grind
      · rw [if_neg d] at hk1
        rw [← zs, hk1]
        (repeat' (first | apply And.intro | intro _)) <;> first | omega | rfl | grind
    · intro _
      rw [← hZ]
      simp only [s_L_polys_814, a1, a2, a3, a4, a5, z_vB1, z_vB0, if_true, if_false, not_true_eq_false, not_false_eq_true, exists_eq, qS_nop, qS_seq, qS_set, qS_setJ, qS_if, qS_brk, qS_ret, qS_retV, qS_throw, qS_inc, qS_cl, qS_ast, qS_aop, qS_fst, qS_fop, qS_sw, qT_eC, qT_eCB, qT_eL, qT_eLJ, qT_eLR, qT_eLS, qT_eSLen, qT_eSLd, qT_eLB, qT_e1, qT_e2, qT_bCmp, qT_bCmpJ, qT_bAnd, qT_bOr, qT_bNot, qT_eBI, qT_eIf, qT_eLd, qT_eLdR, qT_eLen, qT_eF, qT_eFR, qT_aN, qT_aS, qT_eCl, qT_eClR, qT_eClB, qT_some, qT_x, z_nx_N, z_nx_B, z_nx_R, z_nx_X, z_bk_N, z_bk_B, z_bk_R, z_bk_X, oAdd, oSub, oMul, oNeg, cLt, cLe, cGt, cGe, cEq, cNe, Option.some.injEq, Sum.inl.injEq, Sum.inr.injEq, Prod.mk.injEq, exists_eq_left, exists_eq_left', exists_eq_right, exists_and_left, reduceCtorEq, and_true, true_and, and_false, false_and, List.getElem?_cons_zero, List.getElem?_cons_succ, List.set_cons_zero, List.set_cons_succ, List.replicate, List.length_cons, List.length_nil, List.cons_append, List.nil_append, Nat.reduceAdd, Nat.reduceSub, decide_eq_true_eq, decide_eq_false_iff_not, Bool.true_eq_false, Bool.false_eq_true, true_implies, false_implies, implies_true, Nat.reduceLT, exists_const, z_vB_inj, and_assoc, z_in_iff, oI2L, oL2I, Int.toNat_natCast, z_toNat0, Bool.not_eq_true', Bool.not_eq_false', ne_eq, Bool.not_true, Bool.not_false, Nat.add_zero, Int.add_zero, z_sl_s]
      refine ⟨by omega, by omega, by omega, by omega, by omega, fun _ => by omega, fun h => ⟨fun _ => by omega, fun h2 => (by
        rcases hv with w | ⟨_, w⟩
        · rw [w] at h; cases h
        · rw [w] at h2; cases h2)⟩⟩
  · have hs : z_dec (pSpare F q) = false ∨ (z_dec (pSpare F q) = true ∧ i = j) := by
      by_cases d : pSpare F q
      · exact Or.inr ⟨(z_dec_iff _).mpr d, Classical.not_not.mp (fun w => c ⟨d, w⟩)⟩
      · exact Or.inl ((z_dec_f _).mpr d)
    have vo := f_valueOf (P := P) (S := S) h_i M (by rw [← hF]; exact pF) w1 w2
    rw [← hF] at vo
    refine fin P S I M (fun V hV => ?_)
    have hv := sv V hV
    rcases hs with hs | ⟨hs, e⟩
    · refine iff_true_intro ?_
      simp only [s_L_polys_702, s_L_polys_712, s_L_polys_722, s_L_polys_732, s_L_polys_880, e6, e7, sp, hs, vF, vo, z_vB1, z_vB0, if_true, if_false, not_true_eq_false, not_false_eq_true, exists_eq, qS_nop, qS_seq, qS_set, qS_setJ, qS_if, qS_brk, qS_ret, qS_retV, qS_throw, qS_inc, qS_cl, qS_ast, qS_aop, qS_fst, qS_fop, qS_sw, qT_eC, qT_eCB, qT_eL, qT_eLJ, qT_eLR, qT_eLS, qT_eSLen, qT_eSLd, qT_eLB, qT_e1, qT_e2, qT_bCmp, qT_bCmpJ, qT_bAnd, qT_bOr, qT_bNot, qT_eBI, qT_eIf, qT_eLd, qT_eLdR, qT_eLen, qT_eF, qT_eFR, qT_aN, qT_aS, qT_eCl, qT_eClR, qT_eClB, qT_some, qT_x, z_nx_N, z_nx_B, z_nx_R, z_nx_X, z_bk_N, z_bk_B, z_bk_R, z_bk_X, oAdd, oSub, oMul, oNeg, cLt, cLe, cGt, cGe, cEq, cNe, Option.some.injEq, Sum.inl.injEq, Sum.inr.injEq, Prod.mk.injEq, exists_eq_left, exists_eq_left', exists_eq_right, exists_and_left, reduceCtorEq, and_true, true_and, and_false, false_and, List.getElem?_cons_zero, List.getElem?_cons_succ, List.set_cons_zero, List.set_cons_succ, List.replicate, List.length_cons, List.length_nil, List.cons_append, List.nil_append, Nat.reduceAdd, Nat.reduceSub, decide_eq_true_eq, decide_eq_false_iff_not, Bool.true_eq_false, Bool.false_eq_true, true_implies, false_implies, implies_true, Nat.reduceLT, exists_const, z_vB_inj, and_assoc, z_in_iff, oI2L, oL2I, Int.toNat_natCast, z_toNat0, Bool.not_eq_true', Bool.not_eq_false', ne_eq, Bool.not_true, Bool.not_false, Nat.add_zero, Int.add_zero, z_sl_s]
      refine ⟨fun _ => by omega, fun h => ⟨fun _ => by omega, fun h2 => (by
        rcases hv with w | ⟨_, w⟩
        · rw [w] at h; cases h
        · rw [w] at h2; cases h2)⟩⟩
    · have e' : (i : Int) = (j : Int) := by omega
      refine iff_true_intro ?_
      simp only [s_L_polys_702, s_L_polys_712, s_L_polys_722, s_L_polys_732, s_L_polys_880, e6, e7, sp, hs, vF, vo, ← e', z_vB1, z_vB0, if_true, if_false, not_true_eq_false, not_false_eq_true, exists_eq, qS_nop, qS_seq, qS_set, qS_setJ, qS_if, qS_brk, qS_ret, qS_retV, qS_throw, qS_inc, qS_cl, qS_ast, qS_aop, qS_fst, qS_fop, qS_sw, qT_eC, qT_eCB, qT_eL, qT_eLJ, qT_eLR, qT_eLS, qT_eSLen, qT_eSLd, qT_eLB, qT_e1, qT_e2, qT_bCmp, qT_bCmpJ, qT_bAnd, qT_bOr, qT_bNot, qT_eBI, qT_eIf, qT_eLd, qT_eLdR, qT_eLen, qT_eF, qT_eFR, qT_aN, qT_aS, qT_eCl, qT_eClR, qT_eClB, qT_some, qT_x, z_nx_N, z_nx_B, z_nx_R, z_nx_X, z_bk_N, z_bk_B, z_bk_R, z_bk_X, oAdd, oSub, oMul, oNeg, cLt, cLe, cGt, cGe, cEq, cNe, Option.some.injEq, Sum.inl.injEq, Sum.inr.injEq, Prod.mk.injEq, exists_eq_left, exists_eq_left', exists_eq_right, exists_and_left, reduceCtorEq, and_true, true_and, and_false, false_and, List.getElem?_cons_zero, List.getElem?_cons_succ, List.set_cons_zero, List.set_cons_succ, List.replicate, List.length_cons, List.length_nil, List.cons_append, List.nil_append, Nat.reduceAdd, Nat.reduceSub, decide_eq_true_eq, decide_eq_false_iff_not, Bool.true_eq_false, Bool.false_eq_true, true_implies, false_implies, implies_true, Nat.reduceLT, exists_const, z_vB_inj, and_assoc, z_in_iff, oI2L, oL2I, Int.toNat_natCast, z_toNat0, Bool.not_eq_true', Bool.not_eq_false', ne_eq, Bool.not_true, Bool.not_false, Nat.add_zero, Int.add_zero, z_sl_s]
      refine ⟨by omega, by omega, by omega, by omega, fun _ => by omega, fun h => ⟨fun _ => by omega, fun h2 => (by
        rcases hv with w | ⟨_, w⟩
        · rw [w] at h; cases h
        · rw [w] at h2; cases h2)⟩⟩
theorem f_polys (I : cInv S) (M : pMr P S) {x y : Nat} (hx : x < 1073741824) (hy : y < 1073741824) : lpR m_L_polys x y P S := by
  rcases (by omega : x % 5 < 2 ∨ x % 5 = 2 ∨ x % 5 = 3 ∨ x % 5 = 4) with h | h | h | h
  · exact f_polys0 I M hx hy h
  · exact f_polys2 I M hx hy h
  · exact f_polys3 I M hx hy h
  · exact f_polys4 I M hx hy h
end LP4
