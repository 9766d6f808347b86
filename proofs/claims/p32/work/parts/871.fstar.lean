/-! THE FACE: star -/
section FS2
variable {X : z_Hp} {S : Nat → Nat → Int}
theorem f_star (I : cInv S) {i l n : Nat} (hi : i < 4) (hl : l < 4) (n51 : S (51 + 9 * i) 0 = (n : Int)) : ∃ S',
    (¬ (∀ x, x < n → 0 ≤ sP (wD (cM S i)) n n x x) → m_X5_star [vR 0, vI (i : Int), vI (l : Int)] (k_W X S) = some (.inr kIS, k_W X S') ∧ cFr (fun a => 30 ≤ a ∧ a ≤ 43) S S' ∧ cInv S') ∧
    ((∀ x, x < n → 0 ≤ sP (wD (cM S i)) n n x x) → mWi (sP (wD (cM S i)) n n) n → m_X5_star [vR 0, vI (i : Int), vI (l : Int)] (k_W X S) = some (.inl (some (vI (mC (sP (wD (cM S i)) n n) n n))), k_W X S') ∧ S' (51 + 9 * l) 0 = (n : Int) ∧ (∀ x y, x < n → y < n → cM S' l x y = sP (wD (cM S i)) n n x y) ∧ cFr (cMD l) S S' ∧ cInv S') := by
  have b6 : INF = 1000000 := rfl
  have c0 := s_nH1 (i := (i : Int)) (by omega)
  have c1 := s_nH1 (i := (l : Int)) (by omega)
  obtain ⟨n1, nb, n51', nB, nW⟩ := I.2.1 i hi
  obtain ⟨nt, nbt, n51t, ntB, -⟩ := I.2.1 l hl
  have q1 : n1 = n := by omega
  subst q1
  have r2 := k_2r hi
  have hA := wD_ok nW
  obtain ⟨A, hAd⟩ : ∃ A, A = wD (cM S i) := ⟨_, rfl⟩
  rw [← hAd] at hA ⊢
  obtain ⟨p30, hp30, e30⟩ := I.2.2.2.2.1
  -- the copy
  obtain ⟨h1, x1, x2, x3⟩ := s_copyM (k_mat30 (X := X) (S := S) e30) (k_mat (S := S) hi n51) ⟨by omega, fun x y hx hy => by omega⟩
  have x4 := k_back k_C30 k_C32 (by decide) (by decide) (by decide) x2 x3
  rw [x4] at x1
  obtain ⟨W, hW⟩ : ∃ W, W = k_mt S 30 32 n1 (fun x y => if x < 5 ∧ y < 5 then kF S (53 + 9 * i) 5 x y else kF S 32 5 x y) := ⟨_, rfl⟩
  rw [← hW] at x1
  have W30 : W 30 0 = (n1 : Int) := by rw [hW, k_mt_o]
  have Wo : ∀ a, a ≠ 30 → ¬ (32 ≤ a ∧ a < 37) → W a = S a := fun a h1 h2 => by rw [hW, k_mt_n h1 (by omega)]
  have WF : ∀ x y, x < 5 → y < 5 → kF W 32 5 x y = kF S (53 + 9 * i) 5 x y := fun x y hx hy => by
    rw [kF_l hx, hW, k_mt_r (by omega) hx, if_pos ⟨hx, hy⟩]
  have WFb : mBd (kF W 32 5) 1000000000 := fun x y hx hy => by rw [WF x y hx hy]; exact nB x y hx hy
  -- closing
  obtain ⟨M, hM⟩ : ∃ M, M = kF W 32 5 := ⟨_, rfl⟩
  have Mb : mBd M 1000000000 := by rw [hM]; exact WFb
  have Mn : ∀ x y, x < n1 → y < n1 → M x y = cM S i x y := fun x y hx hy => by rw [hM, WF x y (by omega) (by omega)]; rfl
  have DA : eqN n1 (mDg M n1) A := fun x y hx hy => by
    rw [mDg_at, hAd]
    unfold wD
    by_cases c : x = y
    · rw [if_pos ⟨c, hx⟩, if_pos c, Mn x x hx hx]
    · rw [if_neg (fun w => c w.1), if_neg c, Mn x y hx hy]
  have DB : ∀ m, mBd (mDg M m) 1000000000 := fun m x y hx hy => by
    rw [mDg_at]
    have := Mb x x hx hx
    have := Mb x y hx hy
    (repeat' split) <;> omega
  have Dlo : ∀ x y, x < n1 → y < n1 → -99999 ≤ mDg M n1 x y := fun x y hx hy => by
    rw [DA x y hx hy]
    have := hA.1 x y hx hy
    omega
  have p6 : ∀ k, k < n1 → (6 : Int) ^ k * 99999 ≤ 130000000 ∧ 0 ≤ (6 : Int) ^ k * 99999 := fun k hk => by
    have c : k = 0 ∨ k = 1 ∨ k = 2 ∨ k = 3 ∨ k = 4 := by omega
    rcases c with rfl | rfl | rfl | rfl | rfl <;> decide
  have inb : ∀ k y j, k < n1 → y < n1 → j ≤ n1 → mBd (mJ (mI n1 (mK n1 (mDg M n1) k) k y) k y j) 1000000000 := fun k y j hk hy hj u v hu hv => by
    have up1 := mJ_le (mI n1 (mK n1 (mDg M n1) k) k y) k y u v 0 j
    have up2 := mI_le n1 (mK n1 (mDg M n1) k) k u v 0 y
    have up3 := mK_le n1 (mDg M n1) u v 0 k
    rw [Nat.zero_add] at up1 up2 up3
    have b0 := DB n1 u v hu hv
    have c1 : mJ (mI n1 (mK n1 (mDg M n1) k) k y) k y 0 u v = mI n1 (mK n1 (mDg M n1) k) k y u v := rfl
    have c2 : mI n1 (mK n1 (mDg M n1) k) k 0 u v = mK n1 (mDg M n1) k u v := rfl
    have c3 : mK n1 (mDg M n1) 0 u v = mDg M n1 u v := rfl
    refine ⟨?_, by omega⟩
    by_cases c : u < n1 ∧ v < n1
    · have lo := bK (by decide) Dlo k (by omega)
      have w := bIJ hk (p6 k hk).2 lo hy hj u v c.1 c.2
      have := (p6 k hk).1
      omega
    · rw [oJ hy j hj u v c, oI y (by omega) u v c, oK k u v c]
      exact b0.1
  obtain ⟨h2, y1, y2, y3⟩ := s_closeWays (k_mat30 (X := X) (S := W) W30) nb.2 (fun m _ => by rw [← hM]; exact DB m) (fun k y j hk hy hj => by rw [← hM]; exact inb k y j hk hy hj)
  rw [← hM] at y2
  have y4 := k_back k_C30 k_C32 (by decide) (by decide) (by decide) y2 (y3.mono (fun q hq => Or.inr hq))
  rw [y4] at y1
  obtain ⟨Y, hY⟩ : ∃ Y, Y = k_mt W 30 32 n1 (mK n1 (mDg M n1) n1) := ⟨_, rfl⟩
  rw [← hY] at y1
  have Y30 : Y 30 0 = (n1 : Int) := by rw [hY, k_mt_o]
  have Yo : ∀ a, a ≠ 30 → ¬ (32 ≤ a ∧ a < 37) → Y a = S a := fun a h1 h2 => by rw [hY, k_mt_n h1 (by omega), Wo a h1 h2]
  have YF : ∀ x y, x < 5 → kF Y 32 5 x y = mK n1 (mDg M n1) n1 x y := fun x y hx => by rw [kF_l hx, hY, k_mt_r (by omega) hx]
  have KA : eqN n1 (mK n1 (mDg M n1) n1) (mK n1 A n1) := DA.K n1 (Nat.le_refl n1)
  have YB : mBd (kF Y 32 5) 1000000000 := fun u v hu hv => by
    rw [YF u v hu]
    obtain ⟨k, rfl⟩ : ∃ k, n1 = k + 1 := ⟨n1 - 1, by omega⟩
    exact inb k k (k + 1) (by omega) (by omega) (Nat.le_refl _) u v hu hv
  have Y39 : kF Y 39 5 = kF S 39 5 := kF_e (fun x hx => Yo _ (by omega) (by omega))
  have k5 : kI5 Y := by
    refine ⟨⟨n1, nb.2, Y30⟩, ?_, YB, ?_⟩
    · rw [Yo 37 (by decide) (by decide)]
      exact I.2.2.2.2.2.1
    · rw [Y39]
      exact I.2.2.2.2.2.2.2
  have Y51 : Y (51 + 9 * l) 0 = (nt : Int) := by rw [Yo _ (by omega) (by omega)]; exact n51t
  have cb := s_comesBack (k_mat30 (X := X) (S := Y) Y30) nb.2 YB
  have sn := star_neg hA nb.2
  have cbe : (∃ x, x < n1 ∧ kF Y 32 5 x x < 0) ↔ ¬ (∀ x, x < n1 → 0 ≤ sP A n1 n1 x x) := by
    rw [← sn]
    constructor
    · rintro ⟨x, hx, h⟩
      rw [YF x x (by omega), KA x x hx hx] at h
      exact ⟨x, hx, h⟩
    · rintro ⟨x, hx, h⟩
      exact ⟨x, hx, by rw [YF x x (by omega), KA x x hx hx]; exact h⟩
  rw [z_dec_c _ _ cbe] at cb
  by_cases Q : ∀ x, x < n1 → 0 ≤ sP A n1 n1 x x
  rotate_left
  · rw [(z_dec_iff _).mpr Q] at cb
    have fr : cFr (fun a => 30 ≤ a ∧ a ≤ 43) S Y := fun a _ h => Yo a (by omega) (by omega)
    refine ⟨Y, fun _ => ⟨?_, fr, I.dr k5 fr⟩, fun w => absurd w Q⟩
    unfold m_X5_star
    rw [k_v0]
    apply q_body
    have b6 : INF = 1000000 := rfl
    simp only [b_X5_star, c0, c1, k_o0, k_a2, r2, x1, y1, cb, kIS, z_vB1, z_vB0, if_true, if_false, not_true_eq_false, not_false_eq_true, exists_eq, qS_nop, qS_seq, qS_set, qS_setJ, qS_if, qS_brk, qS_ret, qS_retV, qS_throw, qS_inc, qS_cl, qS_ast, qS_aop, qS_fst, qS_fop, qS_sw, qT_eC, qT_eCB, qT_eL, qT_eLJ, qT_eLR, qT_eLS, qT_eSLen, qT_eSLd, qT_eLB, qT_e1, qT_e2, qT_bCmp, qT_bCmpJ, qT_bAnd, qT_bOr, qT_bNot, qT_eBI, qT_eIf, qT_eLd, qT_eLdR, qT_eLen, qT_eF, qT_eFR, qT_aN, qT_aS, qT_eCl, qT_eClR, qT_eClB, qT_some, qT_x, z_nx_N, z_nx_B, z_nx_R, z_nx_X, z_bk_N, z_bk_B, z_bk_R, z_bk_X, oAdd, oSub, oMul, oNeg, cLt, cLe, cGt, cGe, cEq, cNe, Option.some.injEq, Sum.inl.injEq, Sum.inr.injEq, Prod.mk.injEq, exists_eq_left, exists_eq_left', exists_eq_right, exists_and_left, reduceCtorEq, and_true, true_and, and_false, false_and, List.getElem?_cons_zero, List.getElem?_cons_succ, List.set_cons_zero, List.set_cons_succ, List.replicate, List.length_cons, List.length_nil, List.cons_append, List.nil_append, Nat.reduceAdd, Nat.reduceSub, decide_eq_true_eq, decide_eq_false_iff_not, Bool.true_eq_false, Bool.false_eq_true, true_implies, false_implies, implies_true, Nat.reduceLT, exists_const, z_vB_inj, and_assoc, z_in_iff, oI2L, oL2I, Int.toNat_natCast, z_toNat0, Bool.not_eq_true', Bool.not_eq_false', ne_eq, Bool.not_true, Bool.not_false, Nat.add_zero, Int.add_zero, z_sl_s]
    omega
  rw [(z_dec_f _).mpr (fun w => w Q)] at cb
  have YP : ∀ x y, x < n1 → y < n1 → kF Y 32 5 x y = sP A n1 n1 x y := fun x y hx hy => by rw [YF x y (by omega), KA x y hx hy, star_eq hA nb.2 Q hx hy]
  by_cases Q2 : mWi (sP A n1 n1) n1
  rotate_left
  · exact ⟨S, fun w => absurd Q w, fun _ w => absurd w Q2⟩
  have yw : mWi (kF Y 32 5) n1 := fun x y hx hy => by rw [YP x y hx hy]; exact Q2 x y hx hy
  have kp := s_kp1 (X := X) hl nb Y51 Y30 YB yw
  rw [mC_cg YP n1 (Nat.le_refl n1)] at kp
  have zM : ∀ x y, x < 5 → cM (kKp Y l n1) l x y = if y < 5 then kF Y 32 5 x y else kF Y (53 + 9 * l) 5 x y := fun x y hx => by
    rw [cM_l hx]
    unfold kKp
    rw [k_mt_r (by omega) hx]
    by_cases c : y < 5
    · rw [if_pos ⟨hx, c⟩, if_pos c]
    · rw [if_neg (fun w => c w.2), if_neg c]
  have z51 : kKp Y l n1 (51 + 9 * l) 0 = (n1 : Int) := by unfold kKp; rw [k_mt_o]
  have zn : ∀ a, ¬ (51 + 9 * l ≤ a ∧ a ≤ 57 + 9 * l) → kKp Y l n1 a = Y a := fun a ha => by unfold kKp; rw [k_mt_n (by omega) (by omega)]
  have zf : cFr (cMD l) S (kKp Y l n1) := fun a _ h2 => by
    unfold cMD at h2
    rw [zn a (by omega), Yo a (by omega) (by omega)]
  have zv : ∀ x y, x < n1 → y < n1 → cM (kKp Y l n1) l x y = sP A n1 n1 x y := fun x y hx hy => by
    rw [zM x y (by omega), if_pos (by omega), YP x y hx hy]
  refine ⟨kKp Y l n1, fun w => absurd Q w, fun _ _ => ⟨?_, z51, zv, zf, I.m hl ⟨n1, nb, z51, fun x y hx hy => ?_, fun x y hx hy => ?_⟩ ⟨⟨n1, nb.2, ?_⟩, ?_, ?_, ?_⟩ zf⟩⟩
  · unfold m_X5_star
    rw [k_v0]
    apply q_body
    have b6 : INF = 1000000 := rfl
    simp only [b_X5_star, c0, c1, k_o0, k_a2, r2, x1, y1, cb, kp, z_vB1, z_vB0, if_true, if_false, not_true_eq_false, not_false_eq_true, exists_eq, qS_nop, qS_seq, qS_set, qS_setJ, qS_if, qS_brk, qS_ret, qS_retV, qS_throw, qS_inc, qS_cl, qS_ast, qS_aop, qS_fst, qS_fop, qS_sw, qT_eC, qT_eCB, qT_eL, qT_eLJ, qT_eLR, qT_eLS, qT_eSLen, qT_eSLd, qT_eLB, qT_e1, qT_e2, qT_bCmp, qT_bCmpJ, qT_bAnd, qT_bOr, qT_bNot, qT_eBI, qT_eIf, qT_eLd, qT_eLdR, qT_eLen, qT_eF, qT_eFR, qT_aN, qT_aS, qT_eCl, qT_eClR, qT_eClB, qT_some, qT_x, z_nx_N, z_nx_B, z_nx_R, z_nx_X, z_bk_N, z_bk_B, z_bk_R, z_bk_X, oAdd, oSub, oMul, oNeg, cLt, cLe, cGt, cGe, cEq, cNe, Option.some.injEq, Sum.inl.injEq, Sum.inr.injEq, Prod.mk.injEq, exists_eq_left, exists_eq_left', exists_eq_right, exists_and_left, reduceCtorEq, and_true, true_and, and_false, false_and, List.getElem?_cons_zero, List.getElem?_cons_succ, List.set_cons_zero, List.set_cons_succ, List.replicate, List.length_cons, List.length_nil, List.cons_append, List.nil_append, Nat.reduceAdd, Nat.reduceSub, decide_eq_true_eq, decide_eq_false_iff_not, Bool.true_eq_false, Bool.false_eq_true, true_implies, false_implies, implies_true, Nat.reduceLT, exists_const, z_vB_inj, and_assoc, z_in_iff, oI2L, oL2I, Int.toNat_natCast, z_toNat0, Bool.not_eq_true', Bool.not_eq_false', ne_eq, Bool.not_true, Bool.not_false, Nat.add_zero, Int.add_zero, z_sl_s]
    omega
  · rw [zM x y hx, if_pos hy]
    exact YB x y hx hy
  · rw [zv x y hx hy]
    exact Q2 x y hx hy
  · rw [zn 30 (by omega)]; exact Y30
  · rw [zn 37 (by omega)]
    exact k5.2.1
  · rw [kF_e (S := Y) (fun x hx => zn _ (by omega))]
    exact YB
  · rw [kF_e (S := Y) (fun x hx => zn _ (by omega))]
    exact k5.2.2.2
end FS2
