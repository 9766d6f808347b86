/-! THE FACE: matrices set, asked, kept -/
section FM
theorem z_ne (a : Int) : z_dec (a ≠ INF) = !decide (a = INF) := by
  by_cases h : a = INF
  · rw [(z_dec_f _).mpr (fun w => w h)]
    simp [h]
  · rw [(z_dec_iff _).mpr h]
    simp [h]
theorem mC_cg {A B : Nat → Nat → Int} {n : Nat} (h : ∀ i j, i < n → j < n → A i j = B i j) : ∀ i, i ≤ n → mC A n i = mC B n i
  | 0, _ => rfl
  | i + 1, hi => by
    rw [mC, mC, mC_cg h i (by omega)]
    congr 1
    exact z_cnt_cg n (fun j hj => by rw [h i j (by omega) hj])
def k_mt (S : Nat → Nat → Int) (o r n : Nat) (M : Nat → Nat → Int) : Nat → Nat → Int := fun a => if a = o then z_up (S a) 0 (n : Int) else if r ≤ a ∧ a < r + 5 then M (a - r) else S a
theorem k_mt_n {S : Nat → Nat → Int} {o r n : Nat} {M : Nat → Nat → Int} {a : Nat} (h : a ≠ o) (h2 : ¬ (r ≤ a ∧ a < r + 5)) : k_mt S o r n M a = S a := by
  unfold k_mt
  rw [if_neg h, if_neg h2]
theorem k_mt_r {S : Nat → Nat → Int} {o r n : Nat} {M : Nat → Nat → Int} {x : Nat} (h : r + x ≠ o) (h2 : x < 5) : k_mt S o r n M (r + x) = M x := by
  unfold k_mt
  rw [if_neg h, if_pos (by omega), Nat.add_sub_cancel_left]
theorem k_mt_o {S : Nat → Nat → Int} {o r n : Nat} {M : Nat → Nat → Int} : k_mt S o r n M o 0 = (n : Int) := by
  unfold k_mt
  rw [if_pos rfl]
  simp [z_up]
end FM
section FM2
variable {X : z_Hp} {S : Nat → Nat → Int}
/-- a heap in which a matrix alone has changed is a world -/
theorem k_back {o e r n : Nat} {M : Nat → Nat → Int} {h' : z_Hp} (hC : ∀ f, k_C o f = .inl (2, [vR e, vI (f 0)])) (hR : ∀ j, j < 5 → ∀ f, k_C (r + j) f = .inr (0, 5, f)) (ho : o < 85) (hr : r + 5 ≤ 85) (hor : o < r) (a : mAt h' o e r n M) (f : z_fr (fun q => q = o ∨ mRow r q) (k_W X S) h') : h' = k_W X (k_mt S o r n M) := by
  have hf : ∀ q, q ≠ o → ¬ (r ≤ q ∧ q < r + 5) → h'[q]? = (k_W X S)[q]? := fun q h1 h2 => f q (by rintro (w | w); exact h1 w; exact h2 w)
  refine k_ext (T := S) (fun x hx => ?_) (fun x hx => hf x (by omega) (by omega))
  by_cases c : x = o
  · subst c
    rw [a.1, hC, k_mt_o]
  · by_cases d : r ≤ x ∧ x < r + 5
    · obtain ⟨y, rfl⟩ : ∃ y, x = r + y := ⟨x - r, by omega⟩
      rw [a.2.2 y (by omega), hR y (by omega), k_mt_r c (by omega)]
    · rw [hf x c d, k_get hx, k_mt_n c d]
theorem k_C30 (f : Nat → Int) : k_C 30 f = .inl (2, [vR 31, vI (f 0)]) := rfl
theorem k_C32 : ∀ j, j < 5 → ∀ f, k_C (32 + j) f = .inr (0, 5, f) := fun j hj f => by
  obtain rfl | rfl | rfl | rfl | rfl : j = 0 ∨ j = 1 ∨ j = 2 ∨ j = 3 ∨ j = 4 := by omega
  all_goals rfl
theorem mMul_cg {A B A' B' : Nat → Nat → Int} {n i j : Nat} (h1 : ∀ k, k < n → A i k = A' i k) (h2 : ∀ k, k < n → B k j = B' k j) : mMul A B n i j = mMul A' B' n i j := by
  unfold mMul
  exact z_mn_eq (fun k hk => by rw [h1 k hk, h2 k hk])
def kKp (Y : Nat → Nat → Int) (t n : Nat) : Nat → Nat → Int := k_mt Y (51 + 9 * t) (53 + 9 * t) n (fun i j => if i < 5 ∧ j < 5 then kF Y 32 5 i j else kF Y (53 + 9 * t) 5 i j)
theorem s_kp1 {Y : Nat → Nat → Int} {t n nt : Nat} (ht : t < 4) (hn : 1 ≤ n ∧ n ≤ 5) (et : Y (51 + 9 * t) 0 = (nt : Int)) (e30 : Y 30 0 = (n : Int)) (hb : mBd (kF Y 32 5) 1000000000) (hw : mWi (kF Y 32 5) n) : m_X5_keepMatrixDraft [vR 0, vI (t : Int)] (k_W X Y) = some (.inl (some (vI (mC (kF Y 32 5) n n))), k_W X (kKp Y t n)) := by
  have b6 : INF = 1000000 := rfl
  have a30 := k_mat30 (X := X) (S := Y) e30
  have w1 := s_isWithinM a30 hn.2 hb
  rw [(z_dec_iff _).mpr hw] at w1
  obtain ⟨h', x1, x2, x3⟩ := s_copyM (k_mat (X := X) (S := Y) ht et) a30 ⟨by omega, fun i j hi hj => by omega⟩
  have x4 := k_back (k_mC ht) (fun j hj f => k_rC ht hj f) (by omega) (by omega) (by omega) x2 x3
  rw [x4] at x1
  have x5 := s_countNumbers x2 hn.2 (fun i j hi hj => by simp only [hi, hj, and_self, if_true]; exact hb i j hi hj)
  rw [mC_cg (B := kF Y 32 5) (fun i j hi hj => by rw [if_pos ⟨by omega, by omega⟩]) n (Nat.le_refl n), x4] at x5
  have r2 := k_2r ht
  unfold kKp
  unfold m_X5_keepMatrixDraft
  rw [k_v0]
  apply q_body
  have b6 : INF = 1000000 := rfl
  simp only [b_X5_keepMatrixDraft, k_o0, k_a2, r2, w1, x1, x5, z_vB1, z_vB0, if_true, if_false, not_true_eq_false, not_false_eq_true, exists_eq, qS_nop, qS_seq, qS_set, qS_setJ, qS_if, qS_brk, qS_ret, qS_retV, qS_throw, qS_inc, qS_cl, qS_ast, qS_aop, qS_fst, qS_fop, qS_sw, qT_eC, qT_eCB, qT_eL, qT_eLJ, qT_eLR, qT_eLS, qT_eSLen, qT_eSLd, qT_eLB, qT_e1, qT_e2, qT_bCmp, qT_bCmpJ, qT_bAnd, qT_bOr, qT_bNot, qT_eBI, qT_eIf, qT_eLd, qT_eLdR, qT_eLen, qT_eF, qT_eFR, qT_aN, qT_aS, qT_eCl, qT_eClR, qT_eClB, qT_some, qT_x, z_nx_N, z_nx_B, z_nx_R, z_nx_X, z_bk_N, z_bk_B, z_bk_R, z_bk_X, oAdd, oSub, oMul, oNeg, cLt, cLe, cGt, cGe, cEq, cNe, Option.some.injEq, Sum.inl.injEq, Sum.inr.injEq, Prod.mk.injEq, exists_eq_left, exists_eq_left', exists_eq_right, exists_and_left, reduceCtorEq, and_true, true_and, and_false, false_and, List.getElem?_cons_zero, List.getElem?_cons_succ, List.set_cons_zero, List.set_cons_succ, List.replicate, List.length_cons, List.length_nil, List.cons_append, List.nil_append, Nat.reduceAdd, Nat.reduceSub, decide_eq_true_eq, decide_eq_false_iff_not, Bool.true_eq_false, Bool.false_eq_true, true_implies, false_implies, implies_true, Nat.reduceLT, exists_const, z_vB_inj, and_assoc, z_in_iff, oI2L, oL2I, Int.toNat_natCast, z_toNat0, Bool.not_eq_true', Bool.not_eq_false', ne_eq, Bool.not_true, Bool.not_false, Nat.add_zero, Int.add_zero, z_sl_s]
  omega
theorem s_kp0 {Y : Nat → Nat → Int} {t n : Nat} (hn : 1 ≤ n ∧ n ≤ 5) (e30 : Y 30 0 = (n : Int)) (hb : mBd (kF Y 32 5) 1000000000) (hw : ¬ mWi (kF Y 32 5) n) : m_X5_keepMatrixDraft [vR 0, vI (t : Int)] (k_W X Y) = some (.inr kIS, k_W X Y) := by
  have b6 : INF = 1000000 := rfl
  have a30 := k_mat30 (X := X) (S := Y) e30
  have w1 := s_isWithinM a30 hn.2 hb
  rw [(z_dec_f _).mpr hw] at w1
  unfold m_X5_keepMatrixDraft
  rw [k_v0]
  apply q_body
  have b6 : INF = 1000000 := rfl
  simp only [b_X5_keepMatrixDraft, k_o0, w1, kIS, z_vB1, z_vB0, if_true, if_false, not_true_eq_false, not_false_eq_true, exists_eq, qS_nop, qS_seq, qS_set, qS_setJ, qS_if, qS_brk, qS_ret, qS_retV, qS_throw, qS_inc, qS_cl, qS_ast, qS_aop, qS_fst, qS_fop, qS_sw, qT_eC, qT_eCB, qT_eL, qT_eLJ, qT_eLR, qT_eLS, qT_eSLen, qT_eSLd, qT_eLB, qT_e1, qT_e2, qT_bCmp, qT_bCmpJ, qT_bAnd, qT_bOr, qT_bNot, qT_eBI, qT_eIf, qT_eLd, qT_eLdR, qT_eLen, qT_eF, qT_eFR, qT_aN, qT_aS, qT_eCl, qT_eClR, qT_eClB, qT_some, qT_x, z_nx_N, z_nx_B, z_nx_R, z_nx_X, z_bk_N, z_bk_B, z_bk_R, z_bk_X, oAdd, oSub, oMul, oNeg, cLt, cLe, cGt, cGe, cEq, cNe, Option.some.injEq, Sum.inl.injEq, Sum.inr.injEq, Prod.mk.injEq, exists_eq_left, exists_eq_left', exists_eq_right, exists_and_left, reduceCtorEq, and_true, true_and, and_false, false_and, List.getElem?_cons_zero, List.getElem?_cons_succ, List.set_cons_zero, List.set_cons_succ, List.replicate, List.length_cons, List.length_nil, List.cons_append, List.nil_append, Nat.reduceAdd, Nat.reduceSub, decide_eq_true_eq, decide_eq_false_iff_not, Bool.true_eq_false, Bool.false_eq_true, true_implies, false_implies, implies_true, Nat.reduceLT, exists_const, z_vB_inj, and_assoc, z_in_iff, oI2L, oL2I, Int.toNat_natCast, z_toNat0, Bool.not_eq_true', Bool.not_eq_false', ne_eq, Bool.not_true, Bool.not_false, Nat.add_zero, Int.add_zero, z_sl_s]
theorem cM_l {i x : Nat} (hx : x < 5) : cM S i x = S (53 + 9 * i + x) := kF_l hx
theorem s_nE {m n x y : Nat} (hm : m < 4) (hn : n ≤ 5) (e : S (51 + 9 * m) 0 = (n : Int)) (hx : x < n) (hy : y < n) : m_X5_needEntry [vR 0, vI (m : Int), vI (x : Int), vI (y : Int)] (k_W X S) = some (.inl none, k_W X S) := by
  have c0 := s_nH1 (i := (m : Int)) (by omega)
  have r2 := k_2r hm
  have c1 := s_nI1 (i := (x : Int)) (c := (n : Int)) (by omega) (by omega)
  have c2 := s_nI1 (i := (y : Int)) (c := (n : Int)) (by omega) (by omega)
  unfold m_X5_needEntry
  rw [k_v0]
  apply q_body
  have b6 : INF = 1000000 := rfl
  simp only [b_X5_needEntry, c0, k_o0, k_a2, r2, k_mo hm, e, c1, c2, qS_nop, qS_seq, qS_set, qS_setJ, qS_if, qS_brk, qS_ret, qS_retV, qS_throw, qS_inc, qS_cl, qS_ast, qS_aop, qS_fst, qS_fop, qS_sw, qT_eC, qT_eCB, qT_eL, qT_eLJ, qT_eLR, qT_eLS, qT_eSLen, qT_eSLd, qT_eLB, qT_e1, qT_e2, qT_bCmp, qT_bCmpJ, qT_bAnd, qT_bOr, qT_bNot, qT_eBI, qT_eIf, qT_eLd, qT_eLdR, qT_eLen, qT_eF, qT_eFR, qT_aN, qT_aS, qT_eCl, qT_eClR, qT_eClB, qT_some, qT_x, z_nx_N, z_nx_B, z_nx_R, z_nx_X, z_bk_N, z_bk_B, z_bk_R, z_bk_X, oAdd, oSub, oMul, oNeg, cLt, cLe, cGt, cGe, cEq, cNe, Option.some.injEq, Sum.inl.injEq, Sum.inr.injEq, Prod.mk.injEq, exists_eq_left, exists_eq_left', exists_eq_right, exists_and_left, reduceCtorEq, and_true, true_and, and_false, false_and, List.getElem?_cons_zero, List.getElem?_cons_succ, List.set_cons_zero, List.set_cons_succ, List.replicate, List.length_cons, List.length_nil, List.cons_append, List.nil_append, Nat.reduceAdd, Nat.reduceSub, decide_eq_true_eq, decide_eq_false_iff_not, Bool.true_eq_false, Bool.false_eq_true, true_implies, false_implies, implies_true, Nat.reduceLT, exists_const, z_vB_inj, and_assoc, z_in_iff, oI2L, oL2I, Int.toNat_natCast, z_toNat0, Bool.not_eq_true', Bool.not_eq_false', ne_eq, Bool.not_true, Bool.not_false, Nat.add_zero, Int.add_zero, z_sl_s]
  omega
theorem f_at {m n x y : Nat} (hm : m < 4) (hn : n ≤ 5) (e : S (51 + 9 * m) 0 = (n : Int)) (hx : x < n) (hy : y < n) : m_X5_at [vR 0, vI (m : Int), vI (x : Int), vI (y : Int)] (k_W X S) = some (.inl (some (vI (cM S m x y))), k_W X S) := by
  have c0 := s_nE (X := X) hm hn e hx hy
  have r2 := k_2r hm
  have r5 := k_5r (i := m) (x := x) (by omega)
  rw [cM_l (by omega)]
  unfold m_X5_at
  rw [k_v0]
  apply q_body
  have b6 : INF = 1000000 := rfl
  simp only [b_X5_at, c0, k_o0, k_a2, r2, k_mo hm, k_me hm, r5, k_mr hm (by omega : x < 5), qS_nop, qS_seq, qS_set, qS_setJ, qS_if, qS_brk, qS_ret, qS_retV, qS_throw, qS_inc, qS_cl, qS_ast, qS_aop, qS_fst, qS_fop, qS_sw, qT_eC, qT_eCB, qT_eL, qT_eLJ, qT_eLR, qT_eLS, qT_eSLen, qT_eSLd, qT_eLB, qT_e1, qT_e2, qT_bCmp, qT_bCmpJ, qT_bAnd, qT_bOr, qT_bNot, qT_eBI, qT_eIf, qT_eLd, qT_eLdR, qT_eLen, qT_eF, qT_eFR, qT_aN, qT_aS, qT_eCl, qT_eClR, qT_eClB, qT_some, qT_x, z_nx_N, z_nx_B, z_nx_R, z_nx_X, z_bk_N, z_bk_B, z_bk_R, z_bk_X, oAdd, oSub, oMul, oNeg, cLt, cLe, cGt, cGe, cEq, cNe, Option.some.injEq, Sum.inl.injEq, Sum.inr.injEq, Prod.mk.injEq, exists_eq_left, exists_eq_left', exists_eq_right, exists_and_left, reduceCtorEq, and_true, true_and, and_false, false_and, List.getElem?_cons_zero, List.getElem?_cons_succ, List.set_cons_zero, List.set_cons_succ, List.replicate, List.length_cons, List.length_nil, List.cons_append, List.nil_append, Nat.reduceAdd, Nat.reduceSub, decide_eq_true_eq, decide_eq_false_iff_not, Bool.true_eq_false, Bool.false_eq_true, true_implies, false_implies, implies_true, Nat.reduceLT, exists_const, z_vB_inj, and_assoc, z_in_iff, oI2L, oL2I, Int.toNat_natCast, z_toNat0, Bool.not_eq_true', Bool.not_eq_false', ne_eq, Bool.not_true, Bool.not_false, Nat.add_zero, Int.add_zero, z_sl_s]
  omega
theorem f_entry {m n x y : Nat} (hm : m < 4) (hn : n ≤ 5) (e : S (51 + 9 * m) 0 = (n : Int)) (hx : x < n) (hy : y < n) {v : Int} (hv : (-999 ≤ v ∧ v ≤ 999) ∨ v = INF) : m_X5_entry [vR 0, vI (m : Int), vI (x : Int), vI (y : Int), vI v] (k_W X S) = some (.inl (some (vI (cM S m x y))), k_W X (k_u S (53 + 9 * m + x) (z_up (S (53 + 9 * m + x)) y v))) := by
  have c0 := s_nE (X := X) hm hn e hx hy
  have c1 := s_nG1 (n := v) hv
  have r2 := k_2r hm
  have r5 := k_5r (i := m) (x := x) (by omega)
  rw [cM_l (by omega)]
  unfold m_X5_entry
  rw [k_v0]
  apply q_body
  have b6 : INF = 1000000 := rfl
  simp only [b_X5_entry, c0, c1, k_o0, k_a2, r2, k_mo hm, k_me hm, r5, k_mr hm (by omega : x < 5), k_ms hm (by omega : x < 5), qS_nop, qS_seq, qS_set, qS_setJ, qS_if, qS_brk, qS_ret, qS_retV, qS_throw, qS_inc, qS_cl, qS_ast, qS_aop, qS_fst, qS_fop, qS_sw, qT_eC, qT_eCB, qT_eL, qT_eLJ, qT_eLR, qT_eLS, qT_eSLen, qT_eSLd, qT_eLB, qT_e1, qT_e2, qT_bCmp, qT_bCmpJ, qT_bAnd, qT_bOr, qT_bNot, qT_eBI, qT_eIf, qT_eLd, qT_eLdR, qT_eLen, qT_eF, qT_eFR, qT_aN, qT_aS, qT_eCl, qT_eClR, qT_eClB, qT_some, qT_x, z_nx_N, z_nx_B, z_nx_R, z_nx_X, z_bk_N, z_bk_B, z_bk_R, z_bk_X, oAdd, oSub, oMul, oNeg, cLt, cLe, cGt, cGe, cEq, cNe, Option.some.injEq, Sum.inl.injEq, Sum.inr.injEq, Prod.mk.injEq, exists_eq_left, exists_eq_left', exists_eq_right, exists_and_left, reduceCtorEq, and_true, true_and, and_false, false_and, List.getElem?_cons_zero, List.getElem?_cons_succ, List.set_cons_zero, List.set_cons_succ, List.replicate, List.length_cons, List.length_nil, List.cons_append, List.nil_append, Nat.reduceAdd, Nat.reduceSub, decide_eq_true_eq, decide_eq_false_iff_not, Bool.true_eq_false, Bool.false_eq_true, true_implies, false_implies, implies_true, Nat.reduceLT, exists_const, z_vB_inj, and_assoc, z_in_iff, oI2L, oL2I, Int.toNat_natCast, z_toNat0, Bool.not_eq_true', Bool.not_eq_false', ne_eq, Bool.not_true, Bool.not_false, Nat.add_zero, Int.add_zero, z_sl_s]
  omega
/-- where a matrix lies -/
def cMx (i a : Nat) : Prop := 51 + 9 * i ≤ a ∧ a ≤ 57 + 9 * i
theorem cFr.mx {S' : Nat → Nat → Int} {i : Nat} (h : cFr (cMx i) S S') : cFr (cMD i) S S' := h.to (fun _ => Or.inl)
theorem cInv.mx {S' : Nat → Nat → Int} (h : cInv S) {i : Nat} (hi : i < 4) (hm : cMs S' i) (e : cFr (cMx i) S S') : cInv S' := h.m hi hm (h.2.2.2.2.fr e (fun a h1 h2 => by unfold cMx; omega)) e.mx
/-- an entry is set -/
theorem k_ent {m x y : Nat} (hm : m < 4) (hx : x < 5) {v : Int} : (∀ a b, a < 5 → cM (k_u S (53 + 9 * m + x) (z_up (S (53 + 9 * m + x)) y v)) m a b = if a = x ∧ b = y then v else cM S m a b) ∧ cFr (cMx m) S (k_u S (53 + 9 * m + x) (z_up (S (53 + 9 * m + x)) y v)) ∧ k_u S (53 + 9 * m + x) (z_up (S (53 + 9 * m + x)) y v) (51 + 9 * m) = S (51 + 9 * m) := by
  refine ⟨fun a b ha => ?_, cFr.u (Or.inr (by unfold cMx; omega)) _, k_u_n (by omega)⟩
  rw [cM_l ha, cM_l ha]
  unfold k_u z_up
  by_cases c : a = x
  · rw [if_pos (by omega)]
    by_cases d : b = y
    · rw [if_pos d, if_pos ⟨c, d⟩]
    · rw [if_neg d, if_neg (by omega), c]
  · rw [if_neg (by omega), if_neg (by omega)]
theorem cInv.ent (I : cInv S) {m n x y : Nat} (hm : m < 4) (e : S (51 + 9 * m) 0 = (n : Int)) (hx : x < n) (hy : y < n) {v : Int} (hv : (-999 ≤ v ∧ v ≤ 999) ∨ v = INF) : cInv (k_u S (53 + 9 * m + x) (z_up (S (53 + 9 * m + x)) y v)) := by
  have b6 : INF = 1000000 := rfl
  obtain ⟨n', a1, a2, a3, a4⟩ := I.2.1 m hm
  have en : n' = n := by omega
  subst en
  obtain ⟨k1, k2, k3⟩ := k_ent (S := S) (y := y) (v := v) hm (show x < 5 by omega)
  refine I.mx hm ⟨n', a1, by rw [k3]; exact a2, fun a b ha hb => ?_, fun a b ha hb => ?_⟩ k2
  · rw [k1 a b ha]
    split
    · omega
    · exact a3 a b ha hb
  · rw [k1 a b (by omega)]
    split
    · omega
    · exact a4 a b ha hb
theorem f_matrix (I : cInv S) {i b : Nat} (hi : i < 4) (hb : 1 ≤ b ∧ b ≤ 5) : ∃ S', m_X5_matrix [vR 0, vI (i : Int), vI (b : Int)] (k_W X S) = some (.inl (some (vI (S (51 + 9 * i) 0))), k_W X S') ∧ S' (51 + 9 * i) 0 = (b : Int) ∧ cFr (cMx i) S S' ∧ cInv S' := by
  have b6 : INF = 1000000 := rfl
  obtain ⟨n0, a1, a3, a5, a6⟩ := I.2.1 i hi
  have c0 := s_nH1 (i := (i : Int)) (by omega)
  have c1 := s_nW1 (n := (b : Int)) (a := 1) (b := 5) (by decide) (by decide) (by omega)
  have r2 := k_2r hi
  obtain ⟨h', x1, x2, x3⟩ := s_becomeEmpty (k_mat (X := X) (S := S) hi a3) (m := b) (by omega)
  have x4 := k_back (k_mC hi) (fun j hj f => k_rC hi hj f) (by omega) (by omega) (by omega) x2 x3
  rw [x4] at x1
  obtain ⟨S', hS'⟩ : ∃ S', S' = k_mt S (51 + 9 * i) (53 + 9 * i) b (fun x y => if x < 5 ∧ y < 5 then INF else kF S (53 + 9 * i) 5 x y) := ⟨_, rfl⟩
  rw [← hS'] at x1
  have s51 : S' (51 + 9 * i) 0 = (b : Int) := by rw [hS', k_mt_o]
  have sF : cFr (cMx i) S S' := fun a _ h2 => by
    unfold cMx at h2
    rw [hS', k_mt_n (by omega) (by omega)]
  have sM : ∀ x y, x < 5 → y < 5 → cM S' i x y = INF := fun x y hx hy => by
    rw [cM_l hx, hS', k_mt_r (by omega) hx, if_pos ⟨hx, hy⟩]
  refine ⟨S', ?_, s51, sF, I.mx hi ⟨b, hb, s51, fun x y hx hy => by rw [sM x y hx hy]; omega, fun x y hx hy => Or.inl (sM x y (by omega) (by omega))⟩ sF⟩
  unfold m_X5_matrix
  rw [k_v0]
  apply q_body
  have b6 : INF = 1000000 := rfl
  simp only [b_X5_matrix, c0, c1, k_o0, k_a2, r2, k_mo hi, a3, x1, qS_nop, qS_seq, qS_set, qS_setJ, qS_if, qS_brk, qS_ret, qS_retV, qS_throw, qS_inc, qS_cl, qS_ast, qS_aop, qS_fst, qS_fop, qS_sw, qT_eC, qT_eCB, qT_eL, qT_eLJ, qT_eLR, qT_eLS, qT_eSLen, qT_eSLd, qT_eLB, qT_e1, qT_e2, qT_bCmp, qT_bCmpJ, qT_bAnd, qT_bOr, qT_bNot, qT_eBI, qT_eIf, qT_eLd, qT_eLdR, qT_eLen, qT_eF, qT_eFR, qT_aN, qT_aS, qT_eCl, qT_eClR, qT_eClB, qT_some, qT_x, z_nx_N, z_nx_B, z_nx_R, z_nx_X, z_bk_N, z_bk_B, z_bk_R, z_bk_X, oAdd, oSub, oMul, oNeg, cLt, cLe, cGt, cGe, cEq, cNe, Option.some.injEq, Sum.inl.injEq, Sum.inr.injEq, Prod.mk.injEq, exists_eq_left, exists_eq_left', exists_eq_right, exists_and_left, reduceCtorEq, and_true, true_and, and_false, false_and, List.getElem?_cons_zero, List.getElem?_cons_succ, List.set_cons_zero, List.set_cons_succ, List.replicate, List.length_cons, List.length_nil, List.cons_append, List.nil_append, Nat.reduceAdd, Nat.reduceSub, decide_eq_true_eq, decide_eq_false_iff_not, Bool.true_eq_false, Bool.false_eq_true, true_implies, false_implies, implies_true, Nat.reduceLT, exists_const, z_vB_inj, and_assoc, z_in_iff, oI2L, oL2I, Int.toNat_natCast, z_toNat0, Bool.not_eq_true', Bool.not_eq_false', ne_eq, Bool.not_true, Bool.not_false, Nat.add_zero, Int.add_zero, z_sl_s]
  omega
theorem f_part {i j : Nat} (hi : i < 4) (hj : j < 5) {v : Int} (hv : (-999 ≤ v ∧ v ≤ 999) ∨ v = INF) : m_X5_part [vR 0, vI (i : Int), vI (j : Int), vI v] (k_W X S) = some (.inl (some (vI (S (4 + i) j))), k_W X (k_u S (4 + i) (z_up (S (4 + i)) j v))) := by
  have c0 := s_nH1 (i := (i : Int)) (by omega)
  have c1 := s_nI1 (i := (j : Int)) (c := 5) (by decide) (by omega)
  have c2 := s_nG1 (n := v) hv
  have a3 := k_3r hi
  unfold m_X5_part
  rw [k_v0]
  apply q_body
  have b6 : INF = 1000000 := rfl
  simp only [b_X5_part, c0, c1, c2, k_o0, k_a3, a3, q_arr (k_vc (X := X) (S := S) hi) (by decide : 5 < 2147483648), k_vs hi, qS_nop, qS_seq, qS_set, qS_setJ, qS_if, qS_brk, qS_ret, qS_retV, qS_throw, qS_inc, qS_cl, qS_ast, qS_aop, qS_fst, qS_fop, qS_sw, qT_eC, qT_eCB, qT_eL, qT_eLJ, qT_eLR, qT_eLS, qT_eSLen, qT_eSLd, qT_eLB, qT_e1, qT_e2, qT_bCmp, qT_bCmpJ, qT_bAnd, qT_bOr, qT_bNot, qT_eBI, qT_eIf, qT_eLd, qT_eLdR, qT_eLen, qT_eF, qT_eFR, qT_aN, qT_aS, qT_eCl, qT_eClR, qT_eClB, qT_some, qT_x, z_nx_N, z_nx_B, z_nx_R, z_nx_X, z_bk_N, z_bk_B, z_bk_R, z_bk_X, oAdd, oSub, oMul, oNeg, cLt, cLe, cGt, cGe, cEq, cNe, Option.some.injEq, Sum.inl.injEq, Sum.inr.injEq, Prod.mk.injEq, exists_eq_left, exists_eq_left', exists_eq_right, exists_and_left, reduceCtorEq, and_true, true_and, and_false, false_and, List.getElem?_cons_zero, List.getElem?_cons_succ, List.set_cons_zero, List.set_cons_succ, List.replicate, List.length_cons, List.length_nil, List.cons_append, List.nil_append, Nat.reduceAdd, Nat.reduceSub, decide_eq_true_eq, decide_eq_false_iff_not, Bool.true_eq_false, Bool.false_eq_true, true_implies, false_implies, implies_true, Nat.reduceLT, exists_const, z_vB_inj, and_assoc, z_in_iff, oI2L, oL2I, Int.toNat_natCast, z_toNat0, Bool.not_eq_true', Bool.not_eq_false', ne_eq, Bool.not_true, Bool.not_false, Nat.add_zero, Int.add_zero, z_sl_s]
  omega
theorem f_partAt {i j : Nat} (hi : i < 4) (hj : j < 5) : m_X5_partAt [vR 0, vI (i : Int), vI (j : Int)] (k_W X S) = some (.inl (some (vI (S (4 + i) j))), k_W X S) := by
  have c0 := s_nH1 (i := (i : Int)) (by omega)
  have c1 := s_nI1 (i := (j : Int)) (c := 5) (by decide) (by omega)
  have a3 := k_3r hi
  unfold m_X5_partAt
  rw [k_v0]
  apply q_body
  have b6 : INF = 1000000 := rfl
  simp only [b_X5_partAt, c0, c1, k_o0, k_a3, a3, q_arr (k_vc (X := X) (S := S) hi) (by decide : 5 < 2147483648), qS_nop, qS_seq, qS_set, qS_setJ, qS_if, qS_brk, qS_ret, qS_retV, qS_throw, qS_inc, qS_cl, qS_ast, qS_aop, qS_fst, qS_fop, qS_sw, qT_eC, qT_eCB, qT_eL, qT_eLJ, qT_eLR, qT_eLS, qT_eSLen, qT_eSLd, qT_eLB, qT_e1, qT_e2, qT_bCmp, qT_bCmpJ, qT_bAnd, qT_bOr, qT_bNot, qT_eBI, qT_eIf, qT_eLd, qT_eLdR, qT_eLen, qT_eF, qT_eFR, qT_aN, qT_aS, qT_eCl, qT_eClR, qT_eClB, qT_some, qT_x, z_nx_N, z_nx_B, z_nx_R, z_nx_X, z_bk_N, z_bk_B, z_bk_R, z_bk_X, oAdd, oSub, oMul, oNeg, cLt, cLe, cGt, cGe, cEq, cNe, Option.some.injEq, Sum.inl.injEq, Sum.inr.injEq, Prod.mk.injEq, exists_eq_left, exists_eq_left', exists_eq_right, exists_and_left, reduceCtorEq, and_true, true_and, and_false, false_and, List.getElem?_cons_zero, List.getElem?_cons_succ, List.set_cons_zero, List.set_cons_succ, List.replicate, List.length_cons, List.length_nil, List.cons_append, List.nil_append, Nat.reduceAdd, Nat.reduceSub, decide_eq_true_eq, decide_eq_false_iff_not, Bool.true_eq_false, Bool.false_eq_true, true_implies, false_implies, implies_true, Nat.reduceLT, exists_const, z_vB_inj, and_assoc, z_in_iff, oI2L, oL2I, Int.toNat_natCast, z_toNat0, Bool.not_eq_true', Bool.not_eq_false', ne_eq, Bool.not_true, Bool.not_false, Nat.add_zero, Int.add_zero, z_sl_s]
  omega
theorem cInv.part (I : cInv S) {i j : Nat} (hi : i < 4) {v : Int} (hv : (-999 ≤ v ∧ v ≤ 999) ∨ v = INF) : cInv (k_u S (4 + i) (z_up (S (4 + i)) j v)) := by
  have b6 : INF = 1000000 := rfl
  refine I.v hi (fun k hk => ?_) (cFr.u (D := fun a => a = 4 + i) (Or.inr rfl) _)
  rw [k_u_s]
  unfold z_up
  split
  · omega
  · exact I.2.2.1 i hi k hk
/-- a product is kept -/
theorem f_multiply (I : cInv S) {i j l n : Nat} (hi : i < 4) (hj : j < 4) (hl : l < 4) (ei : S (51 + 9 * i) 0 = (n : Int)) (ej : S (51 + 9 * j) 0 = (n : Int)) (Q : mWi (mMul (cM S i) (cM S j) n) n) : ∃ S', m_X5_multiply [vR 0, vI (i : Int), vI (j : Int), vI (l : Int)] (k_W X S) = some (.inl (some (vI (mC (mMul (cM S i) (cM S j) n) n n))), k_W X S') ∧ S' (51 + 9 * l) 0 = (n : Int) ∧ (∀ x y, x < n → y < n → cM S' l x y = mMul (cM S i) (cM S j) n x y) ∧ cFr (cMD l) S S' ∧ cInv S' := by
  have b6 : INF = 1000000 := rfl
  have c0 := s_nH1 (i := (i : Int)) (by omega)
  have c1 := s_nH1 (i := (j : Int)) (by omega)
  have c2 := s_nH1 (i := (l : Int)) (by omega)
  obtain ⟨n1, nb, n51, nB, nW⟩ := I.2.1 i hi
  obtain ⟨n2, nb', n51', nB', nW'⟩ := I.2.1 j hj
  obtain ⟨nt, nbt, n51t, ntB, -⟩ := I.2.1 l hl
  have q1 : n1 = n := by omega
  have q2 : n2 = n := by omega
  subst q1
  subst q2
  have r2 := k_2r hi
  have r3 := k_2r hj
  obtain ⟨p30, hp30, e30⟩ := I.2.2.2.2.1
  obtain ⟨h', x1, x2, x3⟩ := s_prodM (k_mat30 (X := X) (S := S) e30) (k_mat (S := S) hi n51) (k_mat (S := S) hj n51') ⟨by omega, fun x y hx hy => by omega⟩ ⟨by omega, fun x y hx hy => by omega⟩ nb.2 nB nB'
  have x4 := k_back k_C30 k_C32 (by decide) (by decide) (by decide) x2 x3
  rw [x4] at x1
  obtain ⟨Y, hY⟩ : ∃ Y, Y = k_mt S 30 32 n2 (fun x y => if x < n2 ∧ y < n2 then mMul (kF S (53 + 9 * i) 5) (kF S (53 + 9 * j) 5) n2 x y else kF S 32 5 x y) := ⟨_, rfl⟩
  rw [← hY] at x1
  have Yo : ∀ a, ¬ (30 ≤ a ∧ a ≤ 43) → Y a = S a := fun a h2 => by rw [hY, k_mt_n (by omega) (by omega)]
  have Y30 : Y 30 0 = (n2 : Int) := by rw [hY, k_mt_o]
  have Y51 : Y (51 + 9 * l) 0 = (nt : Int) := by rw [Yo _ (by omega)]; exact n51t
  have YF : ∀ x y, x < 5 → kF Y 32 5 x y = if x < n2 ∧ y < n2 then mMul (cM S i) (cM S j) n2 x y else kF S 32 5 x y := fun x y hx => by
    rw [kF_l hx, hY, k_mt_r (by omega) hx]
    rfl
  have yb : mBd (kF Y 32 5) 1000000000 := fun x y hx hy => by
    rw [YF x y hx]
    split
    · next c => have := Q x y c.1 c.2; omega
    · exact I.2.2.2.2.2.2.1 x y hx hy
  have yw : mWi (kF Y 32 5) n2 := fun x y hx hy => by
    rw [YF x y (by omega), if_pos ⟨hx, hy⟩]
    exact Q x y hx hy
  have kp := s_kp1 (X := X) hl nb Y51 Y30 yb yw
  rw [mC_cg (B := mMul (cM S i) (cM S j) n2) (fun x y hx hy => by rw [YF x y (by omega), if_pos ⟨hx, hy⟩]) n2 (Nat.le_refl n2)] at kp
  have zM : ∀ x y, x < 5 → cM (kKp Y l n2) l x y = if y < 5 then kF Y 32 5 x y else kF Y (53 + 9 * l) 5 x y := fun x y hx => by
    rw [cM_l hx]
    unfold kKp
    rw [k_mt_r (by omega) hx]
    by_cases c : y < 5
    · rw [if_pos ⟨hx, c⟩, if_pos c]
    · rw [if_neg (fun w => c w.2), if_neg c]
  have z51 : kKp Y l n2 (51 + 9 * l) 0 = (n2 : Int) := by unfold kKp; rw [k_mt_o]
  have zn : ∀ a, ¬ (51 + 9 * l ≤ a ∧ a ≤ 57 + 9 * l) → kKp Y l n2 a = Y a := fun a ha => by unfold kKp; rw [k_mt_n (by omega) (by omega)]
  have zf : cFr (cMD l) S (kKp Y l n2) := fun a _ h2 => by
    unfold cMD at h2
    rw [zn a (by omega), Yo a (by omega)]
  have zv : ∀ x y, x < n2 → y < n2 → cM (kKp Y l n2) l x y = mMul (cM S i) (cM S j) n2 x y := fun x y hx hy => by
    rw [zM x y (by omega), if_pos (by omega), YF x y (by omega), if_pos ⟨hx, hy⟩]
  refine ⟨kKp Y l n2, ?_, z51, zv, zf, I.m hl ⟨n2, nb, z51, fun x y hx hy => ?_, fun x y hx hy => ?_⟩ ⟨⟨n2, nb.2, ?_⟩, ?_, ?_, ?_⟩ zf⟩
  · unfold m_X5_multiply
    rw [k_v0]
    apply q_body
    have b6 : INF = 1000000 := rfl
    simp only [b_X5_multiply, c0, c1, c2, k_o0, k_a2, r2, r3, k_mo hi, k_mo hj, n51, n51', x1, kp, z_vB1, z_vB0, if_true, if_false, not_true_eq_false, not_false_eq_true, exists_eq, qS_nop, qS_seq, qS_set, qS_setJ, qS_if, qS_brk, qS_ret, qS_retV, qS_throw, qS_inc, qS_cl, qS_ast, qS_aop, qS_fst, qS_fop, qS_sw, qT_eC, qT_eCB, qT_eL, qT_eLJ, qT_eLR, qT_eLS, qT_eSLen, qT_eSLd, qT_eLB, qT_e1, qT_e2, qT_bCmp, qT_bCmpJ, qT_bAnd, qT_bOr, qT_bNot, qT_eBI, qT_eIf, qT_eLd, qT_eLdR, qT_eLen, qT_eF, qT_eFR, qT_aN, qT_aS, qT_eCl, qT_eClR, qT_eClB, qT_some, qT_x, z_nx_N, z_nx_B, z_nx_R, z_nx_X, z_bk_N, z_bk_B, z_bk_R, z_bk_X, oAdd, oSub, oMul, oNeg, cLt, cLe, cGt, cGe, cEq, cNe, Option.some.injEq, Sum.inl.injEq, Sum.inr.injEq, Prod.mk.injEq, exists_eq_left, exists_eq_left', exists_eq_right, exists_and_left, reduceCtorEq, and_true, true_and, and_false, false_and, List.getElem?_cons_zero, List.getElem?_cons_succ, List.set_cons_zero, List.set_cons_succ, List.replicate, List.length_cons, List.length_nil, List.cons_append, List.nil_append, Nat.reduceAdd, Nat.reduceSub, decide_eq_true_eq, decide_eq_false_iff_not, Bool.true_eq_false, Bool.false_eq_true, true_implies, false_implies, implies_true, Nat.reduceLT, exists_const, z_vB_inj, and_assoc, z_in_iff, oI2L, oL2I, Int.toNat_natCast, z_toNat0, Bool.not_eq_true', Bool.not_eq_false', ne_eq, Bool.not_true, Bool.not_false, Nat.add_zero, Int.add_zero, z_sl_s]
    omega
  · rw [zM x y hx, if_pos hy]
    exact yb x y hx hy
  · rw [zv x y hx hy]
    exact Q x y hx hy
  · rw [zn 30 (by omega)]; exact Y30
  · rw [zn 37 (by omega), hY, k_mt_n (by omega) (by omega)]
    exact I.2.2.2.2.2.1
  · rw [kF_e (S := Y) (fun x hx => zn _ (by omega))]
    exact yb
  · rw [kF_e (S := S) (fun x hx => by rw [zn _ (by omega), hY, k_mt_n (by omega) (by omega)])]
    exact I.2.2.2.2.2.2.2
end FM2
