/-! Choices -/
def nb (k : Nat) : Nat := ((List.range 5).filter (fun i => k.testBit i)).length
theorem nb_sub : ∀ (s : Fin 32) (c : Fin 5), s.val.testBit c.val = true → nb (s.val - 2 ^ c.val) + 1 = nb s.val ∧ 2 ^ c.val ≤ s.val := by decide
theorem o_shl : ∀ c : Fin 6, oShl 1 (c.val : Int) = some ((2 ^ c.val : Nat) : Int) := by decide
theorem o_shr : ∀ (s : Fin 32) (c : Fin 5), oShr (s.val : Int) (c.val : Int) = some ((s.val / 2 ^ c.val : Nat) : Int) := by decide
theorem o_and : ∀ (s : Fin 32), oAnd (s.val : Int) 1 = some ((s.val % 2 : Nat) : Int) := by decide
theorem o_bit : ∀ (s : Fin 32) (c : Fin 5), (((s.val / 2 ^ c.val) % 2 : Nat) : Int) = 1 ↔ s.val.testBit c.val = true := by decide
theorem nb_le : ∀ s : Fin 32, nb s.val ≤ 5 := by decide
def cOff (e : Int) (s l : Nat) (P : (Nat → Int) × (Nat → Int)) : (Nat → Int) × (Nat → Int) :=
  if z_plus (P.1 l) e = INF then P else if z_plus (P.1 l) e < P.1 s then (z_up P.1 s (z_plus (P.1 l) e), z_up P.2 s (P.2 l)) else if z_plus (P.1 l) e = P.1 s then (P.1, z_up P.2 s (P.2 s + P.2 l)) else P
def cAt (h : z_Hp) (o a c : Nat) (P : (Nat → Int) × (Nat → Int)) : Prop := h[o]? = some (.inl (0, [vR a, vR c])) ∧ h[a]? = some (.inr (0, 32, P.1)) ∧ h[c]? = some (.inr (0, 32, P.2)) ∧ a ≠ c
section CH
variable {h : z_Hp} {o a c : Nat} {P : (Nat → Int) × (Nat → Int)}
theorem cAt.sa (q : cAt h o a c P) (f : Nat → Int) : cAt (h.set a (.inr (0, 32, f))) o a c (f, P.2) := by
  have oa : a ≠ o := by rintro rfl; have := q.1; rw [q.2.1] at this; cases this
  exact ⟨(z_set_ne oa).trans q.1, z_set_get q.2.1, (z_set_ne q.2.2.2).trans q.2.2.1, q.2.2.2⟩
theorem cAt.sc (q : cAt h o a c P) (f : Nat → Int) : cAt (h.set c (.inr (0, 32, f))) o a c (P.1, f) := by
  have oc : c ≠ o := by rintro rfl; have := q.1; rw [q.2.2.1] at this; cases this
  exact ⟨(z_set_ne oc).trans q.1, (z_set_ne q.2.2.2.symm).trans q.2.1, z_set_get q.2.2.1, q.2.2.2⟩
theorem s_offer (q : cAt h o a c P) {s l : Nat} (hs : s < 32) (hl : l < 32) (hn : l ≠ s) {e : Int} (he : -100000 ≤ e ∧ e ≤ 1000000) (b1 : -100000000 ≤ P.1 s ∧ P.1 s ≤ 1000000) (b2 : -100000000 ≤ P.1 l ∧ P.1 l ≤ 1000000) (b3 : 0 ≤ P.2 s ∧ P.2 s ≤ 1000000) (b4 : 0 ≤ P.2 l ∧ P.2 l ≤ 1000000) :
    ∃ h', m_X0_offer [vR o, vI (s : Int), vI (l : Int), vI e] h = some (.inl none, h') ∧ cAt h' o a c (cOff e s l P) ∧ z_fr (fun x => x = a ∨ x = c) h h' := by
  unfold m_X0_offer
  rw [q_vm q.1]
  apply q_bodyV
  have v3 := z_plus_b (x := P.1 l) (y := e) (a := -100000000) (b := -100000) b2 he (by decide) (by decide)
  have e1 := s_together (x := P.1 l) (y := e) (h := h) ⟨by omega, by omega⟩ ⟨by omega, by omega⟩
  rw [show (if P.1 l = INF ∨ e = INF then INF else P.1 l + e) = z_plus (P.1 l) e from rfl] at e1
  generalize ht : z_plus (P.1 l) e = t at e1 v3
  have q1 := q.sa (z_up P.1 s t)
  have q2 := q1.sc (z_up P.2 s 0)
  have q3 := q2.sc (z_up (z_up P.2 s 0) s (z_up P.2 s 0 s + z_up P.2 s 0 l))
  have q4 := q.sc (z_up P.2 s (P.2 s + P.2 l))
  simp only [b_X0_offer, q_obj q.1, q_arr q.2.1 (by decide), q_arr q.2.2.1 (by decide), q_obj q1.1, q_arr q1.2.1 (by decide), q_arr q1.2.2.1 (by decide), q_obj q2.1, q_arr q2.2.1 (by decide), q_arr q2.2.2.1 (by decide), e1, qS_nop, qS_seq, qS_set, qS_setJ, qS_if, qS_brk, qS_ret, qS_retV, qS_throw, qS_inc, qS_cl, qS_ast, qS_aop, qS_fst, qS_fop, qS_sw, qT_eC, qT_eCB, qT_eL, qT_eLJ, qT_eLR, qT_eLB, qT_e1, qT_e2, qT_bCmp, qT_bCmpJ, qT_bAnd, qT_bOr, qT_bNot, qT_eBI, qT_eIf, qT_eLd, qT_eLdR, qT_eLen, qT_eF, qT_eFR, qT_aN, qT_aS, qT_eCl, qT_eClR, qT_eClB, qT_some, qT_x, z_nx_N, z_nx_B, z_nx_R, z_nx_X, z_bk_N, z_bk_B, z_bk_R, z_bk_X, oAdd, oSub, oMul, oNeg, cLt, cLe, cGt, cGe, cEq, cNe, Option.some.injEq, Sum.inl.injEq, Sum.inr.injEq, Prod.mk.injEq, exists_eq_left, exists_eq_left', exists_eq_right, exists_and_left, reduceCtorEq, and_true, true_and, and_false, false_and, List.getElem?_cons_zero, List.getElem?_cons_succ, List.set_cons_zero, List.set_cons_succ, List.replicate, List.length_cons, List.length_nil, List.cons_append, List.nil_append, Nat.reduceAdd, Nat.reduceSub, decide_eq_true_eq, decide_eq_false_iff_not, Bool.true_eq_false, Bool.false_eq_true, true_implies, false_implies, implies_true, Nat.reduceLT, exists_const, z_vB_inj, and_assoc, z_in_iff, oI2L, oL2I, Int.toNat_natCast, z_toNat0, Bool.not_eq_true', Bool.not_eq_false', ne_eq, Bool.not_true, Bool.not_false, Nat.add_zero, Int.add_zero, z_sl_s]
  have u1 : z_up P.1 s t s = t := by simp [z_up]
  have u2 : z_up (z_up P.2 s 0) s (z_up P.2 s 0 s + z_up P.2 s 0 l) = z_up P.2 s (P.2 l) := by
    funext x
    by_cases hx : x = s
    · subst hx; simp [z_up, hn]
    · simp [z_up, hx]
  have fa : ∀ (h : z_Hp) x, z_fr (fun x => x = a ∨ x = c) h (h.set a x) := fun h x => z_fr.set (Or.inl rfl)
  have fc : ∀ (h : z_Hp) x, z_fr (fun x => x = a ∨ x = c) h (h.set c x) := fun h x => z_fr.set (Or.inr rfl)
  rw [u1]
  refine ⟨by omega, by omega, by omega, by omega, by omega, by omega, fun p1 => ⟨?_, z_fr.rf⟩, fun p1 => ⟨by omega, by omega, by omega, by omega, by omega, by omega, fun p2 => ⟨by omega, by omega, by omega, by omega, by omega, by omega, by omega, by omega, by omega, by omega, fun _ => ⟨by omega, by omega, by omega, by omega, by omega, ?_, ((fa _ _).tr (fc _ _)).tr (fc _ _)⟩, fun w => absurd rfl w⟩, fun p2 => ⟨by omega, by omega, by omega, by omega, by omega, by omega, fun p3 => ⟨by omega, by omega, by omega, by omega, by omega, ?_, fc _ _⟩, fun p3 => ⟨?_, z_fr.rf⟩⟩⟩⟩
  · rw [cOff, if_pos (ht.trans p1)]
    exact q
  · rw [cOff, if_neg (fun w => p1 (ht.symm.trans w)), ht, if_pos p2, ← u2]
    exact q3
  · rw [cOff, if_neg (fun w => p1 (ht.symm.trans w)), ht, if_neg p2, if_pos p3]
    exact q4
  · rw [cOff, if_neg (fun w => p1 (ht.symm.trans w)), ht, if_neg p2, if_neg p3]
    exact q
/-- a column's part in a set; the columns, one after another; the sets -/
def cCol (M : Nat → Nat → Int) (s j : Nat) (P : (Nat → Int) × (Nat → Int)) : (Nat → Int) × (Nat → Int) :=
  if s.testBit j then cOff (M (nb s - 1) j) s (s - 2 ^ j) P else P
def cCols (M : Nat → Nat → Int) (s : Nat) (P : (Nat → Int) × (Nat → Int)) : Nat → (Nat → Int) × (Nat → Int)
  | 0 => (z_up P.1 s INF, z_up P.2 s 0)
  | j + 1 => cCol M s j (cCols M s P j)
def cSets (M : Nat → Nat → Int) (n : Nat) (P : (Nat → Int) × (Nat → Int)) : Nat → (Nat → Int) × (Nat → Int)
  | 0 => (z_up P.1 0 0, z_up P.2 0 1)
  | k + 1 => cCols M (k + 1) (cSets M n P k) n
/-- what holds of the sums and counts below a set -/
def cIn (P : (Nat → Int) × (Nat → Int)) (m : Nat) : Prop := ∀ k, k < m → -(100000 * (nb k : Int)) ≤ P.1 k ∧ P.1 k ≤ 1000000 ∧ 0 ≤ P.2 k ∧ P.2 k ≤ (5 : Int) ^ nb k
theorem nb_pos : ∀ s : Fin 32, 0 < s.val → 0 < nb s.val := by decide
theorem cCols_in {M : Nat → Nat → Int} (hM : mBd M 100000) {s : Nat} (h0 : 0 < s) (hs : s < 32) (hP : cIn P s) : ∀ j, j ≤ 5 → (∀ k, k ≠ s → (cCols M s P j).1 k = P.1 k ∧ (cCols M s P j).2 k = P.2 k) ∧ -(100000 * (nb s : Int)) ≤ (cCols M s P j).1 s ∧ (cCols M s P j).1 s ≤ 1000000 ∧ 0 ≤ (cCols M s P j).2 s ∧ (cCols M s P j).2 s ≤ (j : Int) * (5 : Int) ^ (nb s - 1)
  | 0, _ => by
    refine ⟨fun k hk => ?_, ?_, ?_, ?_, ?_⟩
    · simp [cCols, z_up, hk]
    · simp [cCols, z_up, INF]; omega
    · simp [cCols, z_up, INF]
    · simp [cCols, z_up]
    · simp [cCols, z_up]
  | j + 1, hj => by
    obtain ⟨i1, i2, i3, i4, i5⟩ := cCols_in hM h0 hs hP j (by omega)
    have b5 : (0 : Int) ≤ (5 : Int) ^ (nb s - 1) := Int.pow_nonneg (by decide)
    have e5 : ((j + 1 : Nat) : Int) * (5 : Int) ^ (nb s - 1) = (j : Int) * (5 : Int) ^ (nb s - 1) + (5 : Int) ^ (nb s - 1) := by
      rw [Int.natCast_add, Int.add_mul, Int.natCast_one, Int.one_mul]
    rw [e5]
    unfold cCols cCol
    split
    case isFalse => exact ⟨i1, i2, i3, i4, by omega⟩
    case isTrue ht =>
      have n1 := nb_sub ⟨s, hs⟩ ⟨j, hj⟩ ht
      simp only at n1
      have pj : 0 < 2 ^ j := Nat.pow_pos (by decide)
      have l1 : s - 2 ^ j < s := by omega
      have p1 := hP (s - 2 ^ j) l1
      have l2 := i1 (s - 2 ^ j) (by omega)
      rw [show nb (s - 2 ^ j) = nb s - 1 by omega] at p1
      have m1 := hM (nb s - 1) j (by have := nb_le ⟨s, hs⟩; simp only at this; omega) (by omega)
      have v := z_plus_b (x := P.1 (s - 2 ^ j)) (y := M (nb s - 1) j) (a := -(100000 * ((nb s - 1 : Nat) : Int))) (b := -100000) ⟨p1.1, p1.2.1⟩ m1 (by omega) (by decide)
      unfold cOff
      rw [l2.1]
      generalize z_plus (P.1 (s - 2 ^ j)) (M (nb s - 1) j) = t at v
      split
      · exact ⟨i1, i2, i3, i4, by omega⟩
      split
      · refine ⟨fun k hk => ?_, ?_, ?_, ?_, ?_⟩
        · simp [z_up, hk, i1 k hk]
        · simp only [z_up, if_true]; omega
        · simp only [z_up, if_true]; omega
        · simp only [z_up, if_true]; omega
        · simp only [z_up, if_true]
          have : (0 : Int) ≤ (j : Int) * (5 : Int) ^ (nb s - 1) := Int.mul_nonneg (by omega) b5
          omega
      · split
        · refine ⟨fun k hk => ?_, i2, i3, ?_, ?_⟩
          · simp [z_up, hk, i1 k hk]
          · simp only [z_up, if_true]; omega
          · simp only [z_up, if_true]; omega
        · exact ⟨i1, i2, i3, i4, by omega⟩
theorem cSets_in {M : Nat → Nat → Int} (hM : mBd M 100000) {n : Nat} (hn : n ≤ 5) : ∀ k, k < 32 → cIn (cSets M n P k) (k + 1)
  | 0, _ => by
    intro x hx
    obtain rfl : x = 0 := by omega
    have e : nb 0 = 0 := by decide
    simp [cSets, z_up, e]
  | k + 1, hk => by
    have ih := cSets_in hM hn k (by omega)
    have := cCols_in hM (show 0 < k + 1 by omega) hk ih n hn
    intro x hx
    unfold cSets
    by_cases hx2 : x = k + 1
    · subst hx2
      refine ⟨this.2.1, this.2.2.1, this.2.2.2.1, Int.le_trans this.2.2.2.2 ?_⟩
      have b5 : (0 : Int) ≤ (5 : Int) ^ (nb (k + 1) - 1) := Int.pow_nonneg (by decide)
      have np := nb_pos ⟨k + 1, hk⟩ (Nat.succ_pos k)
      simp only at np
      obtain ⟨q, hq⟩ : ∃ q, nb (k + 1) = q + 1 := ⟨nb (k + 1) - 1, by omega⟩
      rw [hq, Nat.add_sub_cancel] at b5 ⊢
      rw [Int.pow_succ, Int.mul_comm]
      exact Int.mul_le_mul_of_nonneg_left (by omega) b5
    · have w := this.1 x hx2
      rw [w.1, w.2]
      exact ih x (by omega)
theorem cAt.m {om em rm n : Nat} {M : Nat → Nat → Int} (q : cAt h o a c P) (m : mAt h om em rm n M) {h' : z_Hp} (f : z_fr (fun x => x = a ∨ x = c) h h') : mAt h' om em rm n M := by
  refine m.fr f ?_ ?_ ?_
  · rintro (rfl | rfl)
    · have := m.1; rw [q.2.1] at this; cases this
    · have := m.1; rw [q.2.2.1] at this; cases this
  · obtain ⟨_, ⟨fo, m2, _⟩, _⟩ := m
    rintro (rfl | rfl)
    · rw [q.2.1] at m2; cases m2
    · rw [q.2.2.1] at m2; cases m2
  · intro i hi
    have := m.2.2 i hi
    rintro (w | w)
    · rw [w, q.2.1] at this; cases this
    · rw [w, q.2.2.1] at this; cases this
theorem s_choose {om em rm n : Nat} {M : Nat → Nat → Int} (q : cAt h o a c P) (m : mAt h om em rm n M) (hn : 1 ≤ n ∧ n ≤ 5) (hM : mBd M 100000) :
    ∃ h', m_X0_choose [vR o, vR om] h = some (.inl none, h') ∧ cAt h' o a c (cSets M n P (2 ^ n - 1)) ∧ z_fr (fun x => x = a ∨ x = c) h h' := by
  unfold m_X0_choose
  rw [q_vm q.1]
  apply q_bodyV
  have fa : ∀ (h : z_Hp) x, z_fr (fun x => x = a ∨ x = c) h (h.set a x) := fun h x => z_fr.set (Or.inl rfl)
  have fc : ∀ (h : z_Hp) x, z_fr (fun x => x = a ∨ x = c) h (h.set c x) := fun h x => z_fr.set (Or.inr rfl)
  have q1 := q.sa (z_up P.1 0 0)
  have q2 := q1.sc (z_up P.2 0 1)
  have f2 := (fa h (.inr (0, 32, z_up P.1 0 0))).tr (fc _ (.inr (0, 32, z_up P.2 0 1)))
  have m2 := q.m m f2
  have hs := o_shl ⟨n, by omega⟩
  simp only at hs
  have p5 : 1 ≤ 2 ^ n ∧ 2 ^ n ≤ 32 := ⟨Nat.pow_pos (by decide), by have := Nat.pow_le_pow_right (show 2 > 0 by decide) hn.2; omega⟩
  simp only [b_X0_choose, q_obj q.1, q_arr q.2.1 (by decide), q_obj q1.1, q_arr q1.2.2.1 (by decide), qS_nop, qS_seq, qS_set, qS_setJ, qS_if, qS_brk, qS_ret, qS_retV, qS_throw, qS_inc, qS_cl, qS_ast, qS_aop, qS_fst, qS_fop, qS_sw, qT_eC, qT_eCB, qT_eL, qT_eLJ, qT_eLR, qT_eLB, qT_e1, qT_e2, qT_bCmp, qT_bCmpJ, qT_bAnd, qT_bOr, qT_bNot, qT_eBI, qT_eIf, qT_eLd, qT_eLdR, qT_eLen, qT_eF, qT_eFR, qT_aN, qT_aS, qT_eCl, qT_eClR, qT_eClB, qT_some, qT_x, z_nx_N, z_nx_B, z_nx_R, z_nx_X, z_bk_N, z_bk_B, z_bk_R, z_bk_X, oAdd, oSub, oMul, oNeg, cLt, cLe, cGt, cGe, cEq, cNe, Option.some.injEq, Sum.inl.injEq, Sum.inr.injEq, Prod.mk.injEq, exists_eq_left, exists_eq_left', exists_eq_right, exists_and_left, reduceCtorEq, and_true, true_and, and_false, false_and, List.getElem?_cons_zero, List.getElem?_cons_succ, List.set_cons_zero, List.set_cons_succ, List.replicate, List.length_cons, List.length_nil, List.cons_append, List.nil_append, Nat.reduceAdd, Nat.reduceSub, decide_eq_true_eq, decide_eq_false_iff_not, Bool.true_eq_false, Bool.false_eq_true, true_implies, false_implies, implies_true, Nat.reduceLT, exists_const, z_vB_inj, and_assoc, z_in_iff, oI2L, oL2I, Int.toNat_natCast, z_toNat0, Bool.not_eq_true', Bool.not_eq_false', ne_eq, Bool.not_true, Bool.not_false, Nat.add_zero, Int.add_zero, z_sl_s]
  refine ⟨by omega, by omega, by omega, by omega, ?_⟩
  generalize (h.set a (.inr (0, 32, z_up P.1 0 0))).set c (.inr (0, 32, z_up P.2 0 1)) = h2 at q2 f2 m2
  refine qS_loop (fun k ρ h' => cAt h' o a c (cSets M n P k) ∧ z_fr (fun x => x = a ∨ x = c) h h' ∧ mAt h' om em rm n M ∧ ∃ x y, ρ = [vR o, vR om, vI ((k : Int) + 1), x, y]) (2 ^ n - 1) ?_ ?_ (2 ^ n - 1) 0 z_fuel _ _ (by omega) (z_fuel_lt (by omega)) ⟨q2, f2, m2, _, _, rfl⟩
  · rintro k ρ h' hk ⟨q3, f3, m3, x, y, rfl⟩
    have q4 := q3.sa (z_up (cSets M n P k).1 (k + 1) INF)
    have q5 := q4.sc (z_up (cSets M n P k).2 (k + 1) 0)
    have f5 := (fa h' (.inr (0, 32, z_up (cSets M n P k).1 (k + 1) INF))).tr (fc _ (.inr (0, 32, z_up (cSets M n P k).2 (k + 1) 0)))
    have m5 := q3.m m3 f5
    have ek : ((k : Int) + 1).toNat = k + 1 := by omega
    simp only [q_obj m3.1, hs, q_obj q3.1, q_arr q3.2.1 (by decide), q_obj q4.1, q_arr q4.2.2.1 (by decide), ek, qS_nop, qS_seq, qS_set, qS_setJ, qS_if, qS_brk, qS_ret, qS_retV, qS_throw, qS_inc, qS_cl, qS_ast, qS_aop, qS_fst, qS_fop, qS_sw, qT_eC, qT_eCB, qT_eL, qT_eLJ, qT_eLR, qT_eLB, qT_e1, qT_e2, qT_bCmp, qT_bCmpJ, qT_bAnd, qT_bOr, qT_bNot, qT_eBI, qT_eIf, qT_eLd, qT_eLdR, qT_eLen, qT_eF, qT_eFR, qT_aN, qT_aS, qT_eCl, qT_eClR, qT_eClB, qT_some, qT_x, z_nx_N, z_nx_B, z_nx_R, z_nx_X, z_bk_N, z_bk_B, z_bk_R, z_bk_X, oAdd, oSub, oMul, oNeg, cLt, cLe, cGt, cGe, cEq, cNe, Option.some.injEq, Sum.inl.injEq, Sum.inr.injEq, Prod.mk.injEq, exists_eq_left, exists_eq_left', exists_eq_right, exists_and_left, reduceCtorEq, and_true, true_and, and_false, false_and, List.getElem?_cons_zero, List.getElem?_cons_succ, List.set_cons_zero, List.set_cons_succ, List.replicate, List.length_cons, List.length_nil, List.cons_append, List.nil_append, Nat.reduceAdd, Nat.reduceSub, decide_eq_true_eq, decide_eq_false_iff_not, Bool.true_eq_false, Bool.false_eq_true, true_implies, false_implies, implies_true, Nat.reduceLT, exists_const, z_vB_inj, and_assoc, z_in_iff, oI2L, oL2I, Int.toNat_natCast, z_toNat0, Bool.not_eq_true', Bool.not_eq_false', ne_eq, Bool.not_true, Bool.not_false, Nat.add_zero, Int.add_zero, z_sl_s]
    refine ⟨by omega, by omega, by omega, by omega, by omega, by omega, by omega, by omega, by omega, ?_⟩
    generalize (h'.set a (.inr (0, 32, z_up (cSets M n P k).1 (k + 1) 1000000))).set c (.inr (0, 32, z_up (cSets M n P k).2 (k + 1) 0)) = h5 at q5 f5 m5
    refine qS_loop (fun j ρ h' => cAt h' o a c (cCols M (k + 1) (cSets M n P k) j) ∧ z_fr (fun x => x = a ∨ x = c) h h' ∧ mAt h' om em rm n M ∧ ∃ y, ρ = [vR o, vR om, vI ((k : Int) + 1), vI (j : Int), y]) n ?_ ?_ n 0 z_fuel _ _ (by omega) (z_fuel_lt (by omega)) ⟨q5, f3.tr f5, m5, _, rfl⟩
    · rintro j ρ h6 hj ⟨q6, f6, m6, y, rfl⟩
      have b1 := o_shr ⟨k + 1, by omega⟩ ⟨j, by omega⟩
      have b0 : (k + 1) / 2 ^ j < 32 := Nat.lt_of_le_of_lt (Nat.div_le_self _ _) (by omega)
      have b2 := o_and ⟨(k + 1) / 2 ^ j, b0⟩
      have b3 := o_bit ⟨k + 1, by omega⟩ ⟨j, by omega⟩
      have b4 := o_shl ⟨j, by omega⟩
      have b5 := s_bits ⟨k + 1, by omega⟩ h6
      simp only [Int.natCast_add, Int.natCast_one] at b1 b2 b3 b4 b5
      change m_J6_bitCount_0f7a4 [vI ((k : Int) + 1)] h6 = some (Sum.inl (some (vI ((nb (k + 1) : Nat) : Int))), h6) at b5
      simp only [q_obj m6.1, b1, b2, b4, b5, qS_nop, qS_seq, qS_set, qS_setJ, qS_if, qS_brk, qS_ret, qS_retV, qS_throw, qS_inc, qS_cl, qS_ast, qS_aop, qS_fst, qS_fop, qS_sw, qT_eC, qT_eCB, qT_eL, qT_eLJ, qT_eLR, qT_eLB, qT_e1, qT_e2, qT_bCmp, qT_bCmpJ, qT_bAnd, qT_bOr, qT_bNot, qT_eBI, qT_eIf, qT_eLd, qT_eLdR, qT_eLen, qT_eF, qT_eFR, qT_aN, qT_aS, qT_eCl, qT_eClR, qT_eClB, qT_some, qT_x, z_nx_N, z_nx_B, z_nx_R, z_nx_X, z_bk_N, z_bk_B, z_bk_R, z_bk_X, oAdd, oSub, oMul, oNeg, cLt, cLe, cGt, cGe, cEq, cNe, Option.some.injEq, Sum.inl.injEq, Sum.inr.injEq, Prod.mk.injEq, exists_eq_left, exists_eq_left', exists_eq_right, exists_and_left, reduceCtorEq, and_true, true_and, and_false, false_and, List.getElem?_cons_zero, List.getElem?_cons_succ, List.set_cons_zero, List.set_cons_succ, List.replicate, List.length_cons, List.length_nil, List.cons_append, List.nil_append, Nat.reduceAdd, Nat.reduceSub, decide_eq_true_eq, decide_eq_false_iff_not, Bool.true_eq_false, Bool.false_eq_true, true_implies, false_implies, implies_true, Nat.reduceLT, exists_const, z_vB_inj, and_assoc, z_in_iff, oI2L, oL2I, Int.toNat_natCast, z_toNat0, Bool.not_eq_true', Bool.not_eq_false', ne_eq, Bool.not_true, Bool.not_false, Nat.add_zero, Int.add_zero, z_sl_s]
      have n0 := nb_pos ⟨k + 1, by omega⟩ (Nat.succ_pos k)
      have n1 := nb_le ⟨k + 1, by omega⟩
      simp only at n0 n1
      refine ⟨by omega, by omega, by omega, by omega, by omega, by omega, by omega, by omega, by omega, fun w => ?_, fun w => ?_⟩
      · obtain ⟨fo, c1, c2, cc⟩ := m6.row2
        have tb := b3.mp w
        have ns := nb_sub ⟨k + 1, by omega⟩ ⟨j, by omega⟩ tb
        simp only at ns
        have pj : 0 < 2 ^ j := Nat.pow_pos (by decide)
        obtain ⟨c3, c4, c5⟩ := cc (nb (k + 1) - 1) (by omega)
        have en : (((nb (k + 1) : Nat) : Int) - 1).toNat = nb (k + 1) - 1 := by omega
        have el : (k : Int) + 1 - ((2 ^ j : Nat) : Int) = ((k + 1 - 2 ^ j : Nat) : Int) := by omega
        have hin := cSets_in (P := P) hM hn.2 k (by omega)
        have hcol := cCols_in hM (show 0 < k + 1 by omega) (show k + 1 < 32 by omega) hin j (by omega)
        have hl := hin (k + 1 - 2 ^ j) (by omega)
        have hl2 := hcol.1 (k + 1 - 2 ^ j) (by omega)
        have hn5 := nb_le ⟨k + 1 - 2 ^ j, by omega⟩
        simp only at hn5
        have p5 : (5 : Int) ^ nb (k + 1 - 2 ^ j) ≤ 3125 := by
          have : 5 ^ nb (k + 1 - 2 ^ j) ≤ 5 ^ 5 := Nat.pow_le_pow_right (by decide) hn5
          have := Int.ofNat_le.mpr this
          simpa using this
        have p6 : (j : Int) * (5 : Int) ^ (nb (k + 1) - 1) ≤ 15625 := by
          have : j * 5 ^ (nb (k + 1) - 1) ≤ 5 * 5 ^ 5 := Nat.mul_le_mul (by omega) (Nat.pow_le_pow_right (by decide) (by omega))
          have := Int.ofNat_le.mpr this
          simpa using this
        have hm := hM (nb (k + 1) - 1) j (by omega) (by omega)
        have so := s_offer q6 (s := k + 1) (l := k + 1 - 2 ^ j) (by omega) (by omega) (by omega) (e := M (nb (k + 1) - 1) j) hm ⟨by omega, by omega⟩ ⟨by rw [hl2.1]; omega, by rw [hl2.1]; omega⟩ ⟨by omega, by omega⟩ ⟨by rw [hl2.2]; omega, by rw [hl2.2]; omega⟩
        refine ⟨5, fo, c2, by omega, by omega, by rw [en]; exact c3, 5, M (nb (k + 1) - 1), by rw [en, c4]; exact c5, by omega, by omega, ?_⟩
        rw [el]
        obtain ⟨h7, g1, g2, g3⟩ := so
        rw [Int.natCast_add, Int.natCast_one] at g1
        simp only [g1, qS_nop, qS_seq, qS_set, qS_setJ, qS_if, qS_brk, qS_ret, qS_retV, qS_throw, qS_inc, qS_cl, qS_ast, qS_aop, qS_fst, qS_fop, qS_sw, qT_eC, qT_eCB, qT_eL, qT_eLJ, qT_eLR, qT_eLB, qT_e1, qT_e2, qT_bCmp, qT_bCmpJ, qT_bAnd, qT_bOr, qT_bNot, qT_eBI, qT_eIf, qT_eLd, qT_eLdR, qT_eLen, qT_eF, qT_eFR, qT_aN, qT_aS, qT_eCl, qT_eClR, qT_eClB, qT_some, qT_x, z_nx_N, z_nx_B, z_nx_R, z_nx_X, z_bk_N, z_bk_B, z_bk_R, z_bk_X, oAdd, oSub, oMul, oNeg, cLt, cLe, cGt, cGe, cEq, cNe, Option.some.injEq, Sum.inl.injEq, Sum.inr.injEq, Prod.mk.injEq, exists_eq_left, exists_eq_left', exists_eq_right, exists_and_left, reduceCtorEq, and_true, true_and, and_false, false_and, List.getElem?_cons_zero, List.getElem?_cons_succ, List.set_cons_zero, List.set_cons_succ, List.replicate, List.length_cons, List.length_nil, List.cons_append, List.nil_append, Nat.reduceAdd, Nat.reduceSub, decide_eq_true_eq, decide_eq_false_iff_not, Bool.true_eq_false, Bool.false_eq_true, true_implies, false_implies, implies_true, Nat.reduceLT, exists_const, z_vB_inj, and_assoc, z_in_iff, oI2L, oL2I, Int.toNat_natCast, z_toNat0, Bool.not_eq_true', Bool.not_eq_false', ne_eq, Bool.not_true, Bool.not_false, Nat.add_zero, Int.add_zero, z_sl_s]
        refine ⟨?_, f6.tr g3, q6.m m6 g3, _, rfl⟩
        rw [cCols, cCol, if_pos tb]
        exact g2
      · refine ⟨?_, f6, m6, _, rfl⟩
        rw [cCols, cCol, if_neg (fun q => w (b3.mpr q))]
        exact q6
    · rintro ρ h6 ⟨q6, f6, m6, y, rfl⟩
      simp only [q_obj m6.1, qS_nop, qS_seq, qS_set, qS_setJ, qS_if, qS_brk, qS_ret, qS_retV, qS_throw, qS_inc, qS_cl, qS_ast, qS_aop, qS_fst, qS_fop, qS_sw, qT_eC, qT_eCB, qT_eL, qT_eLJ, qT_eLR, qT_eLB, qT_e1, qT_e2, qT_bCmp, qT_bCmpJ, qT_bAnd, qT_bOr, qT_bNot, qT_eBI, qT_eIf, qT_eLd, qT_eLdR, qT_eLen, qT_eF, qT_eFR, qT_aN, qT_aS, qT_eCl, qT_eClR, qT_eClB, qT_some, qT_x, z_nx_N, z_nx_B, z_nx_R, z_nx_X, z_bk_N, z_bk_B, z_bk_R, z_bk_X, oAdd, oSub, oMul, oNeg, cLt, cLe, cGt, cGe, cEq, cNe, Option.some.injEq, Sum.inl.injEq, Sum.inr.injEq, Prod.mk.injEq, exists_eq_left, exists_eq_left', exists_eq_right, exists_and_left, reduceCtorEq, and_true, true_and, and_false, false_and, List.getElem?_cons_zero, List.getElem?_cons_succ, List.set_cons_zero, List.set_cons_succ, List.replicate, List.length_cons, List.length_nil, List.cons_append, List.nil_append, Nat.reduceAdd, Nat.reduceSub, decide_eq_true_eq, decide_eq_false_iff_not, Bool.true_eq_false, Bool.false_eq_true, true_implies, false_implies, implies_true, Nat.reduceLT, exists_const, z_vB_inj, and_assoc, z_in_iff, oI2L, oL2I, Int.toNat_natCast, z_toNat0, Bool.not_eq_true', Bool.not_eq_false', ne_eq, Bool.not_true, Bool.not_false, Nat.add_zero, Int.add_zero, z_sl_s]
      exact ⟨by omega, by omega, by omega, by omega, by omega, q6, f6, m6, _, _, rfl⟩
  · rintro ρ h' ⟨q3, f3, m3, x, y, rfl⟩
    simp only [q_obj m3.1, hs, qS_nop, qS_seq, qS_set, qS_setJ, qS_if, qS_brk, qS_ret, qS_retV, qS_throw, qS_inc, qS_cl, qS_ast, qS_aop, qS_fst, qS_fop, qS_sw, qT_eC, qT_eCB, qT_eL, qT_eLJ, qT_eLR, qT_eLB, qT_e1, qT_e2, qT_bCmp, qT_bCmpJ, qT_bAnd, qT_bOr, qT_bNot, qT_eBI, qT_eIf, qT_eLd, qT_eLdR, qT_eLen, qT_eF, qT_eFR, qT_aN, qT_aS, qT_eCl, qT_eClR, qT_eClB, qT_some, qT_x, z_nx_N, z_nx_B, z_nx_R, z_nx_X, z_bk_N, z_bk_B, z_bk_R, z_bk_X, oAdd, oSub, oMul, oNeg, cLt, cLe, cGt, cGe, cEq, cNe, Option.some.injEq, Sum.inl.injEq, Sum.inr.injEq, Prod.mk.injEq, exists_eq_left, exists_eq_left', exists_eq_right, exists_and_left, reduceCtorEq, and_true, true_and, and_false, false_and, List.getElem?_cons_zero, List.getElem?_cons_succ, List.set_cons_zero, List.set_cons_succ, List.replicate, List.length_cons, List.length_nil, List.cons_append, List.nil_append, Nat.reduceAdd, Nat.reduceSub, decide_eq_true_eq, decide_eq_false_iff_not, Bool.true_eq_false, Bool.false_eq_true, true_implies, false_implies, implies_true, Nat.reduceLT, exists_const, z_vB_inj, and_assoc, z_in_iff, oI2L, oL2I, Int.toNat_natCast, z_toNat0, Bool.not_eq_true', Bool.not_eq_false', ne_eq, Bool.not_true, Bool.not_false, Nat.add_zero, Int.add_zero, z_sl_s]
    exact ⟨by omega, by omega, by omega, by omega, by omega, q3, f3⟩
theorem s_leastSum {om em rm n : Nat} {M : Nat → Nat → Int} (q : cAt h o a c P) (m : mAt h om em rm n M) (hn : 1 ≤ n ∧ n ≤ 5) (hM : mBd M 100000) :
    ∃ h', m_X0_leastSum [vR o, vR om] h = some (.inl (some (vI ((cSets M n P (2 ^ n - 1)).1 (2 ^ n - 1)))), h') ∧ cAt h' o a c (cSets M n P (2 ^ n - 1)) ∧ z_fr (fun x => x = a ∨ x = c) h h' := by
  obtain ⟨h1, e1, q1, f1⟩ := s_choose q m hn hM
  have m1 := q.m m f1
  have hs := o_shl ⟨n, by omega⟩
  simp only at hs
  have p5 : 1 ≤ 2 ^ n ∧ 2 ^ n ≤ 32 := ⟨Nat.pow_pos (by decide), by have := Nat.pow_le_pow_right (show 2 > 0 by decide) hn.2; omega⟩
  have ek : (((2 ^ n : Nat) : Int) - 1).toNat = 2 ^ n - 1 := by omega
  unfold m_X0_leastSum
  rw [q_vm q.1]
  apply q_bodyV
  simp only [b_X0_leastSum, e1, q_obj q1.1, q_obj m1.1, hs, q_arr q1.2.1 (by decide), ek, qS_nop, qS_seq, qS_set, qS_setJ, qS_if, qS_brk, qS_ret, qS_retV, qS_throw, qS_inc, qS_cl, qS_ast, qS_aop, qS_fst, qS_fop, qS_sw, qT_eC, qT_eCB, qT_eL, qT_eLJ, qT_eLR, qT_eLB, qT_e1, qT_e2, qT_bCmp, qT_bCmpJ, qT_bAnd, qT_bOr, qT_bNot, qT_eBI, qT_eIf, qT_eLd, qT_eLdR, qT_eLen, qT_eF, qT_eFR, qT_aN, qT_aS, qT_eCl, qT_eClR, qT_eClB, qT_some, qT_x, z_nx_N, z_nx_B, z_nx_R, z_nx_X, z_bk_N, z_bk_B, z_bk_R, z_bk_X, oAdd, oSub, oMul, oNeg, cLt, cLe, cGt, cGe, cEq, cNe, Option.some.injEq, Sum.inl.injEq, Sum.inr.injEq, Prod.mk.injEq, exists_eq_left, exists_eq_left', exists_eq_right, exists_and_left, reduceCtorEq, and_true, true_and, and_false, false_and, List.getElem?_cons_zero, List.getElem?_cons_succ, List.set_cons_zero, List.set_cons_succ, List.replicate, List.length_cons, List.length_nil, List.cons_append, List.nil_append, Nat.reduceAdd, Nat.reduceSub, decide_eq_true_eq, decide_eq_false_iff_not, Bool.true_eq_false, Bool.false_eq_true, true_implies, false_implies, implies_true, Nat.reduceLT, exists_const, z_vB_inj, and_assoc, z_in_iff, oI2L, oL2I, Int.toNat_natCast, z_toNat0, Bool.not_eq_true', Bool.not_eq_false', ne_eq, Bool.not_true, Bool.not_false, Nat.add_zero, Int.add_zero, z_sl_s]
  exact ⟨by omega, by omega, q1, f1⟩
theorem s_countLeast {om em rm n : Nat} {M : Nat → Nat → Int} (q : cAt h o a c P) (m : mAt h om em rm n M) (hn : 1 ≤ n ∧ n ≤ 5) (hM : mBd M 100000) :
    ∃ h', m_X0_countLeast [vR o, vR om] h = some (.inl (some (vI ((cSets M n P (2 ^ n - 1)).2 (2 ^ n - 1)))), h') ∧ cAt h' o a c (cSets M n P (2 ^ n - 1)) ∧ z_fr (fun x => x = a ∨ x = c) h h' := by
  obtain ⟨h1, e1, q1, f1⟩ := s_choose q m hn hM
  have m1 := q.m m f1
  have hs := o_shl ⟨n, by omega⟩
  simp only at hs
  have p5 : 1 ≤ 2 ^ n ∧ 2 ^ n ≤ 32 := ⟨Nat.pow_pos (by decide), by have := Nat.pow_le_pow_right (show 2 > 0 by decide) hn.2; omega⟩
  have ek : (((2 ^ n : Nat) : Int) - 1).toNat = 2 ^ n - 1 := by omega
  unfold m_X0_countLeast
  rw [q_vm q.1]
  apply q_bodyV
  simp only [b_X0_countLeast, e1, q_obj q1.1, q_obj m1.1, hs, q_arr q1.2.2.1 (by decide), ek, qS_nop, qS_seq, qS_set, qS_setJ, qS_if, qS_brk, qS_ret, qS_retV, qS_throw, qS_inc, qS_cl, qS_ast, qS_aop, qS_fst, qS_fop, qS_sw, qT_eC, qT_eCB, qT_eL, qT_eLJ, qT_eLR, qT_eLB, qT_e1, qT_e2, qT_bCmp, qT_bCmpJ, qT_bAnd, qT_bOr, qT_bNot, qT_eBI, qT_eIf, qT_eLd, qT_eLdR, qT_eLen, qT_eF, qT_eFR, qT_aN, qT_aS, qT_eCl, qT_eClR, qT_eClB, qT_some, qT_x, z_nx_N, z_nx_B, z_nx_R, z_nx_X, z_bk_N, z_bk_B, z_bk_R, z_bk_X, oAdd, oSub, oMul, oNeg, cLt, cLe, cGt, cGe, cEq, cNe, Option.some.injEq, Sum.inl.injEq, Sum.inr.injEq, Prod.mk.injEq, exists_eq_left, exists_eq_left', exists_eq_right, exists_and_left, reduceCtorEq, and_true, true_and, and_false, false_and, List.getElem?_cons_zero, List.getElem?_cons_succ, List.set_cons_zero, List.set_cons_succ, List.replicate, List.length_cons, List.length_nil, List.cons_append, List.nil_append, Nat.reduceAdd, Nat.reduceSub, decide_eq_true_eq, decide_eq_false_iff_not, Bool.true_eq_false, Bool.false_eq_true, true_implies, false_implies, implies_true, Nat.reduceLT, exists_const, z_vB_inj, and_assoc, z_in_iff, oI2L, oL2I, Int.toNat_natCast, z_toNat0, Bool.not_eq_true', Bool.not_eq_false', ne_eq, Bool.not_true, Bool.not_false, Nat.add_zero, Int.add_zero, z_sl_s]
  exact ⟨by omega, by omega, q1, f1⟩
end CH
