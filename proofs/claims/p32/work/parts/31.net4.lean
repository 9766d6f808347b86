/-! Net: debts -/
theorem i32_in {x : Int} (h : -2147483648 ≤ x ∧ x < 2147483648) : (i32 x).toInt = x := by
  unfold i32
  rw [Int32.toInt_ofInt_of_le (by simpa using h.1) (by simpa using h.2)]
theorem o_xor_neg {x y : Int} (hx : -2147483648 ≤ x ∧ x < 2147483648) (hy : 0 ≤ y ∧ y < 2147483648) : ∃ z, oXor x y = some z ∧ (z < 0 ↔ x < 0) ∧ -2147483648 ≤ z ∧ z < 2147483648 := by
  refine ⟨_, rfl, ?_, ?_, ?_⟩
  · have h1 : ∀ a : Int32, a.toInt < 0 ↔ a.toBitVec.msb = true := fun a => by
      rw [BitVec.msb_eq_toInt, decide_eq_true_iff]
      exact Iff.rfl
    have a := i32_in hx
    have b := i32_in (x := y) ⟨by omega, hy.2⟩
    rw [h1, Int32.toBitVec_xor, BitVec.msb_xor]
    have c : (i32 y).toBitVec.msb = false := by
      rw [Bool.eq_false_iff, ne_eq, ← h1, b]
      omega
    rw [c, Bool.xor_false, ← h1, a]
  · exact Int32.le_toInt _
  · exact Int32.toInt_lt _
theorem s_floorDiv {x y : Int} {h : z_Hp} (hx : -1073741824 ≤ x ∧ x ≤ 1073741824) (hy : 0 < y ∧ y < 1000000) : m_J9_floorDiv_7cf53 [vI x, vI y] h = some (.inl (some (vI (x / y))), h) := by
  unfold m_J9_floorDiv_7cf53
  apply q_body
  have w := o_xor_neg (x := x) (y := y) ⟨by omega, by omega⟩ ⟨by omega, by omega⟩
  have w2 := Classical.choose_spec w
  generalize Classical.choose w = z at w2
  have o2 : oDiv x y = some (x.tdiv y) := by
    unfold oDiv
    rw [if_pos]
    simp only [Bool.and_eq_true, z_in_iff, decide_eq_true_eq]
    omega
  have e := Int.tdiv_eq_ediv (a := x) (b := y)
  rw [Int.sign_eq_one_of_pos hy.1] at e
  have b := z_tdiv_b (A := x) (b := 1073741824) ⟨by omega, by omega⟩ hy.1
  have f1 : x.tdiv y * y = x ↔ y ∣ x := ⟨fun q => ⟨x.tdiv y, by rw [Int.mul_comm]; exact q.symm⟩, fun q => Int.tdiv_mul_cancel q⟩
  have f2 : -1074741824 ≤ x.tdiv y * y ∧ x.tdiv y * y ≤ 1074741824 := by
    have m1 := Int.tmod_add_mul_tdiv x y
    have m2 := z_tmod_b (A := x) hy.1
    rw [Int.mul_comm] at m1
    omega
  simp only [b_J9_floorDiv_7cf53, o2, w2.1, qS_nop, qS_seq, qS_set, qS_setJ, qS_if, qS_brk, qS_ret, qS_retV, qS_throw, qS_inc, qS_cl, qS_ast, qS_aop, qS_fst, qS_fop, qS_sw, qT_eC, qT_eCB, qT_eL, qT_eLJ, qT_eLR, qT_eLB, qT_e1, qT_e2, qT_bCmp, qT_bCmpJ, qT_bAnd, qT_bOr, qT_bNot, qT_eBI, qT_eIf, qT_eLd, qT_eLdR, qT_eLen, qT_eF, qT_eFR, qT_aN, qT_aS, qT_eCl, qT_eClR, qT_eClB, qT_some, qT_x, z_nx_N, z_nx_B, z_nx_R, z_nx_X, z_bk_N, z_bk_B, z_bk_R, z_bk_X, oAdd, oSub, oMul, oNeg, cLt, cLe, cGt, cGe, cEq, cNe, Option.some.injEq, Sum.inl.injEq, Sum.inr.injEq, Prod.mk.injEq, exists_eq_left, exists_eq_left', exists_eq_right, exists_and_left, reduceCtorEq, and_true, true_and, and_false, false_and, List.getElem?_cons_zero, List.getElem?_cons_succ, List.set_cons_zero, List.set_cons_succ, List.replicate, List.length_cons, List.length_nil, List.cons_append, List.nil_append, Nat.reduceAdd, Nat.reduceSub, decide_eq_true_eq, decide_eq_false_iff_not, Bool.true_eq_false, Bool.false_eq_true, true_implies, false_implies, implies_true, Nat.reduceLT, exists_const, z_vB_inj, and_assoc, z_in_iff, oI2L, oL2I, Int.toNat_natCast, z_toNat0, Bool.not_eq_true', Bool.not_eq_false', ne_eq, Bool.not_true, Bool.not_false, Nat.add_zero, Int.add_zero, z_sl_s]
  refine ⟨by omega, by omega, by omega, by omega, fun q => ⟨by omega, by omega, by omega, by omega, fun q2 => ?_, fun q2 => ?_⟩, fun q => ?_⟩
  · rw [e, if_neg (fun c => c.elim (fun c => absurd (w2.2.1.mp q) (by omega)) (fun c => q2 (f1.mpr c)))]
    omega
  · rw [e, if_pos (Or.inr (f1.mp (Classical.not_not.mp q2)))]
    omega
  · rw [e, if_pos (Or.inl (by have := w2.2.1; omega))]
    omega
/-- how often what is nearer must fire -/
def nPt (B : Nat → Nat → Int) (V : Nat → Int) (far near : Nat) : Nat → Int
  | 0 => 0
  | v + 1 => if iB ((far - (far &&& near) : Nat) : Int) v ∧ 0 < nCe B v (near : Int) 5 then (if nPt B V far near v < (nCe B v (near : Int) 5 - 1 - V v) / nCe B v (near : Int) 5 then (nCe B v (near : Int) 5 - 1 - V v) / nCe B v (near : Int) 5 else nPt B V far near v) else nPt B V far near v
theorem z_ediv_b {A m b : Int} (hA : -b ≤ A ∧ A ≤ b) (hm : 0 < m) (hb : 0 ≤ b) : -b - 1 ≤ A / m ∧ A / m ≤ b := by
  have e := Int.tdiv_eq_ediv (a := A) (b := m)
  rw [Int.sign_eq_one_of_pos hm] at e
  have := z_tdiv_b hA hm
  split at e <;> omega
theorem nPt_b {B : Nat → Nat → Int} (hB : nBd B) {V : Nat → Int} (hV : nVb V 1000000000) {x y : Nat} : ∀ v, v ≤ 5 → 0 ≤ nPt B V x y v ∧ nPt B V x y v ≤ 1000010000
  | 0, _ => by simp [nPt]
  | v + 1, hv => by
    have := nPt_b hB hV (x := x) (y := y) v (by omega)
    have b := hV v (by omega)
    have c := nCe_b hB (show v < 5 by omega) (s := (y : Int)) 5 (by omega)
    unfold nPt
    generalize nCe B v (y : Int) 5 = X at c
    split
    case isTrue q =>
      have d := z_ediv_b (A := X - 1 - V v) (b := 1000005000) ⟨by omega, by omega⟩ q.2 (by decide)
      split <;> omega
    case isFalse => exact this
/-- debts, paid the farthest first: so many steps -/
def nPay (B : Nat → Nat → Int) (R : Nat → Nat) (V : Nat → Int) : Nat → Nat → Int
  | 0 => V
  | j + 1 => fun v => if v < 5 then nFi B (nPay B R V j) (R (3 - j)) (nPt B (nPay B R V j) (R (4 - j)) (R (3 - j)) 5) v else nPay B R V j v
section NW
variable {h : z_Hp} {B P D : Nat → Nat → Int} {C N : Nat → Int}
theorem s_pay (a : nAt h B C N P D) (hB : nBd B) {i : Nat} (hi : i < 5) {R : Nat → Nat} (hR : ∀ k, k < 5 → R k < 32 ∧ N k = (R k : Int)) (hV : ∀ j, j < 4 → nVb (nPay B R (P i) j) 1000000000) : m_X3_payDebts [vR 8, vR (18 + i)] h = some (.inl none, h.set (18 + i) (.inr (0, 5, nPay B R (P i) 4))) := by
  unfold m_X3_payDebts
  rw [q_vm a.1]
  apply q_body
  have es : ∀ (g : Nat → Int) (x : z_Cl), (h.set (18 + i) (.inr (0, 5, g))).set (18 + i) x = h.set (18 + i) x := fun g x => List.set_set _
  simp only [b_X3_payDebts, qS_nop, qS_seq, qS_set, qS_setJ, qS_if, qS_brk, qS_ret, qS_retV, qS_throw, qS_inc, qS_cl, qS_ast, qS_aop, qS_fst, qS_fop, qS_sw, qT_eC, qT_eCB, qT_eL, qT_eLJ, qT_eLR, qT_eLB, qT_e1, qT_e2, qT_bCmp, qT_bCmpJ, qT_bAnd, qT_bOr, qT_bNot, qT_eBI, qT_eIf, qT_eLd, qT_eLdR, qT_eLen, qT_eF, qT_eFR, qT_aN, qT_aS, qT_eCl, qT_eClR, qT_eClB, qT_some, qT_x, z_nx_N, z_nx_B, z_nx_R, z_nx_X, z_bk_N, z_bk_B, z_bk_R, z_bk_X, oAdd, oSub, oMul, oNeg, cLt, cLe, cGt, cGe, cEq, cNe, Option.some.injEq, Sum.inl.injEq, Sum.inr.injEq, Prod.mk.injEq, exists_eq_left, exists_eq_left', exists_eq_right, exists_and_left, reduceCtorEq, and_true, true_and, and_false, false_and, List.getElem?_cons_zero, List.getElem?_cons_succ, List.set_cons_zero, List.set_cons_succ, List.replicate, List.length_cons, List.length_nil, List.cons_append, List.nil_append, Nat.reduceAdd, Nat.reduceSub, decide_eq_true_eq, decide_eq_false_iff_not, Bool.true_eq_false, Bool.false_eq_true, true_implies, false_implies, implies_true, Nat.reduceLT, exists_const, z_vB_inj, and_assoc, z_in_iff, oI2L, oL2I, Int.toNat_natCast, z_toNat0, Bool.not_eq_true', Bool.not_eq_false', ne_eq, Bool.not_true, Bool.not_false, Nat.add_zero, Int.add_zero, z_sl_s]
  refine qS_loop (fun j ρ h' => h' = h.set (18 + i) (.inr (0, 5, nPay B R (P i) j)) ∧ ∃ x y z, ρ = [vR 8, vR (18 + i), vI (4 - (j : Int)), x, y, z]) 4 ?_ ?_ 4 0 z_fuel _ _ (by omega) (z_fuel_lt (by omega)) ⟨by simp [nPay, z_set_id (a.pile hi)], _, _, _, rfl⟩
  · rintro j ρ h' hj ⟨rfl, x, y, z, rfl⟩
    have a' := a.setP hi (nPay B R (P i) j)
    have es' := es (nPay B R (P i) j)
    have hVj := hV j hj
    have ef := s_fire a' hB hi (s := R (3 - j)) (hR (3 - j) (by omega)).1 (nPt B (nPay B R (P i) j) (R (4 - j)) (R (3 - j)) 5)
    simp only [if_true] at ef
    have wn : nPay B R (P i) (j + 1) = fun v => if v < 5 then nFi B (nPay B R (P i) j) (R (3 - j)) (nPt B (nPay B R (P i) j) (R (4 - j)) (R (3 - j)) 5) v else nPay B R (P i) j v := rfl
    rw [← wn] at ef
    simp only [qS_nop, qS_seq, qS_set, qS_setJ, qS_if, qS_brk, qS_ret, qS_retV, qS_throw, qS_inc, qS_cl, qS_ast, qS_aop, qS_fst, qS_fop, qS_sw, qT_eC, qT_eCB, qT_eL, qT_eLJ, qT_eLR, qT_eLB, qT_e1, qT_e2, qT_bCmp, qT_bCmpJ, qT_bAnd, qT_bOr, qT_bNot, qT_eBI, qT_eIf, qT_eLd, qT_eLdR, qT_eLen, qT_eF, qT_eFR, qT_aN, qT_aS, qT_eCl, qT_eClR, qT_eClB, qT_some, qT_x, z_nx_N, z_nx_B, z_nx_R, z_nx_X, z_bk_N, z_bk_B, z_bk_R, z_bk_X, oAdd, oSub, oMul, oNeg, cLt, cLe, cGt, cGe, cEq, cNe, Option.some.injEq, Sum.inl.injEq, Sum.inr.injEq, Prod.mk.injEq, exists_eq_left, exists_eq_left', exists_eq_right, exists_and_left, reduceCtorEq, and_true, true_and, and_false, false_and, List.getElem?_cons_zero, List.getElem?_cons_succ, List.set_cons_zero, List.set_cons_succ, List.replicate, List.length_cons, List.length_nil, List.cons_append, List.nil_append, Nat.reduceAdd, Nat.reduceSub, decide_eq_true_eq, decide_eq_false_iff_not, Bool.true_eq_false, Bool.false_eq_true, true_implies, false_implies, implies_true, Nat.reduceLT, exists_const, z_vB_inj, and_assoc, z_in_iff, oI2L, oL2I, Int.toNat_natCast, z_toNat0, Bool.not_eq_true', Bool.not_eq_false', ne_eq, Bool.not_true, Bool.not_false, Nat.add_zero, Int.add_zero, z_sl_s]
    refine ⟨by omega, by omega, by omega, by omega, by omega, ?_⟩
    have r1 := hR (3 - j) (by omega)
    have r2 := hR (4 - j) (by omega)
    have t1 : ((4 : Int) - (j : Int)).toNat = 4 - j := by omega
    have t2 : ((4 : Int) - (j : Int) - 1).toNat = 3 - j := by omega
    have o1 := o_not ⟨R (3 - j), r1.1⟩
    have o2 := o_andn ⟨R (4 - j), r2.1⟩ ⟨R (3 - j), r1.1⟩
    simp only at o1 o2
    have dp := q_arr (a'.pile hi) (by decide)
    simp only [if_true] at dp
    generalize h.set (18 + i) (.inr (0, 5, nPay B R (P i) j)) = h1 at a' es' ef dp ⊢
    generalize hW : nPay B R (P i) (j + 1) = W at ef ⊢
    generalize nPay B R (P i) j = V at hVj ef dp a'
    generalize R (3 - j) = Y at r1 o1 o2 ef
    generalize R (4 - j) = X at r2 o2 ef
    refine qS_loop (fun v ρ h' => h' = h1 ∧ ∃ z, ρ = [vR 8, vR (18 + i), vI (4 - (j : Int)), vI (nPt B V X Y v), vI (v : Int), z]) 5 ?_ ?_ 5 0 z_fuel _ _ (by omega) (z_fuel_lt (by omega)) ⟨rfl, _, rfl⟩
    · rintro v ρ h' hv ⟨rfl, z, rfl⟩
      have e1 := s_ce a' hB (s := (Y : Int)) ⟨by omega, by omega⟩ hv
      have e2 := s_has a' (s := ((X - (X &&& Y) : Nat) : Int)) ⟨by omega, by omega⟩ hv
      simp only [q_obj a'.1, q_arr a'.2.2.2.1 (by decide), t1, t2, r1.2, r2.2, e1, e2, o1, o2, dp, qS_nop, qS_seq, qS_set, qS_setJ, qS_if, qS_brk, qS_ret, qS_retV, qS_throw, qS_inc, qS_cl, qS_ast, qS_aop, qS_fst, qS_fop, qS_sw, qT_eC, qT_eCB, qT_eL, qT_eLJ, qT_eLR, qT_eLB, qT_e1, qT_e2, qT_bCmp, qT_bCmpJ, qT_bAnd, qT_bOr, qT_bNot, qT_eBI, qT_eIf, qT_eLd, qT_eLdR, qT_eLen, qT_eF, qT_eFR, qT_aN, qT_aS, qT_eCl, qT_eClR, qT_eClB, qT_some, qT_x, z_nx_N, z_nx_B, z_nx_R, z_nx_X, z_bk_N, z_bk_B, z_bk_R, z_bk_X, oAdd, oSub, oMul, oNeg, cLt, cLe, cGt, cGe, cEq, cNe, Option.some.injEq, Sum.inl.injEq, Sum.inr.injEq, Prod.mk.injEq, exists_eq_left, exists_eq_left', exists_eq_right, exists_and_left, reduceCtorEq, and_true, true_and, and_false, false_and, List.getElem?_cons_zero, List.getElem?_cons_succ, List.set_cons_zero, List.set_cons_succ, List.replicate, List.length_cons, List.length_nil, List.cons_append, List.nil_append, Nat.reduceAdd, Nat.reduceSub, decide_eq_true_eq, decide_eq_false_iff_not, Bool.true_eq_false, Bool.false_eq_true, true_implies, false_implies, implies_true, Nat.reduceLT, exists_const, z_vB_inj, and_assoc, z_in_iff, oI2L, oL2I, Int.toNat_natCast, z_toNat0, Bool.not_eq_true', Bool.not_eq_false', ne_eq, Bool.not_true, Bool.not_false, Nat.add_zero, Int.add_zero, z_sl_s]
      have w : nPt B V X Y (v + 1) = if iB ((X - (X &&& Y) : Nat) : Int) v ∧ 0 < nCe B v (Y : Int) 5 then (if nPt B V X Y v < (nCe B v (Y : Int) 5 - 1 - V v) / nCe B v (Y : Int) 5 then (nCe B v (Y : Int) 5 - 1 - V v) / nCe B v (Y : Int) 5 else nPt B V X Y v) else nPt B V X Y v := rfl
      have b1 := nCe_b hB hv (s := (Y : Int)) 5 (by omega)
      have b2 := nPt_b hB hVj (x := X) (y := Y) v (by omega)
      have b3 := hVj v hv
      generalize nCe B v (Y : Int) 5 = G at w b1 ⊢
      generalize nPt B V X Y v = T at w b2 ⊢
      refine ⟨by omega, by omega, by omega, by omega, by omega, by omega, by omega, by omega, by omega, by omega, by omega, fun q => ⟨by omega, by omega, by omega, by omega, fun q2 => ⟨by omega, by omega, ?_⟩, fun q2 => ⟨vI G, ?_⟩⟩, fun q => ⟨vI G, ?_⟩⟩
      · have ed := s_floorDiv (x := G - 1 - V v) (y := G) (h := h') ⟨by omega, by omega⟩ ⟨q2, by omega⟩
        have bd := z_ediv_b (A := G - 1 - V v) (b := 1000005000) ⟨by omega, by omega⟩ q2 (by decide)
        have em := s_max (x := T) (y := (G - 1 - V v) / G) (h := h') ⟨by omega, by omega⟩ ⟨by omega, by omega⟩
        simp only [ed, em, qS_nop, qS_seq, qS_set, qS_setJ, qS_if, qS_brk, qS_ret, qS_retV, qS_throw, qS_inc, qS_cl, qS_ast, qS_aop, qS_fst, qS_fop, qS_sw, qT_eC, qT_eCB, qT_eL, qT_eLJ, qT_eLR, qT_eLB, qT_e1, qT_e2, qT_bCmp, qT_bCmpJ, qT_bAnd, qT_bOr, qT_bNot, qT_eBI, qT_eIf, qT_eLd, qT_eLdR, qT_eLen, qT_eF, qT_eFR, qT_aN, qT_aS, qT_eCl, qT_eClR, qT_eClB, qT_some, qT_x, z_nx_N, z_nx_B, z_nx_R, z_nx_X, z_bk_N, z_bk_B, z_bk_R, z_bk_X, oAdd, oSub, oMul, oNeg, cLt, cLe, cGt, cGe, cEq, cNe, Option.some.injEq, Sum.inl.injEq, Sum.inr.injEq, Prod.mk.injEq, exists_eq_left, exists_eq_left', exists_eq_right, exists_and_left, reduceCtorEq, and_true, true_and, and_false, false_and, List.getElem?_cons_zero, List.getElem?_cons_succ, List.set_cons_zero, List.set_cons_succ, List.replicate, List.length_cons, List.length_nil, List.cons_append, List.nil_append, Nat.reduceAdd, Nat.reduceSub, decide_eq_true_eq, decide_eq_false_iff_not, Bool.true_eq_false, Bool.false_eq_true, true_implies, false_implies, implies_true, Nat.reduceLT, exists_const, z_vB_inj, and_assoc, z_in_iff, oI2L, oL2I, Int.toNat_natCast, z_toNat0, Bool.not_eq_true', Bool.not_eq_false', ne_eq, Bool.not_true, Bool.not_false, Nat.add_zero, Int.add_zero, z_sl_s]
        refine ⟨vI G, ?_⟩
        rw [w, if_pos (show iB ((X - (X &&& Y) : Nat) : Int) v ∧ 0 < G from ⟨(z_dec_iff _).mp q, q2⟩)]
        rfl
      · rw [w, if_neg (fun c => q2 c.2)]
        rfl
      · rw [w, if_neg (fun c => (z_dec_f _).mp q c.1)]
        rfl
    · rintro ρ h' ⟨rfl, z, rfl⟩
      simp only [q_obj a'.1, q_arr a'.2.2.2.1 (by decide), t1, t2, r1.2, ef, es', qS_nop, qS_seq, qS_set, qS_setJ, qS_if, qS_brk, qS_ret, qS_retV, qS_throw, qS_inc, qS_cl, qS_ast, qS_aop, qS_fst, qS_fop, qS_sw, qT_eC, qT_eCB, qT_eL, qT_eLJ, qT_eLR, qT_eLB, qT_e1, qT_e2, qT_bCmp, qT_bCmpJ, qT_bAnd, qT_bOr, qT_bNot, qT_eBI, qT_eIf, qT_eLd, qT_eLdR, qT_eLen, qT_eF, qT_eFR, qT_aN, qT_aS, qT_eCl, qT_eClR, qT_eClB, qT_some, qT_x, z_nx_N, z_nx_B, z_nx_R, z_nx_X, z_bk_N, z_bk_B, z_bk_R, z_bk_X, oAdd, oSub, oMul, oNeg, cLt, cLe, cGt, cGe, cEq, cNe, Option.some.injEq, Sum.inl.injEq, Sum.inr.injEq, Prod.mk.injEq, exists_eq_left, exists_eq_left', exists_eq_right, exists_and_left, reduceCtorEq, and_true, true_and, and_false, false_and, List.getElem?_cons_zero, List.getElem?_cons_succ, List.set_cons_zero, List.set_cons_succ, List.replicate, List.length_cons, List.length_nil, List.cons_append, List.nil_append, Nat.reduceAdd, Nat.reduceSub, decide_eq_true_eq, decide_eq_false_iff_not, Bool.true_eq_false, Bool.false_eq_true, true_implies, false_implies, implies_true, Nat.reduceLT, exists_const, z_vB_inj, and_assoc, z_in_iff, oI2L, oL2I, Int.toNat_natCast, z_toNat0, Bool.not_eq_true', Bool.not_eq_false', ne_eq, Bool.not_true, Bool.not_false, Nat.add_zero, Int.add_zero, z_sl_s]
      exact ⟨by omega, by omega, by omega, by omega, by omega, by omega, by omega, vI (nPt B V X Y 5), vI 5, z, by rw [show (4 : Int) - ((j + 1 : Nat) : Int) = 4 - (j : Int) + -1 by omega]; rfl⟩
  · rintro ρ h' ⟨rfl, x, y, z, rfl⟩
    simp only [qS_nop, qS_seq, qS_set, qS_setJ, qS_if, qS_brk, qS_ret, qS_retV, qS_throw, qS_inc, qS_cl, qS_ast, qS_aop, qS_fst, qS_fop, qS_sw, qT_eC, qT_eCB, qT_eL, qT_eLJ, qT_eLR, qT_eLB, qT_e1, qT_e2, qT_bCmp, qT_bCmpJ, qT_bAnd, qT_bOr, qT_bNot, qT_eBI, qT_eIf, qT_eLd, qT_eLdR, qT_eLen, qT_eF, qT_eFR, qT_aN, qT_aS, qT_eCl, qT_eClR, qT_eClB, qT_some, qT_x, z_nx_N, z_nx_B, z_nx_R, z_nx_X, z_bk_N, z_bk_B, z_bk_R, z_bk_X, oAdd, oSub, oMul, oNeg, cLt, cLe, cGt, cGe, cEq, cNe, Option.some.injEq, Sum.inl.injEq, Sum.inr.injEq, Prod.mk.injEq, exists_eq_left, exists_eq_left', exists_eq_right, exists_and_left, reduceCtorEq, and_true, true_and, and_false, false_and, List.getElem?_cons_zero, List.getElem?_cons_succ, List.set_cons_zero, List.set_cons_succ, List.replicate, List.length_cons, List.length_nil, List.cons_append, List.nil_append, Nat.reduceAdd, Nat.reduceSub, decide_eq_true_eq, decide_eq_false_iff_not, Bool.true_eq_false, Bool.false_eq_true, true_implies, false_implies, implies_true, Nat.reduceLT, exists_const, z_vB_inj, and_assoc, z_in_iff, oI2L, oL2I, Int.toNat_natCast, z_toNat0, Bool.not_eq_true', Bool.not_eq_false', ne_eq, Bool.not_true, Bool.not_false, Nat.add_zero, Int.add_zero, z_sl_s]
    omega
end NW
