/-! Net: debts -/
theorem i32_in {x : Int} (h : -2147483648 ≤ x ∧ x < 2147483648) : (i32 x).toInt = x := by
  unfold i32
  rw [Int32.toInt_ofInt_of_le (by simpa using h.1) (by simpa using h.2)]
theorem o_xor_neg {x y : Int} (hx : -2147483648 ≤ x ∧ x < 2147483648) (hy : 0 ≤ y ∧ y < 2147483648) : ∃ z, oXor x y = some z ∧ (z < 0 ↔ x < 0) ∧ -2147483648 ≤ z ∧ z < 2147483648 := by
  refine ⟨_, rfl, ?_, ?_, ?_⟩
  · have h1 : ∀ a : Int32, a.toInt < 0 ↔ a.toBitVec.msb = true := fun a => by
      rw [BitVec.msb_eq_toInt, decide_eq_true_iff]
      exact Iff.rfl
    have a := i32_in hx
    have b := i32_in (x := y) ⟨by omega, hy.2⟩
    rw [h1, Int32.toBitVec_xor, BitVec.msb_xor]
    have c : (i32 y).toBitVec.msb = false := by
      rw [Bool.eq_false_iff, ne_eq, ← h1, b]
      omega
    rw [c, Bool.xor_false, ← h1, a]
  · exact Int32.le_toInt _
  · exact Int32.toInt_lt _
theorem s_floorDiv {x y : Int} {h : z_Hp} (hx : -1073741824 ≤ x ∧ x ≤ 1073741824) (hy : 0 < y ∧ y < 1000000) : m_J9_floorDiv_7cf53 [vI x, vI y] h = some (.inl (some (vI (x / y))), h) := by
  unfold m_J9_floorDiv_7cf53
  apply q_body
  have w := o_xor_neg (x := x) (y := y) ⟨by omega, by omega⟩ ⟨by omega, by omega⟩
  have w2 := Classical.choose_spec w
  generalize Classical.choose w = z at w2
  have o2 : oDiv x y = some (x.tdiv y) := by
    unfold oDiv
    rw [if_pos]
    simp only [Bool.and_eq_true, z_in_iff, decide_eq_true_eq]
    omega
  have e := Int.tdiv_eq_ediv (a := x) (b := y)
  rw [Int.sign_eq_one_of_pos hy.1] at e
  have b := z_tdiv_b (A := x) (b := 1073741824) ⟨by omega, by omega⟩ hy.1
  have f1 : x.tdiv y * y = x ↔ y ∣ x := ⟨fun q => ⟨x.tdiv y, by rw [Int.mul_comm]; exact q.symm⟩, fun q => Int.tdiv_mul_cancel q⟩
  have f2 : -1074741824 ≤ x.tdiv y * y ∧ x.tdiv y * y ≤ 1074741824 := by
    have m1 := Int.tmod_add_mul_tdiv x y
    have m2 := z_tmod_b (A := x) hy.1
    rw [Int.mul_comm] at m1
    omega
  simp only [b_J9_floorDiv_7cf53, o2, w2.1, qS_nop, qS_seq, qS_set, qS_setJ, qS_if, qS_brk, qS_ret, qS_retV, qS_throw, qS_inc, qS_cl, qS_ast, qS_aop, qS_fst, qS_fop, qS_sw, qT_eC, qT_eCB, qT_eL, qT_eLJ, qT_eLR, qT_eLB, qT_e1, qT_e2, qT_bCmp, qT_bCmpJ, qT_bAnd, qT_bOr, qT_bNot, qT_eBI, qT_eIf, qT_eLd, qT_eLdR, qT_eLen, qT_eF, qT_eFR, qT_aN, qT_aS, qT_eCl, qT_eClR, qT_eClB, qT_some, qT_x, z_nx_N, z_nx_B, z_nx_R, z_nx_X, z_bk_N, z_bk_B, z_bk_R, z_bk_X, oAdd, oSub, oMul, oNeg, cLt, cLe, cGt, cGe, cEq, cNe, Option.some.injEq, Sum.inl.injEq, Sum.inr.injEq, Prod.mk.injEq, exists_eq_left, exists_eq_left', exists_eq_right, exists_and_left, reduceCtorEq, and_true, true_and, and_false, false_and, List.getElem?_cons_zero, List.getElem?_cons_succ, List.set_cons_zero, List.set_cons_succ, List.replicate, List.length_cons, List.length_nil, List.cons_append, List.nil_append, Nat.reduceAdd, Nat.reduceSub, decide_eq_true_eq, decide_eq_false_iff_not, Bool.true_eq_false, Bool.false_eq_true, true_implies, false_implies, implies_true, Nat.reduceLT, exists_const, z_vB_inj, and_assoc, z_in_iff, oI2L, oL2I, Int.toNat_natCast, z_toNat0, Bool.not_eq_true', Bool.not_eq_false', ne_eq, Bool.not_true, Bool.not_false, Nat.add_zero, Int.add_zero, z_sl_s]
  refine ⟨by omega, by omega, by omega, by omega, fun q => ⟨by omega, by omega, by omega, by omega, fun q2 => ?_, fun q2 => ?_⟩, fun q => ?_⟩
  · rw [e, if_neg (fun c => c.elim (fun c => absurd (w2.2.1.mp q) (by omega)) (fun c => q2 (f1.mpr c)))]
    omega
  · rw [e, if_pos (Or.inr (f1.mp (Classical.not_not.mp q2)))]
    omega
  · rw [e, if_pos (Or.inl (by have := w2.2.1; omega))]
    omega
/-- how often what is nearer must fire -/
def nPt (B : Nat → Nat → Int) (V : Nat → Int) (far near : Nat) : Nat → Int
  | 0 => 0
  | v + 1 => if iB ((far - (far &&& near) : Nat) : Int) v ∧ 0 < nCe B v (near : Int) 5 then (if nPt B V far near v < (nCe B v (near : Int) 5 - 1 - V v) / nCe B v (near : Int) 5 then (nCe B v (near : Int) 5 - 1 - V v) / nCe B v (near : Int) 5 else nPt B V far near v) else nPt B V far near v
theorem z_ediv_b {A m b : Int} (hA : -b ≤ A ∧ A ≤ b) (hm : 0 < m) (hb : 0 ≤ b) : -b - 1 ≤ A / m ∧ A / m ≤ b := by
  have e := Int.tdiv_eq_ediv (a := A) (b := m)
  rw [Int.sign_eq_one_of_pos hm] at e
  have := z_tdiv_b hA hm
  split at e <;> omega
theorem nPt_b {B : Nat → Nat → Int} (hB : nBd B) {V : Nat → Int} (hV : nVb V 1000000000) {x y : Nat} : ∀ v, v ≤ 5 → 0 ≤ nPt B V x y v ∧ nPt B V x y v ≤ 1000010000
  | 0, _ => by simp [nPt]
  | v + 1, hv => by
    have := nPt_b hB hV (x := x) (y := y) v (by omega)
    have b := hV v (by omega)
    have c := nCe_b hB (show v < 5 by omega) (s := (y : Int)) 5 (by omega)
    unfold nPt
    generalize nCe B v (y : Int) 5 = X at c
    split
    case isTrue q =>
      have d := z_ediv_b (A := X - 1 - V v) (b := 1000005000) ⟨by omega, by omega⟩ q.2 (by decide)
      split <;> omega
    case isFalse => exact this
