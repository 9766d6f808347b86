/-! THE FACE: what the class's cells hold; what its calls come to -/
-- the script's places
theorem qT_eLS (i : Nat) (ρ : List z_V) (h : z_Hp) (Q : Unit → z_Hp → Prop) (X : String → z_Hp → Prop) : qT (eLS i ρ h) Q X ↔ (ρ[i]? = some vS ∧ Q () h) := by
  unfold eLS
  rcases ρ[i]? with _ | (n | (n | (n | b)))
  · simp [qT]
  · simp [qT]
  · simp [qT]
  · simp [qT]
  · cases b <;> simp [qT]
theorem qT_eSLen (sc : List Int) (x : z_Ev Unit) (ρ : List z_V) (h : z_Hp) (Q : Int → z_Hp → Prop) (X : String → z_Hp → Prop) : qT (eSLen sc x ρ h) Q X ↔ qT (x ρ h) (fun _ h => sc.length < 2147483648 ∧ Q (sc.length : Int) h) X := by
  unfold eSLen
  rw [qT_bind]
  rcases x ρ h with _ | ⟨r | E, h1⟩ <;> try exact Iff.rfl
  simp only [qT_some]
  by_cases q : sc.length < 2147483648
  · simp [qT, q]
  · simp [qT, q]
theorem qT_eSLd (sc : List Int) (x : z_Ev Unit) (i : z_Ev Int) (ρ : List z_V) (h : z_Hp) (Q : Int → z_Hp → Prop) (X : String → z_Hp → Prop) : qT (eSLd sc x i ρ h) Q X ↔ qT (x ρ h) (fun _ h => qT (i ρ h) (fun j h => (0 ≤ j ∧ j < sc.length ∧ sc.length < 2147483648) ∧ Q (sc.getD j.toNat 0) h) X) X := by
  unfold eSLd
  rw [qT_bind]
  rcases x ρ h with _ | ⟨r | E, h1⟩ <;> try exact Iff.rfl
  simp only [qT_some, qT_bind]
  rcases i ρ h1 with _ | ⟨j | E, h2⟩ <;> try exact Iff.rfl
  simp only [qT_some]
  by_cases q : 0 ≤ j ∧ j < sc.length ∧ sc.length < 2147483648
  · simp [qT, q]
  · rw [if_neg q]
    simp only [qT]
    constructor
    · intro w; exact w.elim
    · intro w; exact q w.1
def kIO : String := "java/lang/IndexOutOfBoundsException"
def kIA : String := "java/lang/IllegalArgumentException"
def kIS : String := "java/lang/IllegalStateException"
/-- an int -/
abbrev kR (n : Int) : Prop := -2147483648 ≤ n ∧ n < 2147483648
def kI5 (S : Nat → Nat → Int) : Prop := (∃ n : Nat, n ≤ 5 ∧ S 30 0 = (n : Int)) ∧ (∃ n : Nat, n ≤ 5 ∧ S 37 0 = (n : Int)) ∧ mBd (kF S 32 5) 1000000000 ∧ mBd (kF S 39 5) 1000000000
/-- a matrix -/
def cM (S : Nat → Nat → Int) (i : Nat) : Nat → Nat → Int := kF S (53 + 9 * i) 5
def cMs (S : Nat → Nat → Int) (i : Nat) : Prop := ∃ n : Nat, (1 ≤ n ∧ n ≤ 5) ∧ S (51 + 9 * i) 0 = (n : Int) ∧ mBd (cM S i) 1000000000 ∧ mWi (cM S i) n
def cPs (S : Nat → Nat → Int) : Prop := ∀ i, i < 4 → pOk (S (50 + 9 * i))
def cVs (S : Nat → Nat → Int) : Prop := ∀ i, i < 4 → ∀ k, k < 5 → S (4 + i) k = INF ∨ (-99999 ≤ S (4 + i) k ∧ S (4 + i) k ≤ 99999)
def cGs (S : Nat → Nat → Int) : Prop := gOk (kF S 10 5) ∧ ∀ v, v < 5 → -99 ≤ S 15 v ∧ S 15 v ≤ 99
def cInv (S : Nat → Nat → Int) : Prop := cPs S ∧ (∀ i, i < 4 → cMs S i) ∧ cVs S ∧ cGs S ∧ kI5 S
/-- cells that no state lies in -/
def cFree (a : Nat) : Prop := a = 16 ∨ (18 ≤ a ∧ a ≤ 22) ∨ (24 ≤ a ∧ a ≤ 27) ∨ a = 29 ∨ a = 44 ∨ a = 45 ∨ a = 47 ∨ a = 48
/-- beside the free ones only these cells have changed -/
def cFr (D : Nat → Prop) (S S' : Nat → Nat → Int) : Prop := ∀ a, ¬ cFree a → ¬ D a → S' a = S a
theorem kF_e {S S' : Nat → Nat → Int} {a n : Nat} (h : ∀ x, x < n → S' (a + x) = S (a + x)) : kF S' a n = kF S a n := by
  funext x
  unfold kF
  split
  · next hx => rw [h x hx]
  · rfl
theorem cM_e {S S' : Nat → Nat → Int} {i : Nat} (h : ∀ x, x < 5 → S' (53 + 9 * i + x) = S (53 + 9 * i + x)) : cM S' i = cM S i := kF_e h
theorem cFr.refl (D : Nat → Prop) (S : Nat → Nat → Int) : cFr D S S := fun _ _ _ => rfl
theorem cFr.trans {D : Nat → Prop} {S S' S'' : Nat → Nat → Int} (h : cFr D S S') (h2 : cFr D S' S'') : cFr D S S'' := fun a h1 h3 => (h2 a h1 h3).trans (h a h1 h3)
theorem cFr.to {D D' : Nat → Prop} {S S' : Nat → Nat → Int} (h : cFr D S S') (w : ∀ a, D a → D' a) : cFr D' S S' := fun a h1 h2 => h a h1 (fun q => h2 (w a q))
theorem cFr.m {D : Nat → Prop} {S S' : Nat → Nat → Int} (h : cFr D S S') {i : Nat} (hi : i < 4) (w : ∀ a, 51 + 9 * i ≤ a → a ≤ 57 + 9 * i → ¬ D a) : cM S' i = cM S i ∧ S' (51 + 9 * i) = S (51 + 9 * i) :=
  ⟨cM_e (fun x hx => h _ (by unfold cFree; omega) (w _ (by omega) (by omega))), h _ (by unfold cFree; omega) (w _ (by omega) (by omega))⟩
theorem cPs.fr {D : Nat → Prop} {S S' : Nat → Nat → Int} (h : cPs S) (e : cFr D S S') (w : ∀ i, i < 4 → ¬ D (50 + 9 * i)) : cPs S' := fun i hi => by
  rw [e _ (by unfold cFree; omega) (w i hi)]
  exact h i hi
theorem cMs.fr {D : Nat → Prop} {S S' : Nat → Nat → Int} {i : Nat} (h : cMs S i) (e : cFr D S S') (hi : i < 4) (w : ∀ a, 51 + 9 * i ≤ a → a ≤ 57 + 9 * i → ¬ D a) : cMs S' i := by
  obtain ⟨n, a1, a2, a3, a4⟩ := h
  have q := e.m hi w
  exact ⟨n, a1, by rw [q.2]; exact a2, by rw [q.1]; exact a3, by rw [q.1]; exact a4⟩
theorem cVs.fr {D : Nat → Prop} {S S' : Nat → Nat → Int} (h : cVs S) (e : cFr D S S') (w : ∀ i, i < 4 → ¬ D (4 + i)) : cVs S' := fun i hi => by
  rw [e _ (by unfold cFree; omega) (w i hi)]
  exact h i hi
theorem cGs.fr {D : Nat → Prop} {S S' : Nat → Nat → Int} (h : cGs S) (e : cFr D S S') (w : ∀ a, 10 ≤ a → a ≤ 15 → ¬ D a) : cGs S' := by
  unfold cGs
  rw [kF_e (fun x hx => e _ (by unfold cFree; omega) (w _ (by omega) (by omega))), e 15 (by unfold cFree; omega) (w _ (by omega) (by omega))]
  exact h
theorem kI5.fr {D : Nat → Prop} {S S' : Nat → Nat → Int} (h : kI5 S) (e : cFr D S S') (w : ∀ a, 30 ≤ a → a ≤ 43 → ¬ D a) : kI5 S' := by
  unfold kI5
  rw [e 30 (by unfold cFree; omega) (w _ (by omega) (by omega)), e 37 (by unfold cFree; omega) (w _ (by omega) (by omega)), kF_e (a := 32) (fun x hx => e _ (by unfold cFree; omega) (w _ (by omega) (by omega))), kF_e (a := 39) (fun x hx => e _ (by unfold cFree; omega) (w _ (by omega) (by omega)))]
  exact h
theorem cInv.eq {S S' : Nat → Nat → Int} (h : cInv S) (e : cFr (fun _ => False) S S') : cInv S' :=
  ⟨h.1.fr e (fun _ _ => id), fun i hi => (h.2.1 i hi).fr e hi (fun _ _ _ => id), h.2.2.1.fr e (fun _ _ => id), h.2.2.2.1.fr e (fun _ _ _ => id), h.2.2.2.2.fr e (fun _ _ _ => id)⟩
theorem cInv.p {S S' : Nat → Nat → Int} (h : cInv S) {i : Nat} (hi : i < 4) (hf : pOk (S' (50 + 9 * i))) (e : cFr (fun a => a = 50 + 9 * i) S S') : cInv S' := by
  refine ⟨fun j hj => ?_, fun j hj => (h.2.1 j hj).fr e hj (fun a _ _ => by omega), h.2.2.1.fr e (fun _ _ => by omega), h.2.2.2.1.fr e (fun _ _ _ => by omega), h.2.2.2.2.fr e (fun _ _ _ => by omega)⟩
  by_cases c : j = i
  · subst c; exact hf
  · rw [e _ (by unfold cFree; omega) (by omega)]
    exact h.1 j hj
/-- where a matrix and the drafts lie -/
def cMD (i a : Nat) : Prop := (51 + 9 * i ≤ a ∧ a ≤ 57 + 9 * i) ∨ (30 ≤ a ∧ a ≤ 43)
theorem cInv.m {S S' : Nat → Nat → Int} (h : cInv S) {i : Nat} (hi : i < 4) (hm : cMs S' i) (hd : kI5 S') (e : cFr (cMD i) S S') : cInv S' := by
  refine ⟨h.1.fr e (fun j hj => ?_), fun j hj => ?_, h.2.2.1.fr e (fun _ _ => ?_), h.2.2.2.1.fr e (fun _ _ _ => ?_), hd⟩
  · unfold cMD; omega
  · by_cases c : j = i
    · subst c; exact hm
    · exact (h.2.1 j hj).fr e hj (fun a _ _ => by unfold cMD; omega)
  · unfold cMD; omega
  · unfold cMD; omega
theorem cInv.dr {S S' : Nat → Nat → Int} (h : cInv S) (hd : kI5 S') (e : cFr (fun a => 30 ≤ a ∧ a ≤ 43) S S') : cInv S' :=
  ⟨h.1.fr e (fun _ _ => by omega), fun j hj => (h.2.1 j hj).fr e hj (fun _ _ _ => by omega), h.2.2.1.fr e (fun _ _ => by omega), h.2.2.2.1.fr e (fun _ _ _ => by omega), hd⟩
theorem cInv.v {S S' : Nat → Nat → Int} (h : cInv S) {i : Nat} (hi : i < 4) (hv : ∀ k, k < 5 → S' (4 + i) k = INF ∨ (-99999 ≤ S' (4 + i) k ∧ S' (4 + i) k ≤ 99999)) (e : cFr (fun a => a = 4 + i) S S') : cInv S' := by
  refine ⟨h.1.fr e (fun _ _ => by omega), fun j hj => (h.2.1 j hj).fr e hj (fun _ _ _ => by omega), fun j hj => ?_, h.2.2.2.1.fr e (fun _ _ _ => by omega), h.2.2.2.2.fr e (fun _ _ _ => by omega)⟩
  by_cases c : j = i
  · subst c; exact hv
  · rw [e _ (by unfold cFree; omega) (by omega)]
    exact h.2.2.1 j hj
theorem cInv.gs {S S' : Nat → Nat → Int} (h : cInv S) (hg : cGs S') (e : cFr (fun a => 10 ≤ a ∧ a ≤ 15) S S') : cInv S' :=
  ⟨h.1.fr e (fun _ _ => by omega), fun j hj => (h.2.1 j hj).fr e hj (fun _ _ _ => by omega), h.2.2.1.fr e (fun _ _ => by omega), hg, h.2.2.2.2.fr e (fun _ _ _ => by omega)⟩
theorem cFr.u {S : Nat → Nat → Int} {D : Nat → Prop} {b : Nat} (h : cFree b ∨ D b) (f : Nat → Int) : cFr D S (k_u S b f) := fun a h1 h2 => k_u_n (fun e => by subst e; exact h.elim h1 h2)
section FA
variable {h : z_Hp}
theorem s_needIndex {i c : Int} (hi : -2147483648 ≤ i ∧ i < 2147483648) (hc : -2147483648 ≤ c ∧ c < 2147483648) : m_X5_needIndex [vI i, vI c] h = some (if 0 ≤ i ∧ i < c then .inl none else .inr kIO, h) := by
  unfold m_X5_needIndex
  by_cases p : 0 ≤ i ∧ i < c
  · rw [if_pos p]
    apply q_body
    have b6 : INF = 1000000 := rfl
    simp only [b_X5_needIndex, kIO, qS_nop, qS_seq, qS_set, qS_setJ, qS_if, qS_brk, qS_ret, qS_retV, qS_throw, qS_inc, qS_cl, qS_ast, qS_aop, qS_fst, qS_fop, qS_sw, qT_eC, qT_eCB, qT_eL, qT_eLJ, qT_eLR, qT_eLS, qT_eSLen, qT_eSLd, qT_eLB, qT_e1, qT_e2, qT_bCmp, qT_bCmpJ, qT_bAnd, qT_bOr, qT_bNot, qT_eBI, qT_eIf, qT_eLd, qT_eLdR, qT_eLen, qT_eF, qT_eFR, qT_aN, qT_aS, qT_eCl, qT_eClR, qT_eClB, qT_some, qT_x, z_nx_N, z_nx_B, z_nx_R, z_nx_X, z_bk_N, z_bk_B, z_bk_R, z_bk_X, oAdd, oSub, oMul, oNeg, cLt, cLe, cGt, cGe, cEq, cNe, Option.some.injEq, Sum.inl.injEq, Sum.inr.injEq, Prod.mk.injEq, exists_eq_left, exists_eq_left', exists_eq_right, exists_and_left, reduceCtorEq, and_true, true_and, and_false, false_and, List.getElem?_cons_zero, List.getElem?_cons_succ, List.set_cons_zero, List.set_cons_succ, List.replicate, List.length_cons, List.length_nil, List.cons_append, List.nil_append, Nat.reduceAdd, Nat.reduceSub, decide_eq_true_eq, decide_eq_false_iff_not, Bool.true_eq_false, Bool.false_eq_true, true_implies, false_implies, implies_true, Nat.reduceLT, exists_const, z_vB_inj, and_assoc, z_in_iff, oI2L, oL2I, Int.toNat_natCast, z_toNat0, Bool.not_eq_true', Bool.not_eq_false', ne_eq, Bool.not_true, Bool.not_false, Nat.add_zero, Int.add_zero, z_sl_s]
    omega
  · rw [if_neg p]
    apply q_body
    have b6 : INF = 1000000 := rfl
    simp only [b_X5_needIndex, kIO, qS_nop, qS_seq, qS_set, qS_setJ, qS_if, qS_brk, qS_ret, qS_retV, qS_throw, qS_inc, qS_cl, qS_ast, qS_aop, qS_fst, qS_fop, qS_sw, qT_eC, qT_eCB, qT_eL, qT_eLJ, qT_eLR, qT_eLS, qT_eSLen, qT_eSLd, qT_eLB, qT_e1, qT_e2, qT_bCmp, qT_bCmpJ, qT_bAnd, qT_bOr, qT_bNot, qT_eBI, qT_eIf, qT_eLd, qT_eLdR, qT_eLen, qT_eF, qT_eFR, qT_aN, qT_aS, qT_eCl, qT_eClR, qT_eClB, qT_some, qT_x, z_nx_N, z_nx_B, z_nx_R, z_nx_X, z_bk_N, z_bk_B, z_bk_R, z_bk_X, oAdd, oSub, oMul, oNeg, cLt, cLe, cGt, cGe, cEq, cNe, Option.some.injEq, Sum.inl.injEq, Sum.inr.injEq, Prod.mk.injEq, exists_eq_left, exists_eq_left', exists_eq_right, exists_and_left, reduceCtorEq, and_true, true_and, and_false, false_and, List.getElem?_cons_zero, List.getElem?_cons_succ, List.set_cons_zero, List.set_cons_succ, List.replicate, List.length_cons, List.length_nil, List.cons_append, List.nil_append, Nat.reduceAdd, Nat.reduceSub, decide_eq_true_eq, decide_eq_false_iff_not, Bool.true_eq_false, Bool.false_eq_true, true_implies, false_implies, implies_true, Nat.reduceLT, exists_const, z_vB_inj, and_assoc, z_in_iff, oI2L, oL2I, Int.toNat_natCast, z_toNat0, Bool.not_eq_true', Bool.not_eq_false', ne_eq, Bool.not_true, Bool.not_false, Nat.add_zero, Int.add_zero, z_sl_s]
    omega
theorem s_needHeld {i : Int} (hi : -2147483648 ≤ i ∧ i < 2147483648) : m_X5_needHeld [vI i] h = some (if 0 ≤ i ∧ i ≤ 3 then .inl none else .inr kIO, h) := by
  have e := s_needIndex (h := h) (i := i) (c := 4) hi (by decide)
  unfold m_X5_needHeld
  by_cases p : 0 ≤ i ∧ i < 4
  · rw [if_pos p] at e
    rw [if_pos (by omega)]
    apply q_body
    have b6 : INF = 1000000 := rfl
    simp only [b_X5_needHeld, e, qS_nop, qS_seq, qS_set, qS_setJ, qS_if, qS_brk, qS_ret, qS_retV, qS_throw, qS_inc, qS_cl, qS_ast, qS_aop, qS_fst, qS_fop, qS_sw, qT_eC, qT_eCB, qT_eL, qT_eLJ, qT_eLR, qT_eLS, qT_eSLen, qT_eSLd, qT_eLB, qT_e1, qT_e2, qT_bCmp, qT_bCmpJ, qT_bAnd, qT_bOr, qT_bNot, qT_eBI, qT_eIf, qT_eLd, qT_eLdR, qT_eLen, qT_eF, qT_eFR, qT_aN, qT_aS, qT_eCl, qT_eClR, qT_eClB, qT_some, qT_x, z_nx_N, z_nx_B, z_nx_R, z_nx_X, z_bk_N, z_bk_B, z_bk_R, z_bk_X, oAdd, oSub, oMul, oNeg, cLt, cLe, cGt, cGe, cEq, cNe, Option.some.injEq, Sum.inl.injEq, Sum.inr.injEq, Prod.mk.injEq, exists_eq_left, exists_eq_left', exists_eq_right, exists_and_left, reduceCtorEq, and_true, true_and, and_false, false_and, List.getElem?_cons_zero, List.getElem?_cons_succ, List.set_cons_zero, List.set_cons_succ, List.replicate, List.length_cons, List.length_nil, List.cons_append, List.nil_append, Nat.reduceAdd, Nat.reduceSub, decide_eq_true_eq, decide_eq_false_iff_not, Bool.true_eq_false, Bool.false_eq_true, true_implies, false_implies, implies_true, Nat.reduceLT, exists_const, z_vB_inj, and_assoc, z_in_iff, oI2L, oL2I, Int.toNat_natCast, z_toNat0, Bool.not_eq_true', Bool.not_eq_false', ne_eq, Bool.not_true, Bool.not_false, Nat.add_zero, Int.add_zero, z_sl_s]
  · rw [if_neg p] at e
    rw [if_neg (by omega)]
    apply q_body
    have b6 : INF = 1000000 := rfl
    simp only [b_X5_needHeld, e, qS_nop, qS_seq, qS_set, qS_setJ, qS_if, qS_brk, qS_ret, qS_retV, qS_throw, qS_inc, qS_cl, qS_ast, qS_aop, qS_fst, qS_fop, qS_sw, qT_eC, qT_eCB, qT_eL, qT_eLJ, qT_eLR, qT_eLS, qT_eSLen, qT_eSLd, qT_eLB, qT_e1, qT_e2, qT_bCmp, qT_bCmpJ, qT_bAnd, qT_bOr, qT_bNot, qT_eBI, qT_eIf, qT_eLd, qT_eLdR, qT_eLen, qT_eF, qT_eFR, qT_aN, qT_aS, qT_eCl, qT_eClR, qT_eClB, qT_some, qT_x, z_nx_N, z_nx_B, z_nx_R, z_nx_X, z_bk_N, z_bk_B, z_bk_R, z_bk_X, oAdd, oSub, oMul, oNeg, cLt, cLe, cGt, cGe, cEq, cNe, Option.some.injEq, Sum.inl.injEq, Sum.inr.injEq, Prod.mk.injEq, exists_eq_left, exists_eq_left', exists_eq_right, exists_and_left, reduceCtorEq, and_true, true_and, and_false, false_and, List.getElem?_cons_zero, List.getElem?_cons_succ, List.set_cons_zero, List.set_cons_succ, List.replicate, List.length_cons, List.length_nil, List.cons_append, List.nil_append, Nat.reduceAdd, Nat.reduceSub, decide_eq_true_eq, decide_eq_false_iff_not, Bool.true_eq_false, Bool.false_eq_true, true_implies, false_implies, implies_true, Nat.reduceLT, exists_const, z_vB_inj, and_assoc, z_in_iff, oI2L, oL2I, Int.toNat_natCast, z_toNat0, Bool.not_eq_true', Bool.not_eq_false', ne_eq, Bool.not_true, Bool.not_false, Nat.add_zero, Int.add_zero, z_sl_s]
theorem s_needWithin {n a b : Int} (hn : -2147483648 ≤ n ∧ n < 2147483648) (ha : -2147483648 ≤ a ∧ a < 2147483648) (hb : -2147483648 ≤ b ∧ b < 2147483648) : m_X5_needWithin [vI n, vI a, vI b] h = some (if a ≤ n ∧ n ≤ b then .inl none else .inr kIA, h) := by
  unfold m_X5_needWithin
  by_cases p : a ≤ n ∧ n ≤ b
  · rw [if_pos p]
    apply q_body
    have b6 : INF = 1000000 := rfl
    simp only [b_X5_needWithin, kIA, qS_nop, qS_seq, qS_set, qS_setJ, qS_if, qS_brk, qS_ret, qS_retV, qS_throw, qS_inc, qS_cl, qS_ast, qS_aop, qS_fst, qS_fop, qS_sw, qT_eC, qT_eCB, qT_eL, qT_eLJ, qT_eLR, qT_eLS, qT_eSLen, qT_eSLd, qT_eLB, qT_e1, qT_e2, qT_bCmp, qT_bCmpJ, qT_bAnd, qT_bOr, qT_bNot, qT_eBI, qT_eIf, qT_eLd, qT_eLdR, qT_eLen, qT_eF, qT_eFR, qT_aN, qT_aS, qT_eCl, qT_eClR, qT_eClB, qT_some, qT_x, z_nx_N, z_nx_B, z_nx_R, z_nx_X, z_bk_N, z_bk_B, z_bk_R, z_bk_X, oAdd, oSub, oMul, oNeg, cLt, cLe, cGt, cGe, cEq, cNe, Option.some.injEq, Sum.inl.injEq, Sum.inr.injEq, Prod.mk.injEq, exists_eq_left, exists_eq_left', exists_eq_right, exists_and_left, reduceCtorEq, and_true, true_and, and_false, false_and, List.getElem?_cons_zero, List.getElem?_cons_succ, List.set_cons_zero, List.set_cons_succ, List.replicate, List.length_cons, List.length_nil, List.cons_append, List.nil_append, Nat.reduceAdd, Nat.reduceSub, decide_eq_true_eq, decide_eq_false_iff_not, Bool.true_eq_false, Bool.false_eq_true, true_implies, false_implies, implies_true, Nat.reduceLT, exists_const, z_vB_inj, and_assoc, z_in_iff, oI2L, oL2I, Int.toNat_natCast, z_toNat0, Bool.not_eq_true', Bool.not_eq_false', ne_eq, Bool.not_true, Bool.not_false, Nat.add_zero, Int.add_zero, z_sl_s]
    omega
  · rw [if_neg p]
    apply q_body
    have b6 : INF = 1000000 := rfl
    simp only [b_X5_needWithin, kIA, qS_nop, qS_seq, qS_set, qS_setJ, qS_if, qS_brk, qS_ret, qS_retV, qS_throw, qS_inc, qS_cl, qS_ast, qS_aop, qS_fst, qS_fop, qS_sw, qT_eC, qT_eCB, qT_eL, qT_eLJ, qT_eLR, qT_eLS, qT_eSLen, qT_eSLd, qT_eLB, qT_e1, qT_e2, qT_bCmp, qT_bCmpJ, qT_bAnd, qT_bOr, qT_bNot, qT_eBI, qT_eIf, qT_eLd, qT_eLdR, qT_eLen, qT_eF, qT_eFR, qT_aN, qT_aS, qT_eCl, qT_eClR, qT_eClB, qT_some, qT_x, z_nx_N, z_nx_B, z_nx_R, z_nx_X, z_bk_N, z_bk_B, z_bk_R, z_bk_X, oAdd, oSub, oMul, oNeg, cLt, cLe, cGt, cGe, cEq, cNe, Option.some.injEq, Sum.inl.injEq, Sum.inr.injEq, Prod.mk.injEq, exists_eq_left, exists_eq_left', exists_eq_right, exists_and_left, reduceCtorEq, and_true, true_and, and_false, false_and, List.getElem?_cons_zero, List.getElem?_cons_succ, List.set_cons_zero, List.set_cons_succ, List.replicate, List.length_cons, List.length_nil, List.cons_append, List.nil_append, Nat.reduceAdd, Nat.reduceSub, decide_eq_true_eq, decide_eq_false_iff_not, Bool.true_eq_false, Bool.false_eq_true, true_implies, false_implies, implies_true, Nat.reduceLT, exists_const, z_vB_inj, and_assoc, z_in_iff, oI2L, oL2I, Int.toNat_natCast, z_toNat0, Bool.not_eq_true', Bool.not_eq_false', ne_eq, Bool.not_true, Bool.not_false, Nat.add_zero, Int.add_zero, z_sl_s]
    omega
theorem s_needGiven {n : Int} (hn : -2147483648 ≤ n ∧ n < 2147483648) : m_X5_needGiven [vI n] h = some (if (-999 ≤ n ∧ n ≤ 999) ∨ n = INF then .inl none else .inr kIA, h) := by
  have e := s_needWithin (h := h) (n := n) (a := -999) (b := 999) hn (by decide) (by decide)
  have b6 : INF = 1000000 := rfl
  unfold m_X5_needGiven
  by_cases p : n = 1000000
  · rw [if_pos (by omega)]
    apply q_body
    have b6 : INF = 1000000 := rfl
    simp only [b_X5_needGiven, p, qS_nop, qS_seq, qS_set, qS_setJ, qS_if, qS_brk, qS_ret, qS_retV, qS_throw, qS_inc, qS_cl, qS_ast, qS_aop, qS_fst, qS_fop, qS_sw, qT_eC, qT_eCB, qT_eL, qT_eLJ, qT_eLR, qT_eLS, qT_eSLen, qT_eSLd, qT_eLB, qT_e1, qT_e2, qT_bCmp, qT_bCmpJ, qT_bAnd, qT_bOr, qT_bNot, qT_eBI, qT_eIf, qT_eLd, qT_eLdR, qT_eLen, qT_eF, qT_eFR, qT_aN, qT_aS, qT_eCl, qT_eClR, qT_eClB, qT_some, qT_x, z_nx_N, z_nx_B, z_nx_R, z_nx_X, z_bk_N, z_bk_B, z_bk_R, z_bk_X, oAdd, oSub, oMul, oNeg, cLt, cLe, cGt, cGe, cEq, cNe, Option.some.injEq, Sum.inl.injEq, Sum.inr.injEq, Prod.mk.injEq, exists_eq_left, exists_eq_left', exists_eq_right, exists_and_left, reduceCtorEq, and_true, true_and, and_false, false_and, List.getElem?_cons_zero, List.getElem?_cons_succ, List.set_cons_zero, List.set_cons_succ, List.replicate, List.length_cons, List.length_nil, List.cons_append, List.nil_append, Nat.reduceAdd, Nat.reduceSub, decide_eq_true_eq, decide_eq_false_iff_not, Bool.true_eq_false, Bool.false_eq_true, true_implies, false_implies, implies_true, Nat.reduceLT, exists_const, z_vB_inj, and_assoc, z_in_iff, oI2L, oL2I, Int.toNat_natCast, z_toNat0, Bool.not_eq_true', Bool.not_eq_false', ne_eq, Bool.not_true, Bool.not_false, Nat.add_zero, Int.add_zero, z_sl_s]
    (repeat' (first | apply And.intro | intro _)) <;> first | omega | rfl | grind
  · by_cases q : -999 ≤ n ∧ n ≤ 999
    · rw [if_pos q] at e
      rw [if_pos (by omega)]
      apply q_body
      have b6 : INF = 1000000 := rfl
      simp only [b_X5_needGiven, e, qS_nop, qS_seq, qS_set, qS_setJ, qS_if, qS_brk, qS_ret, qS_retV, qS_throw, qS_inc, qS_cl, qS_ast, qS_aop, qS_fst, qS_fop, qS_sw, qT_eC, qT_eCB, qT_eL, qT_eLJ, qT_eLR, qT_eLS, qT_eSLen, qT_eSLd, qT_eLB, qT_e1, qT_e2, qT_bCmp, qT_bCmpJ, qT_bAnd, qT_bOr, qT_bNot, qT_eBI, qT_eIf, qT_eLd, qT_eLdR, qT_eLen, qT_eF, qT_eFR, qT_aN, qT_aS, qT_eCl, qT_eClR, qT_eClB, qT_some, qT_x, z_nx_N, z_nx_B, z_nx_R, z_nx_X, z_bk_N, z_bk_B, z_bk_R, z_bk_X, oAdd, oSub, oMul, oNeg, cLt, cLe, cGt, cGe, cEq, cNe, Option.some.injEq, Sum.inl.injEq, Sum.inr.injEq, Prod.mk.injEq, exists_eq_left, exists_eq_left', exists_eq_right, exists_and_left, reduceCtorEq, and_true, true_and, and_false, false_and, List.getElem?_cons_zero, List.getElem?_cons_succ, List.set_cons_zero, List.set_cons_succ, List.replicate, List.length_cons, List.length_nil, List.cons_append, List.nil_append, Nat.reduceAdd, Nat.reduceSub, decide_eq_true_eq, decide_eq_false_iff_not, Bool.true_eq_false, Bool.false_eq_true, true_implies, false_implies, implies_true, Nat.reduceLT, exists_const, z_vB_inj, and_assoc, z_in_iff, oI2L, oL2I, Int.toNat_natCast, z_toNat0, Bool.not_eq_true', Bool.not_eq_false', ne_eq, Bool.not_true, Bool.not_false, Nat.add_zero, Int.add_zero, z_sl_s]
      omega
    · rw [if_neg q] at e
      rw [if_neg (by omega)]
      apply q_body
      have b6 : INF = 1000000 := rfl
      simp only [b_X5_needGiven, e, qS_nop, qS_seq, qS_set, qS_setJ, qS_if, qS_brk, qS_ret, qS_retV, qS_throw, qS_inc, qS_cl, qS_ast, qS_aop, qS_fst, qS_fop, qS_sw, qT_eC, qT_eCB, qT_eL, qT_eLJ, qT_eLR, qT_eLS, qT_eSLen, qT_eSLd, qT_eLB, qT_e1, qT_e2, qT_bCmp, qT_bCmpJ, qT_bAnd, qT_bOr, qT_bNot, qT_eBI, qT_eIf, qT_eLd, qT_eLdR, qT_eLen, qT_eF, qT_eFR, qT_aN, qT_aS, qT_eCl, qT_eClR, qT_eClB, qT_some, qT_x, z_nx_N, z_nx_B, z_nx_R, z_nx_X, z_bk_N, z_bk_B, z_bk_R, z_bk_X, oAdd, oSub, oMul, oNeg, cLt, cLe, cGt, cGe, cEq, cNe, Option.some.injEq, Sum.inl.injEq, Sum.inr.injEq, Prod.mk.injEq, exists_eq_left, exists_eq_left', exists_eq_right, exists_and_left, reduceCtorEq, and_true, true_and, and_false, false_and, List.getElem?_cons_zero, List.getElem?_cons_succ, List.set_cons_zero, List.set_cons_succ, List.replicate, List.length_cons, List.length_nil, List.cons_append, List.nil_append, Nat.reduceAdd, Nat.reduceSub, decide_eq_true_eq, decide_eq_false_iff_not, Bool.true_eq_false, Bool.false_eq_true, true_implies, false_implies, implies_true, Nat.reduceLT, exists_const, z_vB_inj, and_assoc, z_in_iff, oI2L, oL2I, Int.toNat_natCast, z_toNat0, Bool.not_eq_true', Bool.not_eq_false', ne_eq, Bool.not_true, Bool.not_false, Nat.add_zero, Int.add_zero, z_sl_s]
      omega
end FA
section FX
theorem s_nH1 {i : Int} (q : 0 ≤ i ∧ i ≤ 3) : ∀ h, m_X5_needHeld [vI i] h = some (.inl none, h) := fun h => by rw [s_needHeld ⟨by omega, by omega⟩, if_pos q]
theorem s_nH0 {i : Int} (hi : -2147483648 ≤ i ∧ i < 2147483648) (q : ¬ (0 ≤ i ∧ i ≤ 3)) : ∀ h, m_X5_needHeld [vI i] h = some (.inr kIO, h) := fun h => by rw [s_needHeld hi, if_neg q]
theorem s_nI1 {i c : Int} (hc : c < 2147483648) (q : 0 ≤ i ∧ i < c) : ∀ h, m_X5_needIndex [vI i, vI c] h = some (.inl none, h) := fun h => by rw [s_needIndex ⟨by omega, by omega⟩ ⟨by omega, hc⟩, if_pos q]
theorem s_nI0 {i c : Int} (hi : -2147483648 ≤ i ∧ i < 2147483648) (hc : -2147483648 ≤ c ∧ c < 2147483648) (q : ¬ (0 ≤ i ∧ i < c)) : ∀ h, m_X5_needIndex [vI i, vI c] h = some (.inr kIO, h) := fun h => by rw [s_needIndex hi hc, if_neg q]
theorem s_nW1 {n a b : Int} (ha : -2147483648 ≤ a) (hb : b < 2147483648) (q : a ≤ n ∧ n ≤ b) : ∀ h, m_X5_needWithin [vI n, vI a, vI b] h = some (.inl none, h) := fun h => by rw [s_needWithin ⟨by omega, by omega⟩ ⟨ha, by omega⟩ ⟨by omega, hb⟩, if_pos q]
theorem s_nW0 {n a b : Int} (hn : -2147483648 ≤ n ∧ n < 2147483648) (ha : -2147483648 ≤ a ∧ a < 2147483648) (hb : -2147483648 ≤ b ∧ b < 2147483648) (q : ¬ (a ≤ n ∧ n ≤ b)) : ∀ h, m_X5_needWithin [vI n, vI a, vI b] h = some (.inr kIA, h) := fun h => by rw [s_needWithin hn ha hb, if_neg q]
theorem s_nG1 {n : Int} (q : (-999 ≤ n ∧ n ≤ 999) ∨ n = INF) : ∀ h, m_X5_needGiven [vI n] h = some (.inl none, h) := fun h => by
  have b6 : INF = 1000000 := rfl
  rw [s_needGiven ⟨by omega, by omega⟩, if_pos q]
theorem s_nG0 {n : Int} (hn : -2147483648 ≤ n ∧ n < 2147483648) (q : ¬ ((-999 ≤ n ∧ n ≤ 999) ∨ n = INF)) : ∀ h, m_X5_needGiven [vI n] h = some (.inr kIA, h) := fun h => by rw [s_needGiven hn, if_neg q]
end FX
section FB
variable {X : z_Hp} {S : Nat → Nat → Int}
theorem k_1r {i : Nat} (hi : i < 4) : (if i < 4 then ((49 + 9 * i : Nat) : Int) else -1) = ((49 + 9 * i : Nat) : Int) := if_pos hi
theorem k_2r {i : Nat} (hi : i < 4) : (if i < 4 then ((51 + 9 * i : Nat) : Int) else -1) = ((51 + 9 * i : Nat) : Int) := if_pos hi
theorem k_3r {i : Nat} (hi : i < 4) : (if i < 4 then ((4 + 1 * i : Nat) : Int) else -1) = ((4 + i : Nat) : Int) := by rw [if_pos hi, Nat.one_mul]
theorem k_4r {i : Nat} (hi : i < 5) : (if i < 5 then ((10 + 1 * i : Nat) : Int) else -1) = ((10 + i : Nat) : Int) := by rw [if_pos hi, Nat.one_mul]
theorem k_5r {i x : Nat} (hx : x < 5) : (if x < 5 then ((53 + 9 * i + 1 * x : Nat) : Int) else -1) = ((53 + 9 * i + x : Nat) : Int) := by rw [if_pos hx, Nat.one_mul]
theorem k_cs {i : Nat} (hi : i < 4) (g : Nat → Int) : (k_W X S).set (50 + 9 * i) (.inr (0, 9, g)) = k_W X (k_u S (50 + 9 * i) g) := k_set (k_cC hi g).symm
theorem k_vs {i : Nat} (hi : i < 4) (g : Nat → Int) : (k_W X S).set (4 + i) (.inr (0, 5, g)) = k_W X (k_u S (4 + i) g) := k_set (k_vC hi g).symm
theorem k_bC {i : Nat} (hi : i < 5) (f : Nat → Int) : k_C (10 + i) f = .inr (0, 5, f) := by
  rcases (by omega : i = 0 ∨ i = 1 ∨ i = 2 ∨ i = 3 ∨ i = 4) with rfl | rfl | rfl | rfl | rfl <;> rfl
theorem k_ba {i : Nat} (hi : i < 5) : z_arr (k_W X S) (10 + i) 0 = some (5, S (10 + i)) := k_arr (by omega) (k_bC hi _) (by decide)
theorem k_bs {i : Nat} (hi : i < 5) (g : Nat → Int) : (k_W X S).set (10 + i) (.inr (0, 5, g)) = k_W X (k_u S (10 + i) g) := k_set (k_bC hi g).symm
theorem k_mo {i : Nat} (hi : i < 4) : z_obj (k_W X S) (51 + 9 * i) 2 = some [vR (52 + 9 * i), vI (S (51 + 9 * i) 0)] := k_obj (by omega) (k_mC hi _)
theorem k_me {i : Nat} (hi : i < 4) : z_arr (k_W X S) (52 + 9 * i) 4 = some (5, fun j => if j < 5 then ((53 + 9 * i + 1 * j : Nat) : Int) else -1) := k_arr (by omega) (k_eC hi _) (by decide)
theorem k_mr {i x : Nat} (hi : i < 4) (hx : x < 5) : z_arr (k_W X S) (53 + 9 * i + x) 0 = some (5, S (53 + 9 * i + x)) := k_arr (by omega) (k_rC hi hx _) (by decide)
theorem k_ms {i x : Nat} (hi : i < 4) (hx : x < 5) (g : Nat → Int) : (k_W X S).set (53 + 9 * i + x) (.inr (0, 5, g)) = k_W X (k_u S (53 + 9 * i + x) g) := k_set (k_rC hi hx g).symm
end FB
