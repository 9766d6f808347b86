/-! small facts for the evaluation; helpers of the JDK -/
theorem z_bk_N (K : List z_V → z_Hp → Prop) (Q : z_Oc → z_Hp → Prop) (ρ : List z_V) (h : z_Hp) : z_bk K Q (oN ρ) h ↔ K ρ h := Iff.rfl
theorem z_bk_B (K : List z_V → z_Hp → Prop) (Q : z_Oc → z_Hp → Prop) (ρ : List z_V) (h : z_Hp) : z_bk K Q (oB ρ) h ↔ Q (oN ρ) h := Iff.rfl
theorem z_bk_R (K : List z_V → z_Hp → Prop) (Q : z_Oc → z_Hp → Prop) (r : Option z_V) (h : z_Hp) : z_bk K Q (oR r) h ↔ Q (oR r) h := Iff.rfl
theorem z_bk_X (K : List z_V → z_Hp → Prop) (Q : z_Oc → z_Hp → Prop) (E : String) (h : z_Hp) : z_bk K Q (oX E) h ↔ Q (oX E) h := Iff.rfl
theorem z_vB_inj (a b : Bool) : ((if a = true then (1 : Int) else 0) = if b = true then 1 else 0) ↔ a = b := by cases a <;> cases b <;> simp
theorem z_in_iff (x : Int) : z_in x = true ↔ -2147483648 ≤ x ∧ x < 2147483648 := by
  simp only [z_in, Bool.and_eq_true, decide_eq_true_eq]
theorem z_toNat0 : (0 : Int).toNat = 0 := rfl
/-- no term, no number -/
abbrev INF : Int := 1000000
/-- an array's part k, behind a loop that has come to i -/
theorem z_upto (f g : Nat → Int) (i : Nat) : z_up (fun k => if k < i then g k else f k) i (g i) = fun k => if k < i + 1 then g k else f k := by
  funext k
  unfold z_up
  by_cases h1 : k = i
  · subst h1; simp
  · by_cases h2 : k < i
    · simp [h1, h2, show k < i + 1 by omega]
    · simp [h1, h2, show ¬ k < i + 1 by omega]
theorem z_set_get {h : z_Hp} {r : Nat} {x y : z_Cl} (e : h[r]? = some x) : (h.set r y)[r]? = some y := by
  have : r < h.length := (List.getElem?_eq_some_iff.mp e).1
  simp [this]
theorem z_set_ne {h : z_Hp} {r q : Nat} {y : z_Cl} (e : r ≠ q) : (h.set r y)[q]? = h[q]? := List.getElem?_set_ne e
theorem z_set_id {h : z_Hp} {r : Nat} {x : z_Cl} (e : h[r]? = some x) : h.set r x = h := by
  apply List.ext_getElem?
  intro j
  by_cases hj : r = j
  · subst hj; rw [z_set_get e, e]
  · rw [z_set_ne hj]
/-- a loop that counts, its locals and its world by the count -/
theorem qS_for {b : z_Ev Bool} {s u : z_St} {Q : z_Oc → z_Hp → Prop} {ρ : List z_V} {h : z_Hp} (ρf : Nat → List z_V) (hf : Nat → z_Hp) (P : Nat → Prop) (n : Nat) (e1 : ρ = ρf 0) (e2 : h = hf 0) (hP : P 0) (hn : n ≤ 10000000)
    (hs : ∀ k, k < n → P k → qT (b (ρf k) (hf k)) (fun v h => v = true ∧ qS s (ρf k) h (z_bk (fun ρ h => qS u ρ h (z_nx (fun ρ h => ρ = ρf (k + 1) ∧ h = hf (k + 1) ∧ P (k + 1)) Q)) Q)) (fun E h => Q (oX E) h))
    (he : P n → qT (b (ρf n) (hf n)) (fun v h => v = false ∧ Q (oN (ρf n)) h) (fun E h => Q (oX E) h)) : qS (sLoop b s u z_fuel) ρ h Q := by
  subst e1
  subst e2
  refine qS_loop (fun k ρ h => ρ = ρf k ∧ h = hf k ∧ P k) n ?_ ?_ n 0 z_fuel _ _ (by omega) (z_fuel_lt hn) ⟨rfl, rfl, hP⟩
  · rintro k _ _ hk ⟨rfl, rfl, hp⟩
    exact hs k hk hp
  · rintro _ _ ⟨rfl, rfl, hp⟩
    exact he hp
/-- a place that is not set before the first round -/
def z_sl (k : Nat) (v : z_V) : z_V := if k = 0 then vU else v
theorem z_sl_s (k : Nat) (v : z_V) : z_sl (k + 1) v = v := rfl
noncomputable def z_dec (P : Prop) : Bool := @decide P (Classical.propDecidable P)
theorem z_dec_iff (P : Prop) : z_dec P = true ↔ P := by
  unfold z_dec
  exact @decide_eq_true_iff P (Classical.propDecidable P)
theorem z_dec_f (P : Prop) : z_dec P = false ↔ ¬ P := by
  by_cases p : P
  · rw [(z_dec_iff P).mpr p]
    exact ⟨fun q => (by cases q), fun q => absurd p q⟩
  · have : ¬ z_dec P = true := fun q => p ((z_dec_iff P).mp q)
    exact ⟨fun _ => p, fun _ => Bool.eq_false_iff.mpr this⟩
theorem z_dec_eq {P : Prop} {b : Bool} (h : b = true ↔ P) : b = z_dec P := by
  cases b
  · exact ((z_dec_f P).mpr (fun p => by cases h.mpr p)).symm
  · exact ((z_dec_iff P).mpr (h.mp rfl)).symm
theorem z_dec_d (P : Prop) [Decidable P] : decide P = z_dec P := z_dec_eq (by simp)
theorem z_dec_inj (P R : Prop) : z_dec P = z_dec R ↔ (P ↔ R) := ⟨fun e => ⟨fun p => (z_dec_iff R).mp (e ▸ (z_dec_iff P).mpr p), fun q => (z_dec_iff P).mp (e.symm ▸ (z_dec_iff R).mpr q)⟩, fun e => by rw [propext e]⟩
def z_cnt (p : Nat → Bool) : Nat → Int
  | 0 => 0
  | n + 1 => z_cnt p n + (if p n = true then 1 else 0)
theorem z_cnt_b (p : Nat → Bool) (n : Nat) : 0 ≤ z_cnt p n ∧ z_cnt p n ≤ n := by
  induction n with
  | zero => exact ⟨Int.le_refl 0, Int.le_refl 0⟩
  | succ n ih =>
    unfold z_cnt
    split <;> omega
def z_plus (x y : Int) : Int := if x = INF ∨ y = INF then INF else x + y
/-- the least of n values, INF without -/
def z_mn (g : Nat → Int) : Nat → Int
  | 0 => INF
  | n + 1 => if g n < z_mn g n then g n else z_mn g n
theorem z_mn_le (g : Nat → Int) (n : Nat) : z_mn g n ≤ INF := by
  induction n with
  | zero => exact Int.le_refl _
  | succ n ih =>
    unfold z_mn
    split <;> omega
theorem z_mn_b (g : Nat → Int) (B : Int) (hB : B ≤ INF) (n : Nat) (h : ∀ k, k < n → B ≤ g k) : B ≤ z_mn g n := by
  induction n with
  | zero => exact hB
  | succ n ih =>
    have := ih (fun k hk => h k (by omega))
    have := h n (by omega)
    unfold z_mn
    split <;> omega
theorem z_mn_eq {g g' : Nat → Int} {n : Nat} (h : ∀ k, k < n → g k = g' k) : z_mn g n = z_mn g' n := by
  induction n with
  | zero => rfl
  | succ n ih => rw [z_mn, z_mn, ih (fun k hk => h k (by omega)), h n (by omega)]
theorem s_min {x y : Int} {h : z_Hp} (hx : -2147483648 ≤ x ∧ x < 2147483648) (hy : -2147483648 ≤ y ∧ y < 2147483648) : z_mmin [vI x, vI y] h = some (.inl (some (vI (if y < x then y else x))), h) := by
  unfold z_mmin
  simp only [(z_in_iff x).mpr hx, (z_in_iff y).mpr hy, Bool.and_self, if_true]
theorem s_max {x y : Int} {h : z_Hp} (hx : -2147483648 ≤ x ∧ x < 2147483648) (hy : -2147483648 ≤ y ∧ y < 2147483648) : z_mmax [vI x, vI y] h = some (.inl (some (vI (if x < y then y else x))), h) := by
  unfold z_mmax
  simp only [(z_in_iff x).mpr hx, (z_in_iff y).mpr hy, Bool.and_self, if_true]
theorem s_copy {h : z_Hp} {a b n0 n1 : Nat} {f g : Nat → Int} (ha : h[a]? = some (.inr (0, n0, f))) (hb : h[b]? = some (.inr (0, n1, g))) (h0 : n0 < 1000) (h1 : n1 < 1000) {sp dp n : Int} (q1 : 0 ≤ sp) (q2 : 0 ≤ dp) (q3 : 0 ≤ n) (q4 : sp + n ≤ n0) (q5 : dp + n ≤ n1) :
    z_acopy [vR a, vI sp, vR b, vI dp, vI n] h = some (.inl none, h.set b (.inr (0, n1, z_cp f g sp.toNat dp.toNat n.toNat))) := by
  unfold z_acopy
  simp only [q_arr ha (show n0 < 2147483648 by omega), q_arr hb (show n1 < 2147483648 by omega)]
  rw [if_pos ⟨q1, q2, q3, q4, q5⟩]
theorem s_fill {h : z_Hp} {c n : Nat} {f : Nat → Int} {v : Int} (hc : h[c]? = some (.inr (0, n, f))) (hn : n < 1000) :
    m_J7_fill_53178 [vR c, vI v] h = some (.inl none, h.set c (.inr (0, n, fun k => if k < n then v else f k))) := by
  unfold m_J7_fill_53178
  apply q_body
  simp only [b_J7_fill_53178, q_arr hc (show n < 2147483648 by omega), qS_nop, qS_seq, qS_set, qS_setJ, qS_if, qS_brk, qS_ret, qS_retV, qS_throw, qS_inc, qS_cl, qS_ast, qS_aop, qS_fst, qS_fop, qS_sw, qT_eC, qT_eCB, qT_eL, qT_eLJ, qT_eLR, qT_eLB, qT_e1, qT_e2, qT_bCmp, qT_bCmpJ, qT_bAnd, qT_bOr, qT_bNot, qT_eBI, qT_eIf, qT_eLd, qT_eLdR, qT_eLen, qT_eF, qT_eFR, qT_aN, qT_aS, qT_eCl, qT_eClR, qT_eClB, qT_some, qT_x, z_nx_N, z_nx_B, z_nx_R, z_nx_X, z_bk_N, z_bk_B, z_bk_R, z_bk_X, oAdd, oSub, oMul, oNeg, cLt, cLe, cGt, cGe, cEq, cNe, Option.some.injEq, Sum.inl.injEq, Sum.inr.injEq, Prod.mk.injEq, exists_eq_left, exists_eq_left', exists_eq_right, exists_and_left, reduceCtorEq, and_true, true_and, and_false, false_and, List.getElem?_cons_zero, List.getElem?_cons_succ, List.set_cons_zero, List.set_cons_succ, List.replicate, List.length_cons, List.length_nil, List.cons_append, List.nil_append, Nat.reduceAdd, Nat.reduceSub, decide_eq_true_eq, decide_eq_false_iff_not, Bool.true_eq_false, Bool.false_eq_true, true_implies, false_implies, implies_true, Nat.reduceLT, exists_const, z_vB_inj, and_assoc, z_in_iff, oI2L, oL2I, Int.toNat_natCast, z_toNat0, Bool.not_eq_true', Bool.not_eq_false', ne_eq, Bool.not_true, Bool.not_false, Nat.add_zero, Int.add_zero, z_sl_s]
  refine qS_loop (fun i ρ h' => ρ = [vR c, vI v, vI (i : Int), vI (n : Int)] ∧ h' = h.set c (.inr (0, n, fun k => if k < i then v else f k))) n ?_ ?_ n 0 z_fuel _ _ ?_ ?_ ?_
  · rintro i _ _ hi ⟨rfl, rfl⟩
    simp only [q_arr (z_set_get hc) (show n < 2147483648 by omega), qS_nop, qS_seq, qS_set, qS_setJ, qS_if, qS_brk, qS_ret, qS_retV, qS_throw, qS_inc, qS_cl, qS_ast, qS_aop, qS_fst, qS_fop, qS_sw, qT_eC, qT_eCB, qT_eL, qT_eLJ, qT_eLR, qT_eLB, qT_e1, qT_e2, qT_bCmp, qT_bCmpJ, qT_bAnd, qT_bOr, qT_bNot, qT_eBI, qT_eIf, qT_eLd, qT_eLdR, qT_eLen, qT_eF, qT_eFR, qT_aN, qT_aS, qT_eCl, qT_eClR, qT_eClB, qT_some, qT_x, z_nx_N, z_nx_B, z_nx_R, z_nx_X, z_bk_N, z_bk_B, z_bk_R, z_bk_X, oAdd, oSub, oMul, oNeg, cLt, cLe, cGt, cGe, cEq, cNe, Option.some.injEq, Sum.inl.injEq, Sum.inr.injEq, Prod.mk.injEq, exists_eq_left, exists_eq_left', exists_eq_right, exists_and_left, reduceCtorEq, and_true, true_and, and_false, false_and, List.getElem?_cons_zero, List.getElem?_cons_succ, List.set_cons_zero, List.set_cons_succ, List.replicate, List.length_cons, List.length_nil, List.cons_append, List.nil_append, Nat.reduceAdd, Nat.reduceSub, decide_eq_true_eq, decide_eq_false_iff_not, Bool.true_eq_false, Bool.false_eq_true, true_implies, false_implies, implies_true, Nat.reduceLT, exists_const, z_vB_inj, and_assoc, z_in_iff, oI2L, oL2I, Int.toNat_natCast, z_toNat0, Bool.not_eq_true', Bool.not_eq_false', ne_eq, Bool.not_true, Bool.not_false, Nat.add_zero, Int.add_zero, z_sl_s]
    refine ⟨by omega, by omega, by omega, by omega, by omega, by omega, by omega, ?_, ?_⟩
    · simp
    · rw [List.set_set, z_upto f (fun _ => v)]
  · rintro _ _ ⟨rfl, rfl⟩
    simp only [qS_nop, qS_seq, qS_set, qS_setJ, qS_if, qS_brk, qS_ret, qS_retV, qS_throw, qS_inc, qS_cl, qS_ast, qS_aop, qS_fst, qS_fop, qS_sw, qT_eC, qT_eCB, qT_eL, qT_eLJ, qT_eLR, qT_eLB, qT_e1, qT_e2, qT_bCmp, qT_bCmpJ, qT_bAnd, qT_bOr, qT_bNot, qT_eBI, qT_eIf, qT_eLd, qT_eLdR, qT_eLen, qT_eF, qT_eFR, qT_aN, qT_aS, qT_eCl, qT_eClR, qT_eClB, qT_some, qT_x, z_nx_N, z_nx_B, z_nx_R, z_nx_X, z_bk_N, z_bk_B, z_bk_R, z_bk_X, oAdd, oSub, oMul, oNeg, cLt, cLe, cGt, cGe, cEq, cNe, Option.some.injEq, Sum.inl.injEq, Sum.inr.injEq, Prod.mk.injEq, exists_eq_left, exists_eq_left', exists_eq_right, exists_and_left, reduceCtorEq, and_true, true_and, and_false, false_and, List.getElem?_cons_zero, List.getElem?_cons_succ, List.set_cons_zero, List.set_cons_succ, List.replicate, List.length_cons, List.length_nil, List.cons_append, List.nil_append, Nat.reduceAdd, Nat.reduceSub, decide_eq_true_eq, decide_eq_false_iff_not, Bool.true_eq_false, Bool.false_eq_true, true_implies, false_implies, implies_true, Nat.reduceLT, exists_const, z_vB_inj, and_assoc, z_in_iff, oI2L, oL2I, Int.toNat_natCast, z_toNat0, Bool.not_eq_true', Bool.not_eq_false', ne_eq, Bool.not_true, Bool.not_false, Nat.add_zero, Int.add_zero, z_sl_s]
    refine ⟨by omega, by omega, by omega, by omega, by omega⟩
  · omega
  · exact z_fuel_lt (by omega)
  · refine ⟨rfl, ?_⟩
    simp only [Nat.not_lt_zero, if_false]
    rw [z_set_id hc]
set_option maxRecDepth 100000 in
theorem s_bits (i : Fin 32) (h : z_Hp) : m_J6_bitCount_0f7a4 [vI (i.val : Int)] h = some (.inl (some (vI (((List.range 5).filter (fun k => i.val.testBit k)).length : Nat))), h) := by
  unfold m_J6_bitCount_0f7a4
  apply q_body
  simp only [b_J6_bitCount_0f7a4, qS_nop, qS_seq, qS_set, qS_setJ, qS_if, qS_brk, qS_ret, qS_retV, qS_throw, qS_inc, qS_cl, qS_ast, qS_aop, qS_fst, qS_fop, qS_sw, qT_eC, qT_eCB, qT_eL, qT_eLJ, qT_eLR, qT_eLB, qT_e1, qT_e2, qT_bCmp, qT_bCmpJ, qT_bAnd, qT_bOr, qT_bNot, qT_eBI, qT_eIf, qT_eLd, qT_eLdR, qT_eLen, qT_eF, qT_eFR, qT_aN, qT_aS, qT_eCl, qT_eClR, qT_eClB, qT_some, qT_x, z_nx_N, z_nx_B, z_nx_R, z_nx_X, z_bk_N, z_bk_B, z_bk_R, z_bk_X, oAdd, oSub, oMul, oNeg, cLt, cLe, cGt, cGe, cEq, cNe, Option.some.injEq, Sum.inl.injEq, Sum.inr.injEq, Prod.mk.injEq, exists_eq_left, exists_eq_left', exists_eq_right, exists_and_left, reduceCtorEq, and_true, true_and, and_false, false_and, List.getElem?_cons_zero, List.getElem?_cons_succ, List.set_cons_zero, List.set_cons_succ, List.replicate, List.length_cons, List.length_nil, List.cons_append, List.nil_append, Nat.reduceAdd, Nat.reduceSub, decide_eq_true_eq, decide_eq_false_iff_not, Bool.true_eq_false, Bool.false_eq_true, true_implies, false_implies, implies_true, Nat.reduceLT, exists_const, z_vB_inj, and_assoc, z_in_iff, oI2L, oL2I, Int.toNat_natCast, z_toNat0, Bool.not_eq_true', Bool.not_eq_false', ne_eq, Bool.not_true, Bool.not_false, Nat.add_zero, Int.add_zero, z_sl_s]
  revert i
  decide +kernel
/-- a loop that counts, its locals by the count, its world by a sentence -/
theorem qS_fp {b : z_Ev Bool} {s u : z_St} {Q : z_Oc → z_Hp → Prop} {ρ : List z_V} {h : z_Hp} (ρf : Nat → List z_V) (P : Nat → z_Hp → Prop) (n : Nat) (e1 : ρ = ρf 0) (hP : P 0 h) (hn : n ≤ 10000000)
    (hs : ∀ k h', k < n → P k h' → qT (b (ρf k) h') (fun v h => v = true ∧ qS s (ρf k) h (z_bk (fun ρ h => qS u ρ h (z_nx (fun ρ h => ρ = ρf (k + 1) ∧ P (k + 1) h) Q)) Q)) (fun E h => Q (oX E) h))
    (he : ∀ h', P n h' → qT (b (ρf n) h') (fun v h => v = false ∧ Q (oN (ρf n)) h) (fun E h => Q (oX E) h)) : qS (sLoop b s u z_fuel) ρ h Q := by
  subst e1
  refine qS_loop (fun k ρ h => ρ = ρf k ∧ P k h) n ?_ ?_ n 0 z_fuel _ _ (by omega) (z_fuel_lt hn) ⟨rfl, hP⟩
  · rintro k _ h' hk ⟨rfl, hp⟩
    exact hs k h' hk hp
  · rintro _ h' ⟨rfl, hp⟩
    exact he h' hp
/-- the same world but for the cells of S -/
def z_fr (S : Nat → Prop) (h h' : z_Hp) : Prop := ∀ q, ¬ S q → h'[q]? = h[q]?
theorem z_fr.rf {S : Nat → Prop} {h : z_Hp} : z_fr S h h := fun _ _ => rfl
theorem z_fr.tr {S : Nat → Prop} {h h1 h2 : z_Hp} (a : z_fr S h h1) (b : z_fr S h1 h2) : z_fr S h h2 := fun q hq => (b q hq).trans (a q hq)
theorem z_fr.mono {S S' : Nat → Prop} {h h1 : z_Hp} (a : z_fr S h h1) (hS : ∀ q, S q → S' q) : z_fr S' h h1 := fun q hq => a q (fun w => hq (hS q w))
theorem z_fr.set {S : Nat → Prop} {h : z_Hp} {r : Nat} {x : z_Cl} (hr : S r) : z_fr S h (h.set r x) := fun q hq => z_set_ne (fun e => hq (e ▸ hr))
/-- a body that ends in some world -/
theorem q_bodyE {nL : Nat} {s : z_St} {L : List z_V} {h : z_Hp} {P : Option z_V ⊕ String → z_Hp → Prop} (H : qS s (L ++ List.replicate (nL - L.length) vU) h (fun oc h1 => ∃ o, (match o with | .inl r => oc = oR r | .inr E => oc = oX E) ∧ P o h1)) : ∃ o h', z_body nL s L h = some (o, h') ∧ P o h' := by
  unfold qS at H
  unfold z_body
  rcases hs : s (L ++ List.replicate (nL - L.length) vU) h with _ | ⟨oc, h1⟩
  · rw [hs] at H
    exact H.elim
  · rw [hs] at H
    obtain ⟨o, e1, hp⟩ := H
    cases o <;> (simp only at e1; subst e1; exact ⟨_, _, rfl, hp⟩)
theorem q_bodyV {nL : Nat} {s : z_St} {L : List z_V} {h : z_Hp} {r : Option z_V} {P : z_Hp → Prop} (H : qS s (L ++ List.replicate (nL - L.length) vU) h (fun oc h1 => oc = oR r ∧ P h1)) : ∃ h', z_body nL s L h = some (.inl r, h') ∧ P h' := by
  unfold qS at H
  unfold z_body
  rcases hs : s (L ++ List.replicate (nL - L.length) vU) h with _ | ⟨oc, h1⟩
  · rw [hs] at H
    exact H.elim
  · rw [hs] at H
    obtain ⟨rfl, hp⟩ := H
    exact ⟨h1, rfl, hp⟩
