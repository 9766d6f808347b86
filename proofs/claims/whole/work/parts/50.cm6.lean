/-! CHIPS: what the class's and the reference's reducing come to -/
theorem qS_wh {b : z_Ev Bool} {s u : z_St} {Q : z_Oc → z_Hp → Prop} (I : Nat → List z_V → z_Hp → Prop) (hs : ∀ m ρ h, I m ρ h → qT (b ρ h) (fun v h => (v = true → ∃ m', m = m' + 1 ∧ qS s ρ h (z_bk (fun ρ h => qS u ρ h (z_nx (fun ρ h => I m' ρ h) Q)) Q)) ∧ (v = false → Q (oN ρ) h)) (fun E h => Q (oX E) h)) : ∀ (m N : Nat) (ρ : List z_V) (h : z_Hp), m < N → I m ρ h → qS (sLoop b s u N) ρ h Q := by
  intro m
  induction m using Nat.strongRecOn with
  | _ m ih =>
    intro N ρ h hN hI
    obtain ⟨M, rfl⟩ : ∃ M, N = M + 1 := ⟨N - 1, by omega⟩
    rw [qS_loop_step]
    have := hs m ρ h hI
    rcases hb : b ρ h with _ | ⟨v | E, h1⟩
    · rw [hb] at this; exact this
    · rw [hb] at this
      obtain ⟨t, f⟩ := this
      refine ⟨fun q => ?_, f⟩
      obtain ⟨m', rfl, q⟩ := t q
      unfold qS at q ⊢
      rcases hsr : s ρ h1 with _ | ⟨o, h2⟩
      · rw [hsr] at q; exact q
      · rw [hsr] at q
        rcases o with ρ1 | (ρ1 | o)
        · simp only [qO, z_bk] at q ⊢
          rcases hu : u ρ1 h2 with _ | ⟨o2, h3⟩
          · rw [hu] at q; exact q
          · rw [hu] at q
            rcases o2 with ρ2 | o2
            · exact ih m' (by omega) M ρ2 h3 (by omega) q
            · exact q
        · exact q
        · exact q
    · rw [hb] at this; exact this
theorem nAt.redW {h : z_Hp} {B P D : Nat → Nat → Int} {C N : Nat → Int} (a : nAt h B C N P D) {q : Nat} (c : cOk B q) {i : Nat} (hi : i < 5) (hN : ∀ k, k < 5 → N k = (nNr B q k : Int)) (hV : nVb (P i) 126) : ∃ W m, m_X3_reduce [vR 8, vR (18 + i)] h = some (.inl none, h.set (18 + i) (.inr (0, 5, W))) ∧ hIn B q (P i) W m ∧ m ≤ 1000000 ∧ cRd B q W := by
  obtain ⟨r1, r2, m, r3, r4, r5⟩ := nRed c hV
  exact ⟨_, m, s_reduce a c.1.bd hi (fun k hk => ⟨nNr_b c.2.1 k, hN k hk⟩) r1 r2, r3, r4, r5⟩
theorem rOw_no {B : Nat → Nat → Int} {V : Nat → Int} {x : Nat} : ∀ n, (rOw B V x n = -1 ∧ ∀ k, k < n → ¬ (k ≠ x ∧ nHv B k ∧ V k < 0)) ∨ ∃ k, k < n ∧ rOw B V x n = (k : Int) ∧ k ≠ x ∧ nHv B k ∧ V k < 0
  | 0 => Or.inl ⟨rfl, fun k hk => absurd hk (Nat.not_lt_zero k)⟩
  | n + 1 => by
    unfold rOw
    split
    · next q =>
      exact Or.inr ⟨n, by omega, rfl, (z_dec_iff _).mp q⟩
    · next q =>
      rcases rOw_no (B := B) (V := V) (x := x) n with ⟨e, c⟩ | ⟨k, hk, c⟩
      · refine Or.inl ⟨e, fun k hk => ?_⟩
        rcases Nat.lt_succ_iff_lt_or_eq.mp hk with l | rfl
        · exact c k l
        · exact fun w => q ((z_dec_iff _).mpr w)
      · exact Or.inr ⟨k, by omega, c⟩
def ck1 (k : Nat) : Nat → Int := fun x => if x = k then 1 else 0
theorem cL_k {B : Nat → Nat → Int} (h : gOk B) {k u : Nat} (hk : k < 5) (hu : u < 5) : cL B (ck1 k) u = (if u = k then nAll B k else 0) - B k u := by
  have d := (h u u hu hu).2.2.2 rfl
  have sy := (h k u hk hu).2.2.1
  rw [nAll_5]
  simp only [cL, ck1, s5]
  rcases (show k = 0 ∨ k = 1 ∨ k = 2 ∨ k = 3 ∨ k = 4 by omega) with rfl | rfl | rfl | rfl | rfl <;> rcases (show u = 0 ∨ u = 1 ∨ u = 2 ∨ u = 3 ∨ u = 4 by omega) with rfl | rfl | rfl | rfl | rfl <;> simp <;> omega
theorem rGi_n {B : Nat → Nat → Int} {v : Nat} (t : Int) (W : Nat → Int) {u : Nat} : ∀ n, n ≤ 5 → rGi B v t W n u = W u + (if u < n then t * B v u else 0) - (if u = v then t * nCe B v 31 n else 0)
  | 0, _ => by simp [rGi, nCe]
  | n + 1, hn => by
    have ih := rGi_n (B := B) (v := v) t W (u := u) n (by omega)
    have e := nCe_all B v (show n < 5 by omega)
    unfold rGi
    by_cases h1 : u = v
    · subst h1
      rw [if_pos rfl] at ih ⊢
      rw [e, Int.mul_add]
      by_cases h2 : u = n
      · subst h2
        rw [if_neg (Nat.lt_irrefl _)] at ih
        rw [if_pos (by omega)]
        simp only [z_up, if_true]
        omega
      · have h3 : (u < n + 1) = (u < n) := propext ⟨fun _ => by omega, fun _ => by omega⟩
        simp only [z_up, if_true, h2, if_false, h3]
        omega
    · rw [if_neg h1] at ih ⊢
      by_cases h2 : u = n
      · subst h2
        rw [if_neg (Nat.lt_irrefl _)] at ih
        rw [if_pos (by omega)]
        simp only [z_up, if_true, h1, if_false]
        omega
      · have h3 : (u < n + 1) = (u < n) := propext ⟨fun _ => by omega, fun _ => by omega⟩
        simp only [z_up, h1, h2, if_false, h3]
        omega
theorem rGi_5 {B : Nat → Nat → Int} (h : gOk B) {v : Nat} (hv : v < 5) (t : Int) (W : Nat → Int) {u : Nat} (hu : u < 5) : rGi B v t W 5 u = W u - t * cL B (ck1 v) u := by
  rw [rGi_n t W 5 (by omega), if_pos hu, cL_k h hv hu, Int.mul_sub]
  by_cases h1 : u = v
  · rw [if_pos h1, if_pos h1]
    show _ - t * nAll B v = _
    omega
  · rw [if_neg h1, if_neg h1]
    omega
section RR
variable {S : Nat → Nat → Int}
theorem rE_u {a : Nat} {f : Nat → Int} (h : 98 ≠ a) : rE (k_u S a f) = rE S := by
  unfold rE
  rw [k_u_n h]
theorem ck1_b (k x : Nat) : 0 ≤ ck1 k x := by
  unfold ck1
  split <;> omega
theorem rf_reduces {q : Nat} (c : cOk (rE S) q) (hV : nVb (S 100) 126) : ∃ W m, m_X6_reduces [vR 85, vI (q : Int)] (k_W S) = some (.inl none, k_W (k_u S 100 W)) ∧ hIn (rE S) q (S 100) W m ∧ m ≤ 1000000 ∧ cRd (rE S) q W := by
  have hq := c.2.1
  have hB := c.1.bd
  have ow : ∀ W, nVb W 2000000000 → m_X6_owing [vR 85, vI (q : Int)] (k_W (k_u S 100 W)) = some (.inl (some (vI (rOw (rE S) W q 5))), k_W (k_u S 100 W)) := fun W hW => by
    have := rf_owing (S := k_u S 100 W) hq (by rw [rE_u (by decide)]; exact hB) (by rw [k_u_s]; exact hW)
    rwa [rE_u (by decide), k_u_s] at this
  have ub : ∀ W, nVb W 2000000000 → m_X6_unburnt [vR 85, vI (q : Int)] (k_W (k_u S 100 W)) = some (.inl (some (vI ((31 - rBr (rE S) W q 5 : Nat) : Int))), k_W (k_u S 100 W)) := fun W hW => by
    have := rf_unburnt (S := k_u S 100 W) hq (by rw [rE_u (by decide)]; exact hB) (by rw [k_u_s]; exact hW)
    rwa [rE_u (by decide), k_u_s] at this
  have gi : ∀ (W : Nat → Int) (k : Nat) (t : Int), k < 5 → m_X6_gives [vR 85, vI (k : Int), vI t] (k_W (k_u S 100 W)) = some (.inl none, k_W (k_u S 100 (rGi (rE S) k t W 5))) := fun W k t hk => by
    have := rf_gives (S := k_u S 100 W) hk t
    rwa [rE_u (by decide), k_u_s, k_u_u] at this
  have bb : ∀ (b W : Nat → Int), (∀ v, v < 5 → 0 ≤ b v ∧ b v ≤ 126 * cg (cFar (rE S) q) v) → (∀ v, v < 5 → W v = S 100 v + cL (rE S) b v) → nVb W 2000000000 := fun b W hb hW v hv => by
    have := cL_bd c.1 (K := 504000) (fun v hv => ⟨(hb v hv).1, by have := (hb v hv).2; have := cG_ub (cFar (rE S) q) (cFar (rE S) q v); unfold cg at *; omega⟩) hv
    have := hV v hv
    rw [hW v hv]
    omega
  generalize hBe : rE S = B at *
  generalize hVe : S 100 = V at *
  have Sid : k_W S = k_W (k_u S 100 V) := by rw [← hVe, k_u_id]
  suffices H : qS b_X6_reduces [vR 85, vI (q : Int), vU, vU] (k_W (k_u S 100 V)) (fun oc h1 => oc = oR none ∧ ∃ W m, h1 = k_W (k_u S 100 W) ∧ hIn B q V W m ∧ m ≤ 1000000 ∧ cRd B q W) by
    obtain ⟨h', e, W, m, rfl, r⟩ := q_bodyV (nL := 4) (s := b_X6_reduces) (L := [vR 85, vI (q : Int)]) (r := none) (P := fun h1 => ∃ W m, h1 = k_W (k_u S 100 W) ∧ hIn B q V W m ∧ m ≤ 1000000 ∧ cRd B q W) (h := k_W (k_u S 100 V)) H
    refine ⟨W, m, ?_, r⟩
    unfold m_X6_reduces
    rw [k_v85, Sid]
    exact e
  have hV2 : nVb V 2000000000 := fun v hv => by have := hV v hv; omega
  simp only [b_X6_reduces, ow V hV2, qS_nop, qS_seq, qS_set, qS_setJ, qS_if, qS_brk, qS_ret, qS_retV, qS_throw, qS_inc, qS_cl, qS_ast, qS_aop, qS_fst, qS_fop, qS_sw, qT_eC, qT_eCB, qT_eL, qT_eLJ, qT_eLR, qT_eLB, qT_e1, qT_e2, qT_bCmp, qT_bCmpJ, qT_bAnd, qT_bOr, qT_bNot, qT_eBI, qT_eIf, qT_eLd, qT_eLdR, qT_eLen, qT_eF, qT_eFR, qT_aN, qT_aS, qT_eCl, qT_eClR, qT_eClB, qT_some, qT_x, z_nx_N, z_nx_B, z_nx_R, z_nx_X, z_bk_N, z_bk_B, z_bk_R, z_bk_X, oAdd, oSub, oMul, oNeg, cLt, cLe, cGt, cGe, cEq, cNe, Option.some.injEq, Sum.inl.injEq, Sum.inr.injEq, Prod.mk.injEq, exists_eq_left, exists_eq_left', exists_eq_right, exists_and_left, reduceCtorEq, and_true, true_and, and_false, false_and, List.getElem?_cons_zero, List.getElem?_cons_succ, List.set_cons_zero, List.set_cons_succ, List.replicate, List.length_cons, List.length_nil, List.cons_append, List.nil_append, Nat.reduceAdd, Nat.reduceSub, decide_eq_true_eq, decide_eq_false_iff_not, Bool.true_eq_false, Bool.false_eq_true, true_implies, false_implies, implies_true, Nat.reduceLT, exists_const, z_vB_inj, and_assoc, z_in_iff, oI2L, oL2I, Int.toNat_natCast, z_toNat0, Bool.not_eq_true', Bool.not_eq_false', ne_eq, Bool.not_true, Bool.not_false, Nat.add_zero, Int.add_zero, z_sl_s]
  refine qS_wh (fun m ρ h' => ∃ b W a, h' = k_W (k_u S 100 W) ∧ (∀ v, v < 5 → 0 ≤ b v ∧ b v ≤ 126 * cg (cFar B q) v) ∧ (∀ v, v < 5 → W v = V v + cL B b v) ∧ s5 (fun v => 126 * cg (cFar B q) v - b v) ≤ (m : Int) ∧ ρ = [vR 85, vI (q : Int), vI (rOw B W q 5), a]) ?_ 2600000 z_fuel _ _ (z_fuel_lt (by decide)) ⟨fun _ => 0, V, _, rfl, fun v _ => ⟨Int.le_refl _, by have := cg_nn (B := B) (q := q) v; dsimp only; omega⟩, fun v _ => by rw [cL_c]; omega, ?_, rfl⟩
  · rintro m ρ h' ⟨b, W, a, rfl, hb, hW, hm, rfl⟩
    have hW2 := bb b W hb hW
    rcases rOw_no (B := B) (V := W) (x := q) 5 with ⟨e, no⟩ | ⟨k, hk, e, hne, hn, hk0⟩
    · rw [e]
      have st : hIn B q V W (126 * 7933) := hIn.st c (by decide) hV hb hW (fun v hv hne hn => by
        rcases Int.lt_or_le (W v) 0 with l | l
        · exact absurd ⟨hne, hn, l⟩ (no v hv)
        · exact l)
      simp only [ub W hW2, qS_nop, qS_seq, qS_set, qS_setJ, qS_if, qS_brk, qS_ret, qS_retV, qS_throw, qS_inc, qS_cl, qS_ast, qS_aop, qS_fst, qS_fop, qS_sw, qT_eC, qT_eCB, qT_eL, qT_eLJ, qT_eLR, qT_eLB, qT_e1, qT_e2, qT_bCmp, qT_bCmpJ, qT_bAnd, qT_bOr, qT_bNot, qT_eBI, qT_eIf, qT_eLd, qT_eLdR, qT_eLen, qT_eF, qT_eFR, qT_aN, qT_aS, qT_eCl, qT_eClR, qT_eClB, qT_some, qT_x, z_nx_N, z_nx_B, z_nx_R, z_nx_X, z_bk_N, z_bk_B, z_bk_R, z_bk_X, oAdd, oSub, oMul, oNeg, cLt, cLe, cGt, cGe, cEq, cNe, Option.some.injEq, Sum.inl.injEq, Sum.inr.injEq, Prod.mk.injEq, exists_eq_left, exists_eq_left', exists_eq_right, exists_and_left, reduceCtorEq, and_true, true_and, and_false, false_and, List.getElem?_cons_zero, List.getElem?_cons_succ, List.set_cons_zero, List.set_cons_succ, List.replicate, List.length_cons, List.length_nil, List.cons_append, List.nil_append, Nat.reduceAdd, Nat.reduceSub, decide_eq_true_eq, decide_eq_false_iff_not, Bool.true_eq_false, Bool.false_eq_true, true_implies, false_implies, implies_true, Nat.reduceLT, exists_const, z_vB_inj, and_assoc, z_in_iff, oI2L, oL2I, Int.toNat_natCast, z_toNat0, Bool.not_eq_true', Bool.not_eq_false', ne_eq, Bool.not_true, Bool.not_false, Nat.add_zero, Int.add_zero, z_sl_s]
      refine ⟨by decide, by decide, by decide, by decide, fun w => absurd trivial w, fun _ => ?_⟩
      refine qS_wh (fun m ρ h' => ∃ W a, h' = k_W (k_u S 100 W) ∧ hIn B q V W (m : Int) ∧ (m : Int) ≤ 1000000 ∧ ρ = [vR 85, vI (q : Int), vI ((31 - rBr B W q 5 : Nat) : Int), a]) ?_ 999558 z_fuel _ _ (z_fuel_lt (by decide)) ⟨W, _, rfl, st, by decide, rfl⟩
      rintro m ρ h' ⟨W, a, rfl, st, hm, rfl⟩
      have lg := rBr_lg (B := B) (V := W) hq
      have rd := rBr_rd (B := B) (V := W) c.1 hq st.2.1
      have hU : 31 - rBr B W q 5 < 32 := by omega
      generalize 31 - rBr B W q 5 = U at lg rd hU ⊢
      simp only [qS_nop, qS_seq, qS_set, qS_setJ, qS_if, qS_brk, qS_ret, qS_retV, qS_throw, qS_inc, qS_cl, qS_ast, qS_aop, qS_fst, qS_fop, qS_sw, qT_eC, qT_eCB, qT_eL, qT_eLJ, qT_eLR, qT_eLB, qT_e1, qT_e2, qT_bCmp, qT_bCmpJ, qT_bAnd, qT_bOr, qT_bNot, qT_eBI, qT_eIf, qT_eLd, qT_eLdR, qT_eLen, qT_eF, qT_eFR, qT_aN, qT_aS, qT_eCl, qT_eClR, qT_eClB, qT_some, qT_x, z_nx_N, z_nx_B, z_nx_R, z_nx_X, z_bk_N, z_bk_B, z_bk_R, z_bk_X, oAdd, oSub, oMul, oNeg, cLt, cLe, cGt, cGe, cEq, cNe, Option.some.injEq, Sum.inl.injEq, Sum.inr.injEq, Prod.mk.injEq, exists_eq_left, exists_eq_left', exists_eq_right, exists_and_left, reduceCtorEq, and_true, true_and, and_false, false_and, List.getElem?_cons_zero, List.getElem?_cons_succ, List.set_cons_zero, List.set_cons_succ, List.replicate, List.length_cons, List.length_nil, List.cons_append, List.nil_append, Nat.reduceAdd, Nat.reduceSub, decide_eq_true_eq, decide_eq_false_iff_not, Bool.true_eq_false, Bool.false_eq_true, true_implies, false_implies, implies_true, Nat.reduceLT, exists_const, z_vB_inj, and_assoc, z_in_iff, oI2L, oL2I, Int.toNat_natCast, z_toNat0, Bool.not_eq_true', Bool.not_eq_false', ne_eq, Bool.not_true, Bool.not_false, Nat.add_zero, Int.add_zero, z_sl_s]
      refine ⟨by omega, by omega, by omega, by omega, fun p => ?_, fun p => ⟨W, rfl, (m : Int), st, hm, rd (by omega)⟩⟩
      have fire := fun (W' : Nat → Int) (hW' : ∀ v, v < 5 → W' v = nFi B W U 1 v) => st.fire c hU lg.1 (by omega) (t := 1) (by decide) (fun v hv mv => by have := lg.2 v hv mv; omega) hW'
      have m1 : 1 ≤ m := by
        have f := fire (fun v => nFi B W U 1 v) (fun v _ => rfl)
        have f1 := (f.phi c).2
        have f2 := f.2.2.1
        dsimp only at f1 f2
        omega
      refine ⟨m - 1, by omega, ?_⟩
      refine qS_loop (fun k ρ h' => ∃ W', h' = k_W (k_u S 100 W') ∧ (∀ v, v < 5 → W' v = W v - cL B (fun x => if x < k then ci1 U x else 0) v) ∧ ρ = [vR 85, vI (q : Int), vI (U : Int), vI (k : Int)]) 5 ?_ ?_ 5 0 z_fuel _ _ (by omega) (z_fuel_lt (by omega)) ⟨W, rfl, fun v hv => ?_, rfl⟩
      · rintro k ρ h' hk ⟨W', rfl, hW', rfl⟩
        have w := i_bits (s := (U : Int)) ⟨by omega, by omega⟩ hk
        have w2 := Classical.choose_spec w
        generalize Classical.choose w = y at w2
        have w3 := w2.1
        have w4 := w2.2
        have ez : (U : Int) / 2 ^ k % 2 = ci1 U k := by
          unfold ci1
          by_cases mk : m5 U k
          · rw [if_pos mk]
            exact mk
          · rw [if_neg mk]
            have : ¬ (U : Int) / 2 ^ k % 2 = 1 := mk
            omega
        rw [ez] at w4
        simp only [w3, w4, gi W' k _ hk, qS_nop, qS_seq, qS_set, qS_setJ, qS_if, qS_brk, qS_ret, qS_retV, qS_throw, qS_inc, qS_cl, qS_ast, qS_aop, qS_fst, qS_fop, qS_sw, qT_eC, qT_eCB, qT_eL, qT_eLJ, qT_eLR, qT_eLB, qT_e1, qT_e2, qT_bCmp, qT_bCmpJ, qT_bAnd, qT_bOr, qT_bNot, qT_eBI, qT_eIf, qT_eLd, qT_eLdR, qT_eLen, qT_eF, qT_eFR, qT_aN, qT_aS, qT_eCl, qT_eClR, qT_eClB, qT_some, qT_x, z_nx_N, z_nx_B, z_nx_R, z_nx_X, z_bk_N, z_bk_B, z_bk_R, z_bk_X, oAdd, oSub, oMul, oNeg, cLt, cLe, cGt, cGe, cEq, cNe, Option.some.injEq, Sum.inl.injEq, Sum.inr.injEq, Prod.mk.injEq, exists_eq_left, exists_eq_left', exists_eq_right, exists_and_left, reduceCtorEq, and_true, true_and, and_false, false_and, List.getElem?_cons_zero, List.getElem?_cons_succ, List.set_cons_zero, List.set_cons_succ, List.replicate, List.length_cons, List.length_nil, List.cons_append, List.nil_append, Nat.reduceAdd, Nat.reduceSub, decide_eq_true_eq, decide_eq_false_iff_not, Bool.true_eq_false, Bool.false_eq_true, true_implies, false_implies, implies_true, Nat.reduceLT, exists_const, z_vB_inj, and_assoc, z_in_iff, oI2L, oL2I, Int.toNat_natCast, z_toNat0, Bool.not_eq_true', Bool.not_eq_false', ne_eq, Bool.not_true, Bool.not_false, Nat.add_zero, Int.add_zero, z_sl_s]
        refine ⟨by omega, by omega, by omega, by omega, by omega, _, rfl, fun v hv => ?_, rfl⟩
        rw [rGi_5 c.1 hk _ W' hv, hW' v hv]
        have : cL B (fun x => if x < k + 1 then ci1 U x else 0) v = cL B (fun x => if x < k then ci1 U x else 0) v + ci1 U k * cL B (ck1 k) v := by
          rw [← cL_mul, ← cL_add]
          congr 1
          funext x
          unfold ck1
          by_cases hx : x = k
          · subst hx
            simp
          · by_cases hx2 : x < k
            · simp [hx, hx2, show x < k + 1 by omega]
            · simp [hx, hx2, show ¬ x < k + 1 by omega]
        omega
      · rintro ρ h' ⟨W', rfl, hW', rfl⟩
        have f := fire W' (fun v hv => by
          rw [nFi_L hU, hW' v hv, Int.one_mul]
          congr 1
          exact s5_eq (fun u hu => by simp only [if_pos hv, if_pos hu]))
        have hW2 : nVb W' 2000000000 := fun v hv => by have := f.bd c (by omega) hV v hv; omega
        simp only [ub W' hW2, qS_nop, qS_seq, qS_set, qS_setJ, qS_if, qS_brk, qS_ret, qS_retV, qS_throw, qS_inc, qS_cl, qS_ast, qS_aop, qS_fst, qS_fop, qS_sw, qT_eC, qT_eCB, qT_eL, qT_eLJ, qT_eLR, qT_eLB, qT_e1, qT_e2, qT_bCmp, qT_bCmpJ, qT_bAnd, qT_bOr, qT_bNot, qT_eBI, qT_eIf, qT_eLd, qT_eLdR, qT_eLen, qT_eF, qT_eFR, qT_aN, qT_aS, qT_eCl, qT_eClR, qT_eClB, qT_some, qT_x, z_nx_N, z_nx_B, z_nx_R, z_nx_X, z_bk_N, z_bk_B, z_bk_R, z_bk_X, oAdd, oSub, oMul, oNeg, cLt, cLe, cGt, cGe, cEq, cNe, Option.some.injEq, Sum.inl.injEq, Sum.inr.injEq, Prod.mk.injEq, exists_eq_left, exists_eq_left', exists_eq_right, exists_and_left, reduceCtorEq, and_true, true_and, and_false, false_and, List.getElem?_cons_zero, List.getElem?_cons_succ, List.set_cons_zero, List.set_cons_succ, List.replicate, List.length_cons, List.length_nil, List.cons_append, List.nil_append, Nat.reduceAdd, Nat.reduceSub, decide_eq_true_eq, decide_eq_false_iff_not, Bool.true_eq_false, Bool.false_eq_true, true_implies, false_implies, implies_true, Nat.reduceLT, exists_const, z_vB_inj, and_assoc, z_in_iff, oI2L, oL2I, Int.toNat_natCast, z_toNat0, Bool.not_eq_true', Bool.not_eq_false', ne_eq, Bool.not_true, Bool.not_false, Nat.add_zero, Int.add_zero, z_sl_s]
        refine ⟨by omega, by omega, by omega, by omega, by omega, W', rfl, ?_, by omega, _, rfl⟩
        rw [show ((m - 1 : Nat) : Int) = (m : Int) - 1 by omega]
        exact f
      · simp only [Nat.not_lt_zero, if_false]
        rw [cL_c]
        omega
    · rw [e]
      have hb2 : b k < 126 * cg (cFar B q) k := by
        refine Classical.byContradiction (fun n => ?_)
        have eb : b k = 126 * cg (cFar B q) k := by have := (hb k hk).2; omega
        have g := cg_1 c hk hn hne
        have lo := cL_lo c.1 (cFar_lv c.1 hq) hk g.1 g.2.1
        have : 126 * cL B (cg (cFar B q)) k ≤ cL B b k := by
          rw [← cL_mul]
          refine s5_le (fun u hu => Int.mul_le_mul_of_nonneg_left ?_ (c.1 k u hk hu).1)
          have := (hb u hu).2
          dsimp only
          omega
        have h1 := hW k hk
        have h2 := hV k hk
        omega
      have hb' : ∀ v, v < 5 → 0 ≤ b v + ck1 k v ∧ b v + ck1 k v ≤ 126 * cg (cFar B q) v := fun v hv => by
        have := hb v hv
        unfold ck1
        split
        · next e => subst e; omega
        · omega
      have hW' : ∀ v, v < 5 → rGi B k (-1) W 5 v = V v + cL B (fun x => b x + ck1 k x) v := fun v hv => by
        rw [rGi_5 c.1 hk (-1) W hv, cL_add, hW v hv]
        omega
      have hs : s5 (fun v => 126 * cg (cFar B q) v - (b v + ck1 k v)) = s5 (fun v => 126 * cg (cFar B q) v - b v) - 1 := by
        simp only [s5, ck1]
        rcases (show k = 0 ∨ k = 1 ∨ k = 2 ∨ k = 3 ∨ k = 4 by omega) with rfl | rfl | rfl | rfl | rfl <;> simp <;> omega
      have h0 : 0 ≤ s5 (fun v => 126 * cg (cFar B q) v - (b v + ck1 k v)) := by
        have : s5 (fun _ => (0 : Int)) ≤ s5 (fun v => 126 * cg (cFar B q) v - (b v + ck1 k v)) := s5_le (fun v hv => by have := (hb' v hv).2; omega)
        have e : s5 (fun _ => (0 : Int)) = 0 := rfl
        omega
      have o' := ow _ (bb _ _ hb' hW')
      simp only [gi W k (-1) hk, o', qS_nop, qS_seq, qS_set, qS_setJ, qS_if, qS_brk, qS_ret, qS_retV, qS_throw, qS_inc, qS_cl, qS_ast, qS_aop, qS_fst, qS_fop, qS_sw, qT_eC, qT_eCB, qT_eL, qT_eLJ, qT_eLR, qT_eLB, qT_e1, qT_e2, qT_bCmp, qT_bCmpJ, qT_bAnd, qT_bOr, qT_bNot, qT_eBI, qT_eIf, qT_eLd, qT_eLdR, qT_eLen, qT_eF, qT_eFR, qT_aN, qT_aS, qT_eCl, qT_eClR, qT_eClB, qT_some, qT_x, z_nx_N, z_nx_B, z_nx_R, z_nx_X, z_bk_N, z_bk_B, z_bk_R, z_bk_X, oAdd, oSub, oMul, oNeg, cLt, cLe, cGt, cGe, cEq, cNe, Option.some.injEq, Sum.inl.injEq, Sum.inr.injEq, Prod.mk.injEq, exists_eq_left, exists_eq_left', exists_eq_right, exists_and_left, reduceCtorEq, and_true, true_and, and_false, false_and, List.getElem?_cons_zero, List.getElem?_cons_succ, List.set_cons_zero, List.set_cons_succ, List.replicate, List.length_cons, List.length_nil, List.cons_append, List.nil_append, Nat.reduceAdd, Nat.reduceSub, decide_eq_true_eq, decide_eq_false_iff_not, Bool.true_eq_false, Bool.false_eq_true, true_implies, false_implies, implies_true, Nat.reduceLT, exists_const, z_vB_inj, and_assoc, z_in_iff, oI2L, oL2I, Int.toNat_natCast, z_toNat0, Bool.not_eq_true', Bool.not_eq_false', ne_eq, Bool.not_true, Bool.not_false, Nat.add_zero, Int.add_zero, z_sl_s]
      refine ⟨by omega, by omega, by omega, by omega, fun _ => ⟨m - 1, by omega, _, _, rfl, hb', hW', ?_, _, rfl⟩, fun w => absurd id w⟩
      rw [hs]
      omega
  · have : s5 (fun v => 126 * cg (cFar B q) v - 0) ≤ s5 (fun _ => 504000) := s5_le (fun v hv => by
      have := cG_ub (cFar B q) (cFar B q v)
      unfold cg
      omega)
    have e : s5 (fun _ => (504000 : Int)) = 2520000 := rfl
    simp only
    omega
end RR
