/-! THE LAW: roots -/
section LI
def loF (F : Nat → Int) : Nat → Int
  | 0 => -1
  | k + 1 => if F k ≠ INF ∧ loF F k < 0 then (k : Int) else loF F k
def hiF (F : Nat → Int) : Nat → Int
  | 0 => -1
  | k + 1 => if F k ≠ INF then (k : Int) else hiF F k
theorem loF_b (F : Nat → Int) : ∀ n : Nat, -1 ≤ loF F n ∧ loF F n < n + 1 ∧ (loF F n < 0 → ∀ k, k < n → F k = INF) ∧ (0 ≤ loF F n → loF F n < n ∧ F (loF F n).toNat ≠ INF ∧ ∀ k, k < (loF F n).toNat → F k = INF)
  | 0 => ⟨by show (-1 : Int) ≤ -1; decide, by show (-1 : Int) < ((0 : Nat) : Int) + 1; decide, fun _ k h => absurd h (Nat.not_lt_zero k), fun h => absurd h (by show ¬ (0 : Int) ≤ -1; decide)⟩
  | n + 1 => by
    have ih := loF_b F n
    unfold loF
    split
    · next q =>
      refine ⟨by omega, by omega, fun h => by omega, fun _ => ⟨by omega, by rw [Int.toNat_natCast]; exact q.1, fun k hk => ih.2.2.1 q.2 k (by omega)⟩⟩
    · next q =>
      refine ⟨ih.1, by omega, fun h k hk => ?_, fun h => ?_⟩
      · rcases Nat.lt_succ_iff_lt_or_eq.mp hk with l | l
        · exact ih.2.2.1 h k l
        · subst l
          exact Classical.not_not.mp (fun w => q ⟨w, h⟩)
      · have := ih.2.2.2 h
        exact ⟨by omega, this.2⟩
theorem hiF_b (F : Nat → Int) : ∀ n : Nat, -1 ≤ hiF F n ∧ hiF F n < n + 1 ∧ (hiF F n < 0 → ∀ k, k < n → F k = INF) ∧ (0 ≤ hiF F n → hiF F n < n ∧ F (hiF F n).toNat ≠ INF ∧ ∀ k, (hiF F n).toNat < k → k < n → F k = INF)
  | 0 => ⟨by show (-1 : Int) ≤ -1; decide, by show (-1 : Int) < ((0 : Nat) : Int) + 1; decide, fun _ k h => absurd h (Nat.not_lt_zero k), fun h => absurd h (by show ¬ (0 : Int) ≤ -1; decide)⟩
  | n + 1 => by
    have ih := hiF_b F n
    unfold hiF
    split
    · next q =>
      refine ⟨by omega, by omega, fun h => by omega, fun _ => ⟨by omega, by rw [Int.toNat_natCast]; exact q, fun k h1 h2 => by omega⟩⟩
    · next q =>
      have q' := Classical.not_not.mp q
      refine ⟨ih.1, by omega, fun h k hk => ?_, fun h => ?_⟩
      · rcases Nat.lt_succ_iff_lt_or_eq.mp hk with l | l
        · exact ih.2.2.1 h k l
        · subst l
          exact q'
      · have := ih.2.2.2 h
        refine ⟨by omega, this.2.1, fun k h1 h2 => ?_⟩
        rcases Nat.lt_succ_iff_lt_or_eq.mp h2 with l | l
        · exact this.2.2 k h1 l
        · subst l
          exact q'
/-- the two corners of a root -/
noncomputable def pUp (F : Nat → Int) (r : Nat) : Nat := (pU F r).toNat
theorem pU_f {F : Nat → Int} {r : Nat} (h : (r : Int) + 1 < pCors F 9) : pU F r = (pUp F r : Int) ∧ pU F (r + 1) = (pUp F (r + 1) : Int) ∧ pUp F (r + 1) < pUp F r ∧ pUp F r < 9 ∧ pCor F (pUp F (r + 1)) ∧ pCor F (pUp F r) ∧ ∀ j, pUp F (r + 1) < j → j < pUp F r → ¬ pCor F j := by
  obtain ⟨lo, up, h1, h2, h3, h4, h5, h6, h7⟩ := pU_s h
  unfold pUp
  rw [h1, h2, Int.toNat_natCast, Int.toNat_natCast]
  exact ⟨rfl, rfl, h3, h4, h5, h6, h7⟩
noncomputable def rtA (F : Nat → Int) (r : Nat) : Int := rAb F (pUp F (r + 1)) (pUp F r)
noncomputable def rtB (F : Nat → Int) (r : Nat) : Int := rBl F (pUp F (r + 1)) (pUp F r)
noncomputable def rtN (F : Nat → Int) (r : Nat) : Int := (pUp F r : Int) - pUp F (r + 1)
theorem r_all {F : Nat → Int} (pF : pOk F) {r : Nat} (h : (r : Int) + 1 < pCors F 9) : (1 ≤ rtB F r ∧ rtB F r ≤ 8) ∧ (-19998 ≤ rtA F r ∧ rtA F r ≤ 19998) ∧ (1 ≤ rtN F r ∧ rtN F r ≤ 8) ∧ (rtN F r).tmod (rtB F r) = 0 ∧ (rtN F r).tdiv (rtB F r) * rtA F r = F (pUp F (r + 1)) - F (pUp F r) ∧ 1 < (lwT (rIt F (rtA F r) (rtB F r)) 9).2 := by
  obtain ⟨h1, h2, h3, h4, h5, h6, h7⟩ := pU_f h
  have b := rBl_b pF h3 h4 h5.1 h6.1
  have t := rFr_t (f := F) h3
  exact ⟨b.1, b.2, by unfold rtN; omega, t.1, t.2, rTies pF h3 h4 h5 h6 h7⟩
theorem r_rise {F : Nat → Int} {r : Nat} (h : (r : Int) + 1 + 1 < pCors F 9) : rtA F r * rtB F (r + 1) < rtA F (r + 1) * rtB F r := by
  obtain ⟨h1, h2, h3, h4, h5, h6, h7⟩ := pU_f (F := F) (r := r) (by omega)
  obtain ⟨k1, k2, k3, k4, k5, k6, k7⟩ := pU_f (F := F) (r := r + 1) (by omega)
  exact rRise k3 h3 h4 k5 k6 h6
end LI
section LI2
variable {P : Nat → Int} {S : Nat → Nat → Int} {i : Nat}
theorem f_roo (hi : i < 4) {F : Nat → Int} (hF : S (50 + 9 * i) = F) (pF : pOk F) {r : Nat} (h : (r : Int) + 1 < pCors F 9) {X : z_Hp} :
    m_X5_root [vR 0, vI (i : Int), vI (r : Int), vI 0] (k_W X S) = some (.inl (some (vI (rtA F r))), k_W X (k45 S (rtA F r) (rtB F r))) ∧
    m_X5_root [vR 0, vI (i : Int), vI (r : Int), vI 1] (k_W X S) = some (.inl (some (vI (rtB F r))), k_W X (k45 S (rtA F r) (rtB F r))) ∧
    m_X5_root [vR 0, vI (i : Int), vI (r : Int), vI 2] (k_W X S) = some (.inl (some (vI (rtN F r))), k_W X S) := by
  obtain ⟨h1, h2, h3, h4, h5, h6, h7⟩ := pU_f h
  subst hF
  exact f_root hi pF h h1 h2 h3 h4 h5 h6
/-- between two roots -/
def ipK (P : Nat → Int) (S : Nat → Nat → Int) (F : Nat → Int) (i n r : Nat) (ρ : List z_V) (h' : z_Hp) : Prop := ∃ Sr z1 z2 z3 z4 z5 z6 z7, h' = k_W (kP P) Sr ∧ cFr (fun _ => False) S Sr ∧ ρ = [vR 0, vR 85, vI (i : Int), vI (n : Int), vI (loF F 9), vI (hiF F 9), vI (pCors F 9), vI (F (pUp F r) - F (pUp F 0)), vI ((pUp F 0 : Int) - pUp F r), vB true, vI (r : Int), z1, z2, z3, z4, z5, z6, z7]
theorem ipK.mk {P : Nat → Int} {S : Nat → Nat → Int} {F : Nat → Int} {i n r : Nat} {Sr : Nat → Nat → Int} (f : cFr (fun _ => False) S Sr) {a b c : Int} {z1 z2 z3 z4 z5 z6 z7 : z_V} (e1 : a = F (pUp F r) - F (pUp F 0)) (e2 : b = (pUp F 0 : Int) - pUp F r) (e3 : c = (r : Int)) : ipK P S F i n r [vR 0, vR 85, vI (i : Int), vI (n : Int), vI (loF F 9), vI (hiF F 9), vI (pCors F 9), vI a, vI b, vB true, vI c, z1, z2, z3, z4, z5, z6, z7] (k_W (kP P) Sr) := by
  subst e1 e2 e3
  exact ⟨Sr, z1, z2, z3, z4, z5, z6, z7, rfl, f, rfl⟩
theorem lwT_lo {T : Nat → Int} : ∀ n : Nat, (∀ k, k < n → -300000 ≤ T k) → -300000 ≤ (lwT T n).1
  | 0, _ => by show (-300000 : Int) ≤ 1999999999; decide
  | n + 1, h => by
    have := lwT_lo n (fun k hk => h k (by omega))
    have := h n (by omega)
    show -300000 ≤ (if (lwT T n).1 < T n then (lwT T n).1 else T n)
    split <;> omega
theorem rIt_c {F : Nat → Int} {o u : Int} {k : Nat} : (F k = 1000000 ∧ rIt F o u k = 1999999999) ∨ (¬ F k = 1000000 ∧ rIt F o u k = F k * u + (k : Int) * o) := by
  unfold rIt
  by_cases c : F k = INF
  · rw [if_pos c]; exact Or.inl ⟨c, rfl⟩
  · rw [if_neg c]; exact Or.inr ⟨c, rfl⟩
theorem m_bd {a b : Int} (ha : -19998 ≤ a ∧ a ≤ 19998) (hb : 1 ≤ b ∧ b ≤ 8) : -2000000 ≤ a * b ∧ a * b ≤ 2000000 := by
  rcases (by omega : b = 1 ∨ b = 2 ∨ b = 3 ∨ b = 4 ∨ b = 5 ∨ b = 6 ∨ b = 7 ∨ b = 8) with rfl | rfl | rfl | rfl | rfl | rfl | rfl | rfl <;> omega
theorem m_bd2 {x a b : Int} {k : Nat} (hx : -10000 < x ∧ x ≤ 1000000) (hb : 1 ≤ b ∧ b ≤ 8) (ha : -19998 ≤ a ∧ a ≤ 19998) (hk : k < 9) : -20000000 ≤ x * b + (k : Int) * a ∧ x * b + (k : Int) * a ≤ 20000000 := by
  have h1 : -80000 ≤ x * b ∧ x * b ≤ 8000000 := by
    rcases (by omega : b = 1 ∨ b = 2 ∨ b = 3 ∨ b = 4 ∨ b = 5 ∨ b = 6 ∨ b = 7 ∨ b = 8) with rfl | rfl | rfl | rfl | rfl | rfl | rfl | rfl <;> omega
  have h2 : -160000 ≤ (k : Int) * a ∧ (k : Int) * a ≤ 160000 := by
    rcases (by omega : k = 0 ∨ k = 1 ∨ k = 2 ∨ k = 3 ∨ k = 4 ∨ k = 5 ∨ k = 6 ∨ k = 7 ∨ k = 8) with rfl | rfl | rfl | rfl | rfl | rfl | rfl | rfl | rfl <;> omega
  omega
theorem isp_c {F : Nat → Int} {k : Nat} : (F k = 1000000 ∧ z_dec (pSpare F k) = false ∧ z_dec (pCor F k) = false) ∨ (¬ F k = 1000000 ∧ z_dec (pCor F k) = !(z_dec (pSpare F k))) := by
  by_cases c : F k = INF
  · exact Or.inl ⟨c, (z_dec_f _).mpr (fun w => w.1 c), (z_dec_f _).mpr (fun w => w.1 c)⟩
  · refine Or.inr ⟨c, ?_⟩
    by_cases d : pSpare F k
    · rw [(z_dec_iff _).mpr d, (z_dec_f _).mpr (fun w => w.2 d)]; rfl
    · rw [(z_dec_f _).mpr d, (z_dec_iff _).mpr ⟨c, d⟩]; rfl
theorem f_isPoly (hi : i < 4) (I : cInv S) (M : pMr P S) : ∃ S', m_L_isPoly [vR 0, vR 85, vI (i : Int)] (k_W (kP P) S) = some (.inl (some (vB true)), k_W (kP P) S') ∧ cFr (fun _ => False) S S' := by
  have b6 : INF = 1000000 := rfl
  obtain ⟨F, hF⟩ : ∃ F, F = S (50 + 9 * i) := ⟨_, rfl⟩
  have pF : pOk F := by rw [hF]; exact I.1 i hi
  have mF : ∀ k, k < 9 → P (9 * i + k) = F k := fun k hk => by rw [hF]; exact M i k hi hk
  have ro := f_roots (X := kP P) (S := S) hi (by rw [← hF]; exact pF)
  rw [← hF] at ro
  have cb := pCors_b F 9
  obtain ⟨n, hn⟩ : ∃ n : Nat, pRts F = n := ⟨(pRts F).toNat, by unfold pRts; split <;> omega⟩
  have hn2 : (n : Int) = if 0 < pCors F 9 - 1 then pCors F 9 - 1 else 0 := hn.symm
  have hn8 : n ≤ 8 := by split at hn2 <;> omega
  have rc : ∀ r : Nat, r < n → (r : Int) + 1 < pCors F 9 := fun r hr => by split at hn2 <;> omega
  rw [hn] at ro
  have r0 := f_root0 (X := kP P) (S := S) hi (by rw [← hF]; exact pF) (n := (n : Int)) (w := 0) ⟨by omega, by omega⟩ (by rw [← hF, hn]; omega)
  have as := f_asks9_io r0
  have sp := fun k (hk : k < 9) => f_isSpare (X := kP P) (S := S) hi hk (by rw [← hF]; exact pF)
  rw [← hF] at sp
  have L := loF_b F
  have H := hiF_b F
  -- what the roots come to
  have uU : ∀ r : Nat, r ≤ n → pUp F r < 9 := fun r hr => by
    unfold pUp
    cases r with
    | zero =>
      have := pCb_b F 9
      show (pCb F 9).toNat < 9
      omega
    | succ r =>
      have := (pU_f (rc r (by omega))).2.2.1
      have := (pU_f (rc r (by omega))).2.2.2.1
      unfold pUp at *
      omega
  have sA : ∀ r : Nat, r ≤ n → -19998 ≤ F (pUp F r) - F (pUp F 0) ∧ F (pUp F r) - F (pUp F 0) ≤ 19998 := fun r hr => by
    cases r with
    | zero => omega
    | succ r =>
      have a := pU_f (rc r (by omega))
      have b := pU_f (rc 0 (by omega))
      have x := pF _ (uU (r + 1) hr)
      have y := pF _ (uU 0 (by omega))
      have u := a.2.2.2.2.1.1
      have v := b.2.2.2.2.2.1.1
      omega
  have fin : (pCors F 9 = 0 ∧ loF F 9 < 0 ∧ n = 0) ∨ (1 ≤ pCors F 9 ∧ (n : Int) = pCors F 9 - 1 ∧ 0 ≤ loF F 9 ∧ loF F 9 = (pUp F n : Int) ∧ hiF F 9 = (pUp F 0 : Int)) := by
    by_cases c : pCors F 9 = 0
    · refine Or.inl ⟨c, ?_, by split at hn2 <;> omega⟩
      rcases Int.lt_or_le (loF F 9) 0 with q | q
      · exact q
      · have a := (L 9).2.2.2 q
        exact absurd (pCors_0 c _ (by omega)) a.2.1
    · have n1 : (n : Int) = pCors F 9 - 1 := by split at hn2 <;> omega
      have u0 := pU_c (f := F) 0 (by omega)
      have lo : 0 ≤ loF F 9 := by
        rcases Int.lt_or_le (loF F 9) 0 with q | q
        · exact absurd ((L 9).2.2.1 q _ (by omega)) u0.2.2.1.1
        · exact q
      have hi' : 0 ≤ hiF F 9 := by
        rcases Int.lt_or_le (hiF F 9) 0 with q | q
        · exact absurd ((H 9).2.2.1 q _ (by omega)) u0.2.2.1.1
        · exact q
      have a := (L 9).2.2.2 lo
      have b := (H 9).2.2.2 hi'
      have e1 := pU_hi (f := F) (H := (hiF F 9).toNat) (by omega) b.2.1 b.2.2
      have e2 := pU_lo (f := F) (L := (loF F 9).toNat) (by omega) a.2.1 a.2.2 (r := n) (by omega)
      refine Or.inr ⟨by omega, n1, lo, ?_, ?_⟩
      · unfold pUp; omega
      · unfold pUp; omega
  have main : ∀ z, (qS s_L_isPoly_164 [vR 0, vR 85, vI (i : Int), vI (n : Int), vI (loF F 9), vI (hiF F 9), vI (pCors F 9), vI 0, vI 0, vB true, vI 9, z, vU, vU, vU, vU, vU, vU] (k_W (kP P) S) (fun oc h1 => oc = oR (some (vB true)) ∧ ∃ S', h1 = k_W (kP P) S' ∧ cFr (fun _ => False) S S') ↔ True) := fun z => by
    refine iff_true_intro ?_
    simp only [s_L_isPoly_164, qS_nop, qS_seq, qS_set, qS_setJ, qS_if, qS_brk, qS_ret, qS_retV, qS_throw, qS_inc, qS_cl, qS_ast, qS_aop, qS_fst, qS_fop, qS_sw, qT_eC, qT_eCB, qT_eL, qT_eLJ, qT_eLR, qT_eLS, qT_eSLen, qT_eSLd, qT_eLB, qT_e1, qT_e2, qT_bCmp, qT_bCmpJ, qT_bAnd, qT_bOr, qT_bNot, qT_eBI, qT_eIf, qT_eLd, qT_eLdR, qT_eLen, qT_eF, qT_eFR, qT_aN, qT_aS, qT_eCl, qT_eClR, qT_eClB, qT_some, qT_x, z_nx_N, z_nx_B, z_nx_R, z_nx_X, z_bk_N, z_bk_B, z_bk_R, z_bk_X, oAdd, oSub, oMul, oNeg, cLt, cLe, cGt, cGe, cEq, cNe, Option.some.injEq, Sum.inl.injEq, Sum.inr.injEq, Prod.mk.injEq, exists_eq_left, exists_eq_left', exists_eq_right, exists_and_left, reduceCtorEq, and_true, true_and, and_false, false_and, List.getElem?_cons_zero, List.getElem?_cons_succ, List.set_cons_zero, List.set_cons_succ, List.replicate, List.length_cons, List.length_nil, List.cons_append, List.nil_append, Nat.reduceAdd, Nat.reduceSub, decide_eq_true_eq, decide_eq_false_iff_not, Bool.true_eq_false, Bool.false_eq_true, true_implies, false_implies, implies_true, Nat.reduceLT, exists_const, z_vB_inj, and_assoc, z_in_iff, oI2L, oL2I, Int.toNat_natCast, z_toNat0, Bool.not_eq_true', Bool.not_eq_false', ne_eq, Bool.not_true, Bool.not_false, Nat.add_zero, Int.add_zero, z_sl_s]
    refine qS_loop (fun r ρ h' => ipK P S F i n r ρ h') n ?_ ?_ n 0 z_fuel _ _ (by omega) (z_fuel_lt (by omega)) (ipK.mk (cFr.refl _ _) (by omega) (by omega) rfl)
    · intro r
      cases r with
      | zero =>
        rintro ρ h' hr ⟨Sr, z1, z2, z3, z4, z5, z6, z7, rfl, fr, rfl⟩
        have hc := rc 0 hr
        have rn : ((0 : Nat) : Int) < (n : Int) := by omega
        have z0 : ((0 : Nat) : Int) = 0 := rfl
        have al := r_all pF hc
        have hS : Sr (50 + 9 * i) = F := (fr _ (by unfold cFree; omega) id).trans hF.symm
        have hS1 : k45 Sr (rtA F 0) (rtB F 0) (50 + 9 * i) = F := (k45_n (by omega)).trans hS
        have hS2 : (k45 (k45 Sr (rtA F 0) (rtB F 0)) (rtA F 0) (rtB F 0)) (50 + 9 * i) = F := (k45_n (by omega)).trans hS1
        have e1 := (f_roo (X := kP P) hi hS pF hc).1
        have e2 := (f_roo (X := kP P) hi hS1 pF hc).2.1
        have e3 := (f_roo (X := kP P) hi hS2 pF hc).2.2
        have fr2 : cFr (fun _ => False) S (k45 (k45 Sr (rtA F 0) (rtB F 0)) (rtA F 0) (rtB F 0)) := (fr.trans k45_fr).trans k45_fr
        have q1 : 0 < (rtB F 0) := by omega
        have q2 : 0 < (rtN F 0) := by omega
        have q3 := al.2.2.2.1
        have q4 := al.2.2.2.2.2
        have q5 := al.2.2.2.2.1
        have q6 := sA 0 (by omega)
        have dv : oDiv (rtN F 0) (rtB F 0) = some ((rtN F 0).tdiv (rtB F 0)) := by
          unfold oDiv
          rw [if_pos (by simp only [Bool.and_eq_true, z_in_iff, decide_eq_true_eq]; omega)]
        have dr : oRem (rtN F 0) (rtB F 0) = some ((rtN F 0).tmod (rtB F 0)) := by
          unfold oRem
          rw [if_pos (by simp only [Bool.and_eq_true, z_in_iff, decide_eq_true_eq]; omega)]
        have Tb := fun k (hk : k < 9) => rIt_b pF al.2.1 al.1 hk
        have lb := lwT_b (rIt F (rtA F 0) (rtB F 0)) 9
        simp only [l_L_isPoly_178, s_L_isPoly_188, s_L_isPoly_198, s_L_isPoly_208, s_L_isPoly_212, s_L_isPoly_215, e1, e2, e3, rn, z_vB1, z_vB0, if_true, if_false, not_true_eq_false, not_false_eq_true, exists_eq, qS_nop, qS_seq, qS_set, qS_setJ, qS_if, qS_brk, qS_ret, qS_retV, qS_throw, qS_inc, qS_cl, qS_ast, qS_aop, qS_fst, qS_fop, qS_sw, qT_eC, qT_eCB, qT_eL, qT_eLJ, qT_eLR, qT_eLS, qT_eSLen, qT_eSLd, qT_eLB, qT_e1, qT_e2, qT_bCmp, qT_bCmpJ, qT_bAnd, qT_bOr, qT_bNot, qT_eBI, qT_eIf, qT_eLd, qT_eLdR, qT_eLen, qT_eF, qT_eFR, qT_aN, qT_aS, qT_eCl, qT_eClR, qT_eClB, qT_some, qT_x, z_nx_N, z_nx_B, z_nx_R, z_nx_X, z_bk_N, z_bk_B, z_bk_R, z_bk_X, oAdd, oSub, oMul, oNeg, cLt, cLe, cGt, cGe, cEq, cNe, Option.some.injEq, Sum.inl.injEq, Sum.inr.injEq, Prod.mk.injEq, exists_eq_left, exists_eq_left', exists_eq_right, exists_and_left, reduceCtorEq, and_true, true_and, and_false, false_and, List.getElem?_cons_zero, List.getElem?_cons_succ, List.set_cons_zero, List.set_cons_succ, List.replicate, List.length_cons, List.length_nil, List.cons_append, List.nil_append, Nat.reduceAdd, Nat.reduceSub, decide_eq_true_eq, decide_eq_false_iff_not, Bool.true_eq_false, Bool.false_eq_true, true_implies, false_implies, implies_true, Nat.reduceLT, exists_const, z_vB_inj, and_assoc, z_in_iff, oI2L, oL2I, Int.toNat_natCast, z_toNat0, Bool.not_eq_true', Bool.not_eq_false', ne_eq, Bool.not_true, Bool.not_false, Nat.add_zero, Int.add_zero, z_sl_s]
        repeat (refine And.intro (by omega) ?_)
        refine qS_loop (fun k ρ h' => h' = k_W (kP P) (k45 (k45 Sr (rtA F 0) (rtB F 0)) (rtA F 0) (rtB F 0)) ∧ ∃ z, ρ = [vR 0, vR 85, vI (i : Int), vI (n : Int), vI (loF F 9), vI (hiF F 9), vI (pCors F 9), vI (F (pUp F 0) - F (pUp F 0)), vI ((pUp F 0 : Int) - pUp F 0), vB true, vI ((0 : Nat) : Int), vI (rtA F 0), vI (rtB F 0), vI (rtN F 0), vI (lwT (rIt F (rtA F 0) (rtB F 0)) k).1, vI (lwT (rIt F (rtA F 0) (rtB F 0)) k).2, vI (k : Int), z]) 9 ?_ ?_ 9 0 z_fuel _ _ (by omega) (z_fuel_lt (by omega)) ⟨rfl, _, rfl⟩
        · rintro k ρ h' hk ⟨rfl, z, rfl⟩
          have t1 : (9 * (i : Int) + (k : Int)).toNat = 9 * i + k := by omega
          have mk := mF k hk
          have tb := Tb k hk
          have hT : (F k = 1000000 ∧ rIt F (rtA F 0) (rtB F 0) k = 1999999999) ∨ (¬ F k = 1000000 ∧ rIt F (rtA F 0) (rtB F 0) k = F k * (rtB F 0) + (k : Int) * (rtA F 0)) := rIt_c
          have u1 := lwT_lo (T := rIt F (rtA F 0) (rtB F 0)) k (fun x hx => by have := Tb x (by omega); omega)
          have u2 := lwT_b (rIt F (rtA F 0) (rtB F 0)) k
          have fk := pF.z hk
          have m0 : -20000000 ≤ F k * (rtB F 0) + (k : Int) * (rtA F 0) ∧ F k * (rtB F 0) + (k : Int) * (rtA F 0) ≤ 20000000 := m_bd2 fk al.1 al.2.1 hk
          have l1 : (lwT (rIt F (rtA F 0) (rtB F 0)) (k + 1)).1 = if (lwT (rIt F (rtA F 0) (rtB F 0)) k).1 < rIt F (rtA F 0) (rtB F 0) k then (lwT (rIt F (rtA F 0) (rtB F 0)) k).1 else rIt F (rtA F 0) (rtB F 0) k := rfl
          have l2 : (lwT (rIt F (rtA F 0) (rtB F 0)) (k + 1)).2 = if rIt F (rtA F 0) (rtB F 0) k < (lwT (rIt F (rtA F 0) (rtB F 0)) k).1 then 1 else if rIt F (rtA F 0) (rtB F 0) k = (lwT (rIt F (rtA F 0) (rtB F 0)) k).1 ∧ rIt F (rtA F 0) (rtB F 0) k ≠ 1999999999 then (lwT (rIt F (rtA F 0) (rtB F 0)) k).2 + 1 else (lwT (rIt F (rtA F 0) (rtB F 0)) k).2 := rfl
          have f1 := f_lesser (a := (lwT (rIt F (rtA F 0) (rtB F 0)) k).1) (b := 1999999999) ⟨by omega, by omega⟩ ⟨by decide, by decide⟩
          have f2 := f_lesser (a := (lwT (rIt F (rtA F 0) (rtB F 0)) k).1) (b := F k * (rtB F 0) + (k : Int) * (rtA F 0)) ⟨by omega, by omega⟩ ⟨by omega, by omega⟩
          rw [l1, l2]
          simp only [l_L_isPoly_225, s_L_isPoly_264, s_L_isPoly_300, kP_a, t1, mk, f1, f2, z_vB1, z_vB0, if_true, if_false, not_true_eq_false, not_false_eq_true, exists_eq, qS_nop, qS_seq, qS_set, qS_setJ, qS_if, qS_brk, qS_ret, qS_retV, qS_throw, qS_inc, qS_cl, qS_ast, qS_aop, qS_fst, qS_fop, qS_sw, qT_eC, qT_eCB, qT_eL, qT_eLJ, qT_eLR, qT_eLS, qT_eSLen, qT_eSLd, qT_eLB, qT_e1, qT_e2, qT_bCmp, qT_bCmpJ, qT_bAnd, qT_bOr, qT_bNot, qT_eBI, qT_eIf, qT_eLd, qT_eLdR, qT_eLen, qT_eF, qT_eFR, qT_aN, qT_aS, qT_eCl, qT_eClR, qT_eClB, qT_some, qT_x, z_nx_N, z_nx_B, z_nx_R, z_nx_X, z_bk_N, z_bk_B, z_bk_R, z_bk_X, oAdd, oSub, oMul, oNeg, cLt, cLe, cGt, cGe, cEq, cNe, Option.some.injEq, Sum.inl.injEq, Sum.inr.injEq, Prod.mk.injEq, exists_eq_left, exists_eq_left', exists_eq_right, exists_and_left, reduceCtorEq, and_true, true_and, and_false, false_and, List.getElem?_cons_zero, List.getElem?_cons_succ, List.set_cons_zero, List.set_cons_succ, List.replicate, List.length_cons, List.length_nil, List.cons_append, List.nil_append, Nat.reduceAdd, Nat.reduceSub, decide_eq_true_eq, decide_eq_false_iff_not, Bool.true_eq_false, Bool.false_eq_true, true_implies, false_implies, implies_true, Nat.reduceLT, exists_const, z_vB_inj, and_assoc, z_in_iff, oI2L, oL2I, Int.toNat_natCast, z_toNat0, Bool.not_eq_true', Bool.not_eq_false', ne_eq, Bool.not_true, Bool.not_false, Nat.add_zero, Int.add_zero, z_sl_s]
          generalize (lwT (rIt F (rtA F 0) (rtB F 0)) k).1 = a1 at *
          generalize (lwT (rIt F (rtA F 0) (rtB F 0)) k).2 = a2 at *
          generalize rIt F (rtA F 0) (rtB F 0) k = a3 at *
          generalize F k * (rtB F 0) + (k : Int) * (rtA F 0) = a4 at *
          rcases hT with ⟨c1, c2⟩ | ⟨c1, c2⟩
          · subst c2
            simp only [List.cons.injEq, Sum.inl.injEq, Sum.inr.injEq, z_vB_inj, and_true, true_and, exists_eq', exists_eq_left, exists_eq_left', exists_eq_right, exists_eq_right', exists_and_left, exists_and_right, exists_const, if_true, if_false, z_vB1, z_vB0, z_vBP, z_bd, decide_eq_true_eq, decide_eq_false_iff_not, Bool.not_eq_true', Bool.false_eq_true, Bool.true_eq_false, z_dec_iff, z_dec_f, z_dec_inj, true_iff, iff_true, false_iff, iff_false, not_true_eq_false, not_false_eq_true, Classical.not_not]
            (repeat' (first | apply And.intro | intro _)) <;> first | omega | rfl | grind
          · subst c2
            simp only [List.cons.injEq, Sum.inl.injEq, Sum.inr.injEq, z_vB_inj, and_true, true_and, exists_eq', exists_eq_left, exists_eq_left', exists_eq_right, exists_eq_right', exists_and_left, exists_and_right, exists_const, if_true, if_false, z_vB1, z_vB0, z_vBP, z_bd, decide_eq_true_eq, decide_eq_false_iff_not, Bool.not_eq_true', Bool.false_eq_true, Bool.true_eq_false, z_dec_iff, z_dec_f, z_dec_inj, true_iff, iff_true, false_iff, iff_false, not_true_eq_false, not_false_eq_true, Classical.not_not]
            (repeat' (first | apply And.intro | intro _)) <;> first | omega | rfl | grind
        · rintro ρ h' ⟨rfl, z, rfl⟩
          simp only [s_L_isPoly_315, s_L_isPoly_328, s_L_isPoly_335, dv, dr, q1, q2, q3, q4, z0, z_vB1, z_vB0, if_true, if_false, not_true_eq_false, not_false_eq_true, exists_eq, qS_nop, qS_seq, qS_set, qS_setJ, qS_if, qS_brk, qS_ret, qS_retV, qS_throw, qS_inc, qS_cl, qS_ast, qS_aop, qS_fst, qS_fop, qS_sw, qT_eC, qT_eCB, qT_eL, qT_eLJ, qT_eLR, qT_eLS, qT_eSLen, qT_eSLd, qT_eLB, qT_e1, qT_e2, qT_bCmp, qT_bCmpJ, qT_bAnd, qT_bOr, qT_bNot, qT_eBI, qT_eIf, qT_eLd, qT_eLdR, qT_eLen, qT_eF, qT_eFR, qT_aN, qT_aS, qT_eCl, qT_eClR, qT_eClB, qT_some, qT_x, z_nx_N, z_nx_B, z_nx_R, z_nx_X, z_bk_N, z_bk_B, z_bk_R, z_bk_X, oAdd, oSub, oMul, oNeg, cLt, cLe, cGt, cGe, cEq, cNe, Option.some.injEq, Sum.inl.injEq, Sum.inr.injEq, Prod.mk.injEq, exists_eq_left, exists_eq_left', exists_eq_right, exists_and_left, reduceCtorEq, and_true, true_and, and_false, false_and, List.getElem?_cons_zero, List.getElem?_cons_succ, List.set_cons_zero, List.set_cons_succ, List.replicate, List.length_cons, List.length_nil, List.cons_append, List.nil_append, Nat.reduceAdd, Nat.reduceSub, decide_eq_true_eq, decide_eq_false_iff_not, Bool.true_eq_false, Bool.false_eq_true, true_implies, false_implies, implies_true, Nat.reduceLT, exists_const, z_vB_inj, and_assoc, z_in_iff, oI2L, oL2I, Int.toNat_natCast, z_toNat0, Bool.not_eq_true', Bool.not_eq_false', ne_eq, Bool.not_true, Bool.not_false, Nat.add_zero, Int.add_zero, z_sl_s]
          repeat (refine And.intro (by omega) ?_)
          have q7 : (rtN F 0).tdiv (rtB F 0) * rtA F 0 = F (pUp F 1) - F (pUp F 0) := q5
          have q8 : rtN F 0 = (pUp F 0 : Int) - pUp F 1 := rfl
          exact ipK.mk fr2 (by rw [q7]; omega) (by rw [q8]; omega) (by omega)
      | succ r =>
        rintro ρ h' hr ⟨Sr, z1, z2, z3, z4, z5, z6, z7, rfl, fr, rfl⟩
        have hc := rc (r + 1) hr
        have rn : ((r + 1 : Nat) : Int) < (n : Int) := by omega
        have al := r_all pF hc
        have hS : Sr (50 + 9 * i) = F := (fr _ (by unfold cFree; omega) id).trans hF.symm
        have hS1 : k45 Sr (rtA F (r + 1)) (rtB F (r + 1)) (50 + 9 * i) = F := (k45_n (by omega)).trans hS
        have hS2 : (k45 (k45 Sr (rtA F (r + 1)) (rtB F (r + 1))) (rtA F (r + 1)) (rtB F (r + 1))) (50 + 9 * i) = F := (k45_n (by omega)).trans hS1
        have e1 := (f_roo (X := kP P) hi hS pF hc).1
        have e2 := (f_roo (X := kP P) hi hS1 pF hc).2.1
        have e3 := (f_roo (X := kP P) hi hS2 pF hc).2.2
        have fr2 : cFr (fun _ => False) S (k45 (k45 Sr (rtA F (r + 1)) (rtB F (r + 1))) (rtA F (r + 1)) (rtB F (r + 1))) := (fr.trans k45_fr).trans k45_fr
        have q1 : 0 < (rtB F (r + 1)) := by omega
        have q2 : 0 < (rtN F (r + 1)) := by omega
        have q3 := al.2.2.2.1
        have q4 := al.2.2.2.2.2
        have q5 := al.2.2.2.2.1
        have q6 := sA (r + 1) (by omega)
        have dv : oDiv (rtN F (r + 1)) (rtB F (r + 1)) = some ((rtN F (r + 1)).tdiv (rtB F (r + 1))) := by
          unfold oDiv
          rw [if_pos (by simp only [Bool.and_eq_true, z_in_iff, decide_eq_true_eq]; omega)]
        have dr : oRem (rtN F (r + 1)) (rtB F (r + 1)) = some ((rtN F (r + 1)).tmod (rtB F (r + 1))) := by
          unfold oRem
          rw [if_pos (by simp only [Bool.and_eq_true, z_in_iff, decide_eq_true_eq]; omega)]
        have Tb := fun k (hk : k < 9) => rIt_b pF al.2.1 al.1 hk
        have lb := lwT_b (rIt F (rtA F (r + 1)) (rtB F (r + 1))) 9
        have hc0 := rc r (by omega)
        have al0 := r_all pF hc0
        have hS3 : k45 (k45 (k45 Sr (rtA F (r + 1)) (rtB F (r + 1))) (rtA F (r + 1)) (rtB F (r + 1))) (rtA F r) (rtB F r) (50 + 9 * i) = F := (k45_n (by omega)).trans hS2
        have e4 := (f_roo (X := kP P) hi hS2 pF hc0).1
        have e5 := (f_roo (X := kP P) hi hS3 pF hc0).2.1
        have fr3 : cFr (fun _ => False) S (k45 (k45 (k45 (k45 Sr (rtA F (r + 1)) (rtB F (r + 1))) (rtA F (r + 1)) (rtB F (r + 1))) (rtA F r) (rtB F r)) (rtA F r) (rtB F r)) := (fr2.trans k45_fr).trans k45_fr
        have ri := r_rise (F := F) (r := r) (by omega)
        have tr : (((r + 1 : Nat) : Int) - 1) = (r : Int) := by omega
        have nz : ¬ (((r + 1 : Nat) : Int) = 0) := by omega
        have m1 : -2000000 ≤ rtA F r * rtB F (r + 1) ∧ rtA F r * rtB F (r + 1) ≤ 2000000 := m_bd al0.2.1 al.1
        have m2 : -2000000 ≤ rtA F (r + 1) * rtB F r ∧ rtA F (r + 1) * rtB F r ≤ 2000000 := m_bd al.2.1 al0.1
        simp only [l_L_isPoly_178, s_L_isPoly_188, s_L_isPoly_198, s_L_isPoly_208, s_L_isPoly_212, s_L_isPoly_215, e1, e2, e3, rn, z_vB1, z_vB0, if_true, if_false, not_true_eq_false, not_false_eq_true, exists_eq, qS_nop, qS_seq, qS_set, qS_setJ, qS_if, qS_brk, qS_ret, qS_retV, qS_throw, qS_inc, qS_cl, qS_ast, qS_aop, qS_fst, qS_fop, qS_sw, qT_eC, qT_eCB, qT_eL, qT_eLJ, qT_eLR, qT_eLS, qT_eSLen, qT_eSLd, qT_eLB, qT_e1, qT_e2, qT_bCmp, qT_bCmpJ, qT_bAnd, qT_bOr, qT_bNot, qT_eBI, qT_eIf, qT_eLd, qT_eLdR, qT_eLen, qT_eF, qT_eFR, qT_aN, qT_aS, qT_eCl, qT_eClR, qT_eClB, qT_some, qT_x, z_nx_N, z_nx_B, z_nx_R, z_nx_X, z_bk_N, z_bk_B, z_bk_R, z_bk_X, oAdd, oSub, oMul, oNeg, cLt, cLe, cGt, cGe, cEq, cNe, Option.some.injEq, Sum.inl.injEq, Sum.inr.injEq, Prod.mk.injEq, exists_eq_left, exists_eq_left', exists_eq_right, exists_and_left, reduceCtorEq, and_true, true_and, and_false, false_and, List.getElem?_cons_zero, List.getElem?_cons_succ, List.set_cons_zero, List.set_cons_succ, List.replicate, List.length_cons, List.length_nil, List.cons_append, List.nil_append, Nat.reduceAdd, Nat.reduceSub, decide_eq_true_eq, decide_eq_false_iff_not, Bool.true_eq_false, Bool.false_eq_true, true_implies, false_implies, implies_true, Nat.reduceLT, exists_const, z_vB_inj, and_assoc, z_in_iff, oI2L, oL2I, Int.toNat_natCast, z_toNat0, Bool.not_eq_true', Bool.not_eq_false', ne_eq, Bool.not_true, Bool.not_false, Nat.add_zero, Int.add_zero, z_sl_s]
        repeat (refine And.intro (by omega) ?_)
        refine qS_loop (fun k ρ h' => h' = k_W (kP P) (k45 (k45 Sr (rtA F (r + 1)) (rtB F (r + 1))) (rtA F (r + 1)) (rtB F (r + 1))) ∧ ∃ z, ρ = [vR 0, vR 85, vI (i : Int), vI (n : Int), vI (loF F 9), vI (hiF F 9), vI (pCors F 9), vI (F (pUp F (r + 1)) - F (pUp F 0)), vI ((pUp F 0 : Int) - pUp F (r + 1)), vB true, vI (((r + 1) : Nat) : Int), vI (rtA F (r + 1)), vI (rtB F (r + 1)), vI (rtN F (r + 1)), vI (lwT (rIt F (rtA F (r + 1)) (rtB F (r + 1))) k).1, vI (lwT (rIt F (rtA F (r + 1)) (rtB F (r + 1))) k).2, vI (k : Int), z]) 9 ?_ ?_ 9 0 z_fuel _ _ (by omega) (z_fuel_lt (by omega)) ⟨rfl, _, rfl⟩
        · rintro k ρ h' hk ⟨rfl, z, rfl⟩
          have t1 : (9 * (i : Int) + (k : Int)).toNat = 9 * i + k := by omega
          have mk := mF k hk
          have tb := Tb k hk
          have hT : (F k = 1000000 ∧ rIt F (rtA F (r + 1)) (rtB F (r + 1)) k = 1999999999) ∨ (¬ F k = 1000000 ∧ rIt F (rtA F (r + 1)) (rtB F (r + 1)) k = F k * (rtB F (r + 1)) + (k : Int) * (rtA F (r + 1))) := rIt_c
          have u1 := lwT_lo (T := rIt F (rtA F (r + 1)) (rtB F (r + 1))) k (fun x hx => by have := Tb x (by omega); omega)
          have u2 := lwT_b (rIt F (rtA F (r + 1)) (rtB F (r + 1))) k
          have fk := pF.z hk
          have m0 : -20000000 ≤ F k * (rtB F (r + 1)) + (k : Int) * (rtA F (r + 1)) ∧ F k * (rtB F (r + 1)) + (k : Int) * (rtA F (r + 1)) ≤ 20000000 := m_bd2 fk al.1 al.2.1 hk
          have l1 : (lwT (rIt F (rtA F (r + 1)) (rtB F (r + 1))) (k + 1)).1 = if (lwT (rIt F (rtA F (r + 1)) (rtB F (r + 1))) k).1 < rIt F (rtA F (r + 1)) (rtB F (r + 1)) k then (lwT (rIt F (rtA F (r + 1)) (rtB F (r + 1))) k).1 else rIt F (rtA F (r + 1)) (rtB F (r + 1)) k := rfl
          have l2 : (lwT (rIt F (rtA F (r + 1)) (rtB F (r + 1))) (k + 1)).2 = if rIt F (rtA F (r + 1)) (rtB F (r + 1)) k < (lwT (rIt F (rtA F (r + 1)) (rtB F (r + 1))) k).1 then 1 else if rIt F (rtA F (r + 1)) (rtB F (r + 1)) k = (lwT (rIt F (rtA F (r + 1)) (rtB F (r + 1))) k).1 ∧ rIt F (rtA F (r + 1)) (rtB F (r + 1)) k ≠ 1999999999 then (lwT (rIt F (rtA F (r + 1)) (rtB F (r + 1))) k).2 + 1 else (lwT (rIt F (rtA F (r + 1)) (rtB F (r + 1))) k).2 := rfl
          have f1 := f_lesser (a := (lwT (rIt F (rtA F (r + 1)) (rtB F (r + 1))) k).1) (b := 1999999999) ⟨by omega, by omega⟩ ⟨by decide, by decide⟩
          have f2 := f_lesser (a := (lwT (rIt F (rtA F (r + 1)) (rtB F (r + 1))) k).1) (b := F k * (rtB F (r + 1)) + (k : Int) * (rtA F (r + 1))) ⟨by omega, by omega⟩ ⟨by omega, by omega⟩
          rw [l1, l2]
          simp only [l_L_isPoly_225, s_L_isPoly_264, s_L_isPoly_300, kP_a, t1, mk, f1, f2, z_vB1, z_vB0, if_true, if_false, not_true_eq_false, not_false_eq_true, exists_eq, qS_nop, qS_seq, qS_set, qS_setJ, qS_if, qS_brk, qS_ret, qS_retV, qS_throw, qS_inc, qS_cl, qS_ast, qS_aop, qS_fst, qS_fop, qS_sw, qT_eC, qT_eCB, qT_eL, qT_eLJ, qT_eLR, qT_eLS, qT_eSLen, qT_eSLd, qT_eLB, qT_e1, qT_e2, qT_bCmp, qT_bCmpJ, qT_bAnd, qT_bOr, qT_bNot, qT_eBI, qT_eIf, qT_eLd, qT_eLdR, qT_eLen, qT_eF, qT_eFR, qT_aN, qT_aS, qT_eCl, qT_eClR, qT_eClB, qT_some, qT_x, z_nx_N, z_nx_B, z_nx_R, z_nx_X, z_bk_N, z_bk_B, z_bk_R, z_bk_X, oAdd, oSub, oMul, oNeg, cLt, cLe, cGt, cGe, cEq, cNe, Option.some.injEq, Sum.inl.injEq, Sum.inr.injEq, Prod.mk.injEq, exists_eq_left, exists_eq_left', exists_eq_right, exists_and_left, reduceCtorEq, and_true, true_and, and_false, false_and, List.getElem?_cons_zero, List.getElem?_cons_succ, List.set_cons_zero, List.set_cons_succ, List.replicate, List.length_cons, List.length_nil, List.cons_append, List.nil_append, Nat.reduceAdd, Nat.reduceSub, decide_eq_true_eq, decide_eq_false_iff_not, Bool.true_eq_false, Bool.false_eq_true, true_implies, false_implies, implies_true, Nat.reduceLT, exists_const, z_vB_inj, and_assoc, z_in_iff, oI2L, oL2I, Int.toNat_natCast, z_toNat0, Bool.not_eq_true', Bool.not_eq_false', ne_eq, Bool.not_true, Bool.not_false, Nat.add_zero, Int.add_zero, z_sl_s]
          generalize (lwT (rIt F (rtA F (r + 1)) (rtB F (r + 1))) k).1 = a1 at *
          generalize (lwT (rIt F (rtA F (r + 1)) (rtB F (r + 1))) k).2 = a2 at *
          generalize rIt F (rtA F (r + 1)) (rtB F (r + 1)) k = a3 at *
          generalize F k * (rtB F (r + 1)) + (k : Int) * (rtA F (r + 1)) = a4 at *
          rcases hT with ⟨c1, c2⟩ | ⟨c1, c2⟩
          · subst c2
            simp only [List.cons.injEq, Sum.inl.injEq, Sum.inr.injEq, z_vB_inj, and_true, true_and, exists_eq', exists_eq_left, exists_eq_left', exists_eq_right, exists_eq_right', exists_and_left, exists_and_right, exists_const, if_true, if_false, z_vB1, z_vB0, z_vBP, z_bd, decide_eq_true_eq, decide_eq_false_iff_not, Bool.not_eq_true', Bool.false_eq_true, Bool.true_eq_false, z_dec_iff, z_dec_f, z_dec_inj, true_iff, iff_true, false_iff, iff_false, not_true_eq_false, not_false_eq_true, Classical.not_not]
            (repeat' (first | apply And.intro | intro _)) <;> first | omega | rfl | grind
          · subst c2
            simp only [List.cons.injEq, Sum.inl.injEq, Sum.inr.injEq, z_vB_inj, and_true, true_and, exists_eq', exists_eq_left, exists_eq_left', exists_eq_right, exists_eq_right', exists_and_left, exists_and_right, exists_const, if_true, if_false, z_vB1, z_vB0, z_vBP, z_bd, decide_eq_true_eq, decide_eq_false_iff_not, Bool.not_eq_true', Bool.false_eq_true, Bool.true_eq_false, z_dec_iff, z_dec_f, z_dec_inj, true_iff, iff_true, false_iff, iff_false, not_true_eq_false, not_false_eq_true, Classical.not_not]
            (repeat' (first | apply And.intro | intro _)) <;> first | omega | rfl | grind
        · rintro ρ h' ⟨rfl, z, rfl⟩
          simp only [s_L_isPoly_315, s_L_isPoly_328, s_L_isPoly_335, dv, dr, q1, q2, q3, q4, tr, nz, e4, e5, ri, z_vB1, z_vB0, if_true, if_false, not_true_eq_false, not_false_eq_true, exists_eq, qS_nop, qS_seq, qS_set, qS_setJ, qS_if, qS_brk, qS_ret, qS_retV, qS_throw, qS_inc, qS_cl, qS_ast, qS_aop, qS_fst, qS_fop, qS_sw, qT_eC, qT_eCB, qT_eL, qT_eLJ, qT_eLR, qT_eLS, qT_eSLen, qT_eSLd, qT_eLB, qT_e1, qT_e2, qT_bCmp, qT_bCmpJ, qT_bAnd, qT_bOr, qT_bNot, qT_eBI, qT_eIf, qT_eLd, qT_eLdR, qT_eLen, qT_eF, qT_eFR, qT_aN, qT_aS, qT_eCl, qT_eClR, qT_eClB, qT_some, qT_x, z_nx_N, z_nx_B, z_nx_R, z_nx_X, z_bk_N, z_bk_B, z_bk_R, z_bk_X, oAdd, oSub, oMul, oNeg, cLt, cLe, cGt, cGe, cEq, cNe, Option.some.injEq, Sum.inl.injEq, Sum.inr.injEq, Prod.mk.injEq, exists_eq_left, exists_eq_left', exists_eq_right, exists_and_left, reduceCtorEq, and_true, true_and, and_false, false_and, List.getElem?_cons_zero, List.getElem?_cons_succ, List.set_cons_zero, List.set_cons_succ, List.replicate, List.length_cons, List.length_nil, List.cons_append, List.nil_append, Nat.reduceAdd, Nat.reduceSub, decide_eq_true_eq, decide_eq_false_iff_not, Bool.true_eq_false, Bool.false_eq_true, true_implies, false_implies, implies_true, Nat.reduceLT, exists_const, z_vB_inj, and_assoc, z_in_iff, oI2L, oL2I, Int.toNat_natCast, z_toNat0, Bool.not_eq_true', Bool.not_eq_false', ne_eq, Bool.not_true, Bool.not_false, Nat.add_zero, Int.add_zero, z_sl_s]
          repeat (refine And.intro (by omega) ?_)
          exact ipK.mk fr3 (by rw [q5]; omega) (by unfold rtN; omega) (by omega)
    · have nn : ¬ ((n : Int) < (n : Int)) := by omega
      rcases fin with ⟨g1, g2, g3⟩ | ⟨g1, g2, g3, g4, g5⟩
      · rintro ρ h' ⟨Sr, z1, z2, z3, z4, z5, z6, z7, rfl, fr, rfl⟩
        have hS : Sr (50 + 9 * i) = F := (fr _ (by unfold cFree; omega) id).trans hF.symm
        have sm := f_areSame (X := kP P) (S := Sr) hi hi (by rw [hS]; exact pF) (by rw [hS]; exact pF)
        rw [(z_dec_iff _).mpr (pSame.rf _)] at sm
        have g4 : (n : Int) = 0 := by omega
        have lb := (L 9).1
        simp only [s_L_isPoly_406, nn, g1, g2, g4, sm, z_vB1, z_vB0, if_true, if_false, not_true_eq_false, not_false_eq_true, exists_eq, qS_nop, qS_seq, qS_set, qS_setJ, qS_if, qS_brk, qS_ret, qS_retV, qS_throw, qS_inc, qS_cl, qS_ast, qS_aop, qS_fst, qS_fop, qS_sw, qT_eC, qT_eCB, qT_eL, qT_eLJ, qT_eLR, qT_eLS, qT_eSLen, qT_eSLd, qT_eLB, qT_e1, qT_e2, qT_bCmp, qT_bCmpJ, qT_bAnd, qT_bOr, qT_bNot, qT_eBI, qT_eIf, qT_eLd, qT_eLdR, qT_eLen, qT_eF, qT_eFR, qT_aN, qT_aS, qT_eCl, qT_eClR, qT_eClB, qT_some, qT_x, z_nx_N, z_nx_B, z_nx_R, z_nx_X, z_bk_N, z_bk_B, z_bk_R, z_bk_X, oAdd, oSub, oMul, oNeg, cLt, cLe, cGt, cGe, cEq, cNe, Option.some.injEq, Sum.inl.injEq, Sum.inr.injEq, Prod.mk.injEq, exists_eq_left, exists_eq_left', exists_eq_right, exists_and_left, reduceCtorEq, and_true, true_and, and_false, false_and, List.getElem?_cons_zero, List.getElem?_cons_succ, List.set_cons_zero, List.set_cons_succ, List.replicate, List.length_cons, List.length_nil, List.cons_append, List.nil_append, Nat.reduceAdd, Nat.reduceSub, decide_eq_true_eq, decide_eq_false_iff_not, Bool.true_eq_false, Bool.false_eq_true, true_implies, false_implies, implies_true, Nat.reduceLT, exists_const, z_vB_inj, and_assoc, z_in_iff, oI2L, oL2I, Int.toNat_natCast, z_toNat0, Bool.not_eq_true', Bool.not_eq_false', ne_eq, Bool.not_true, Bool.not_false, Nat.add_zero, Int.add_zero, z_sl_s]
        (repeat' (first | omega | exact ⟨Sr, rfl, fr⟩ | refine And.intro ?_ ?_ | intro _))
        done
      · rintro ρ h' ⟨Sr, z1, z2, z3, z4, z5, z6, z7, rfl, fr, rfl⟩
        have hS : Sr (50 + 9 * i) = F := (fr _ (by unfold cFree; omega) id).trans hF.symm
        have sm := f_areSame (X := kP P) (S := Sr) hi hi (by rw [hS]; exact pF) (by rw [hS]; exact pF)
        rw [(z_dec_iff _).mpr (pSame.rf _)] at sm
        have t1 : (9 * (i : Int) + (pUp F n : Int)).toNat = 9 * i + pUp F n := by omega
        have t2 : (9 * (i : Int) + (pUp F 0 : Int)).toNat = 9 * i + pUp F 0 := by omega
        have m1 := mF _ (uU n (Nat.le_refl n))
        have m2 := mF _ (uU 0 (Nat.zero_le n))
        have u1 := uU n (Nat.le_refl n)
        have u2 := uU 0 (Nat.zero_le n)
        have sb := sA n (Nat.le_refl n)
        have g6 : ¬ (pCors F 9 = 0) := by omega
        have g7 : ¬ ((pUp F n : Int) < 0) := by omega
        simp only [s_L_isPoly_406, nn, g4, g5, g6, g7, kP_a, t1, t2, m1, m2, sm, z_vB1, z_vB0, if_true, if_false, not_true_eq_false, not_false_eq_true, exists_eq, qS_nop, qS_seq, qS_set, qS_setJ, qS_if, qS_brk, qS_ret, qS_retV, qS_throw, qS_inc, qS_cl, qS_ast, qS_aop, qS_fst, qS_fop, qS_sw, qT_eC, qT_eCB, qT_eL, qT_eLJ, qT_eLR, qT_eLS, qT_eSLen, qT_eSLd, qT_eLB, qT_e1, qT_e2, qT_bCmp, qT_bCmpJ, qT_bAnd, qT_bOr, qT_bNot, qT_eBI, qT_eIf, qT_eLd, qT_eLdR, qT_eLen, qT_eF, qT_eFR, qT_aN, qT_aS, qT_eCl, qT_eClR, qT_eClB, qT_some, qT_x, z_nx_N, z_nx_B, z_nx_R, z_nx_X, z_bk_N, z_bk_B, z_bk_R, z_bk_X, oAdd, oSub, oMul, oNeg, cLt, cLe, cGt, cGe, cEq, cNe, Option.some.injEq, Sum.inl.injEq, Sum.inr.injEq, Prod.mk.injEq, exists_eq_left, exists_eq_left', exists_eq_right, exists_and_left, reduceCtorEq, and_true, true_and, and_false, false_and, List.getElem?_cons_zero, List.getElem?_cons_succ, List.set_cons_zero, List.set_cons_succ, List.replicate, List.length_cons, List.length_nil, List.cons_append, List.nil_append, Nat.reduceAdd, Nat.reduceSub, decide_eq_true_eq, decide_eq_false_iff_not, Bool.true_eq_false, Bool.false_eq_true, true_implies, false_implies, implies_true, Nat.reduceLT, exists_const, z_vB_inj, and_assoc, z_in_iff, oI2L, oL2I, Int.toNat_natCast, z_toNat0, Bool.not_eq_true', Bool.not_eq_false', ne_eq, Bool.not_true, Bool.not_false, Nat.add_zero, Int.add_zero, z_sl_s]
        (repeat' (first | omega | exact ⟨Sr, rfl, fr⟩ | refine And.intro ?_ ?_ | intro _))
        done
  have q : ∃ h', m_L_isPoly [vR 0, vR 85, vI (i : Int)] (k_W (kP P) S) = some (.inl (some (vB true)), h') ∧ ∃ S', h' = k_W (kP P) S' ∧ cFr (fun _ => False) S S' := by
    unfold m_L_isPoly
    apply q_bodyV
    have b6 : INF = 1000000 := rfl
    simp only [b_L_isPoly, s_L_isPoly_6, s_L_isPoly_9, s_L_isPoly_12, s_L_isPoly_15, s_L_isPoly_18, s_L_isPoly_21, s_L_isPoly_42, ro, as, z_vB1, z_vB0, if_true, if_false, not_true_eq_false, not_false_eq_true, exists_eq, qS_nop, qS_seq, qS_set, qS_setJ, qS_if, qS_brk, qS_ret, qS_retV, qS_throw, qS_inc, qS_cl, qS_ast, qS_aop, qS_fst, qS_fop, qS_sw, qT_eC, qT_eCB, qT_eL, qT_eLJ, qT_eLR, qT_eLS, qT_eSLen, qT_eSLd, qT_eLB, qT_e1, qT_e2, qT_bCmp, qT_bCmpJ, qT_bAnd, qT_bOr, qT_bNot, qT_eBI, qT_eIf, qT_eLd, qT_eLdR, qT_eLen, qT_eF, qT_eFR, qT_aN, qT_aS, qT_eCl, qT_eClR, qT_eClB, qT_some, qT_x, z_nx_N, z_nx_B, z_nx_R, z_nx_X, z_bk_N, z_bk_B, z_bk_R, z_bk_X, oAdd, oSub, oMul, oNeg, cLt, cLe, cGt, cGe, cEq, cNe, Option.some.injEq, Sum.inl.injEq, Sum.inr.injEq, Prod.mk.injEq, exists_eq_left, exists_eq_left', exists_eq_right, exists_and_left, reduceCtorEq, and_true, true_and, and_false, false_and, List.getElem?_cons_zero, List.getElem?_cons_succ, List.set_cons_zero, List.set_cons_succ, List.replicate, List.length_cons, List.length_nil, List.cons_append, List.nil_append, Nat.reduceAdd, Nat.reduceSub, decide_eq_true_eq, decide_eq_false_iff_not, Bool.true_eq_false, Bool.false_eq_true, true_implies, false_implies, implies_true, Nat.reduceLT, exists_const, z_vB_inj, and_assoc, z_in_iff, oI2L, oL2I, Int.toNat_natCast, z_toNat0, Bool.not_eq_true', Bool.not_eq_false', ne_eq, Bool.not_true, Bool.not_false, Nat.add_zero, Int.add_zero, z_sl_s]
    repeat (refine And.intro (by omega) ?_)
    refine qS_loop (fun k ρ h' => h' = k_W (kP P) S ∧ ∃ z, ρ = [vR 0, vR 85, vI (i : Int), vI (n : Int), vI (loF F k), vI (hiF F k), vI (pCors F k), vI 0, vI 0, vB true, vI (k : Int), z, vU, vU, vU, vU, vU, vU]) 9 ?_ ?_ 9 0 z_fuel _ _ (by omega) (z_fuel_lt (by omega)) ⟨rfl, _, rfl⟩
    · rintro k ρ h' hk ⟨rfl, z, rfl⟩
      have t1 : (9 * (i : Int) + (k : Int)).toNat = 9 * i + k := by omega
      have mk := mF k hk
      have fk := pF.z hk
      have sk := sp k hk
      have lb := L k
      have hb := H k
      have cs : pCors F (k + 1) = pCors F k + (if z_dec (pCor F k) = true then 1 else 0) := rfl
      have cbk := pCors_b F k
      have l1 : loF F (k + 1) = if F k ≠ INF ∧ loF F k < 0 then (k : Int) else loF F k := rfl
      have l2 : hiF F (k + 1) = if F k ≠ INF then (k : Int) else hiF F k := rfl
      have hc : (F k = 1000000 ∧ z_dec (pSpare F k) = false ∧ z_dec (pCor F k) = false) ∨ (¬ F k = 1000000 ∧ z_dec (pCor F k) = !(z_dec (pSpare F k))) := isp_c
      rw [cs, l1, l2]
      simp only [l_L_isPoly_52, s_L_isPoly_73, s_L_isPoly_92, s_L_isPoly_106, s_L_isPoly_131, kP_a, t1, mk, sk, z_vB1, z_vB0, if_true, if_false, not_true_eq_false, not_false_eq_true, exists_eq, qS_nop, qS_seq, qS_set, qS_setJ, qS_if, qS_brk, qS_ret, qS_retV, qS_throw, qS_inc, qS_cl, qS_ast, qS_aop, qS_fst, qS_fop, qS_sw, qT_eC, qT_eCB, qT_eL, qT_eLJ, qT_eLR, qT_eLS, qT_eSLen, qT_eSLd, qT_eLB, qT_e1, qT_e2, qT_bCmp, qT_bCmpJ, qT_bAnd, qT_bOr, qT_bNot, qT_eBI, qT_eIf, qT_eLd, qT_eLdR, qT_eLen, qT_eF, qT_eFR, qT_aN, qT_aS, qT_eCl, qT_eClR, qT_eClB, qT_some, qT_x, z_nx_N, z_nx_B, z_nx_R, z_nx_X, z_bk_N, z_bk_B, z_bk_R, z_bk_X, oAdd, oSub, oMul, oNeg, cLt, cLe, cGt, cGe, cEq, cNe, Option.some.injEq, Sum.inl.injEq, Sum.inr.injEq, Prod.mk.injEq, exists_eq_left, exists_eq_left', exists_eq_right, exists_and_left, reduceCtorEq, and_true, true_and, and_false, false_and, List.getElem?_cons_zero, List.getElem?_cons_succ, List.set_cons_zero, List.set_cons_succ, List.replicate, List.length_cons, List.length_nil, List.cons_append, List.nil_append, Nat.reduceAdd, Nat.reduceSub, decide_eq_true_eq, decide_eq_false_iff_not, Bool.true_eq_false, Bool.false_eq_true, true_implies, false_implies, implies_true, Nat.reduceLT, exists_const, z_vB_inj, and_assoc, z_in_iff, oI2L, oL2I, Int.toNat_natCast, z_toNat0, Bool.not_eq_true', Bool.not_eq_false', ne_eq, Bool.not_true, Bool.not_false, Nat.add_zero, Int.add_zero, z_sl_s]
      clear cs l1 l2 sk
      generalize loF F k = a1 at *
      generalize hiF F k = a2 at *
      generalize pCors F k = a3 at *
      generalize z_dec (pCor F k) = d1 at *
      generalize z_dec (pSpare F k) = d2 at *
      rcases hc with ⟨c1, c2, c3⟩ | ⟨c1, c2⟩
      · subst c2 c3
        simp only [List.cons.injEq, Sum.inl.injEq, Sum.inr.injEq, z_vB_inj, and_true, true_and, exists_eq', exists_eq_left, exists_eq_left', exists_eq_right, exists_eq_right', exists_and_left, exists_and_right, exists_const, if_true, if_false, z_vB1, z_vB0, z_vBP, z_bd, decide_eq_true_eq, decide_eq_false_iff_not, Bool.not_eq_true', Bool.false_eq_true, Bool.true_eq_false, z_dec_iff, z_dec_f, z_dec_inj, true_iff, iff_true, false_iff, iff_false, not_true_eq_false, not_false_eq_true, Classical.not_not]
        (repeat' (first | apply And.intro | intro _)) <;> first | omega | rfl | grind
      · subst c2
        cases d2
        · simp only [List.cons.injEq, Sum.inl.injEq, Sum.inr.injEq, z_vB_inj, and_true, true_and, exists_eq', exists_eq_left, exists_eq_left', exists_eq_right, exists_eq_right', exists_and_left, exists_and_right, exists_const, if_true, if_false, z_vB1, z_vB0, z_vBP, z_bd, decide_eq_true_eq, decide_eq_false_iff_not, Bool.not_eq_true', Bool.false_eq_true, Bool.true_eq_false, z_dec_iff, z_dec_f, z_dec_inj, true_iff, iff_true, false_iff, iff_false, not_true_eq_false, not_false_eq_true, Classical.not_not]
          (repeat' (first | apply And.intro | intro _)) <;> first | omega | rfl | grind
        · simp only [List.cons.injEq, Sum.inl.injEq, Sum.inr.injEq, z_vB_inj, and_true, true_and, exists_eq', exists_eq_left, exists_eq_left', exists_eq_right, exists_eq_right', exists_and_left, exists_and_right, exists_const, if_true, if_false, z_vB1, z_vB0, z_vBP, z_bd, decide_eq_true_eq, decide_eq_false_iff_not, Bool.not_eq_true', Bool.false_eq_true, Bool.true_eq_false, z_dec_iff, z_dec_f, z_dec_inj, true_iff, iff_true, false_iff, iff_false, not_true_eq_false, not_false_eq_true, Classical.not_not]
          (repeat' (first | apply And.intro | intro _)) <;> first | omega | rfl | grind
    · rintro ρ h' ⟨rfl, z, rfl⟩
      have e9 : ((9 : Nat) : Int) = 9 := rfl
      simp only [e9, main z, qS_nop, qS_seq, qS_set, qS_setJ, qS_if, qS_brk, qS_ret, qS_retV, qS_throw, qS_inc, qS_cl, qS_ast, qS_aop, qS_fst, qS_fop, qS_sw, qT_eC, qT_eCB, qT_eL, qT_eLJ, qT_eLR, qT_eLS, qT_eSLen, qT_eSLd, qT_eLB, qT_e1, qT_e2, qT_bCmp, qT_bCmpJ, qT_bAnd, qT_bOr, qT_bNot, qT_eBI, qT_eIf, qT_eLd, qT_eLdR, qT_eLen, qT_eF, qT_eFR, qT_aN, qT_aS, qT_eCl, qT_eClR, qT_eClB, qT_some, qT_x, z_nx_N, z_nx_B, z_nx_R, z_nx_X, z_bk_N, z_bk_B, z_bk_R, z_bk_X, oAdd, oSub, oMul, oNeg, cLt, cLe, cGt, cGe, cEq, cNe, Option.some.injEq, Sum.inl.injEq, Sum.inr.injEq, Prod.mk.injEq, exists_eq_left, exists_eq_left', exists_eq_right, exists_and_left, reduceCtorEq, and_true, true_and, and_false, false_and, List.getElem?_cons_zero, List.getElem?_cons_succ, List.set_cons_zero, List.set_cons_succ, List.replicate, List.length_cons, List.length_nil, List.cons_append, List.nil_append, Nat.reduceAdd, Nat.reduceSub, decide_eq_true_eq, decide_eq_false_iff_not, Bool.true_eq_false, Bool.false_eq_true, true_implies, false_implies, implies_true, Nat.reduceLT, exists_const, z_vB_inj, and_assoc, z_in_iff, oI2L, oL2I, Int.toNat_natCast, z_toNat0, Bool.not_eq_true', Bool.not_eq_false', ne_eq, Bool.not_true, Bool.not_false, Nat.add_zero, Int.add_zero, z_sl_s]
      omega
  obtain ⟨h', q1, S', rfl, q2⟩ := q
  exact ⟨S', q1, q2⟩
end LI2
