/-! THE LAW: isReduced; no reference beyond the cells -/
section WF
def wfB (v : z_V) : Bool := match v with
  | .inr (.inr (.inl r)) => decide (r < 85)
  | _ => true
theorem wfB_V {v : z_V} (h : wfB v = true) : z_wfV 85 v := by
  rcases v with x | x | r | u
  · exact True.intro
  · exact True.intro
  · have h2 : decide (r < 85) = true := h
    exact (of_decide_eq_true h2 : r < 85)
  · exact True.intro
theorem wfO {ci : Nat} {fs : List z_V} (h : fs.all wfB = true) : z_wfC 85 (.inl (ci, fs)) := fun v hv => wfB_V (List.all_eq_true.mp h v hv)
theorem wfA0 {n : Nat} {f : Nat → Int} : z_wfC 85 (.inr (0, n, f)) := fun h => absurd h (by decide)
theorem wfAr {t m b s : Nat} (h : b + s * (m - 1) < 85) : z_wfC 85 (.inr (t, m, fun j => if j < m then ((b + s * j : Nat) : Int) else -1)) := fun _ j hj => by
  have h2 := Nat.mul_le_mul_left s (show j ≤ m - 1 by omega)
  show (if j < m then ((b + s * j : Nat) : Int) else -1) < ((85 : Nat) : Int)
  rw [if_pos hj]
  exact Int.ofNat_lt.mpr (Nat.lt_of_le_of_lt (Nat.add_le_add_left h2 b) h)
theorem k_tab_wf : ∀ y ∈ k_tab, ∀ f : Nat → Int, z_wfC 85 (y f) := by
  unfold k_tab
  repeat' first
    | exact wfA0
    | exact wfO rfl
    | exact wfAr (by decide)
    | exact fun _ h => absurd h List.not_mem_nil
    | refine List.forall_mem_cons.mpr ⟨fun _ => ?_, ?_⟩
theorem k_wfC {a : Nat} (ha : a < 85) (f : Nat → Int) : z_wfC 85 (k_C a f) := by
  have hl : k_tab.length = 85 := rfl
  have hx : a < k_tab.length := by rw [hl]; exact ha
  unfold k_C
  rw [List.getElem?_eq_getElem hx]
  exact k_tab_wf _ (List.getElem_mem hx) f
theorem k_wf (S : Nat → Nat → Int) : z_wf 85 (k_W [] S) := fun c hc => by
  unfold k_W at hc
  rw [List.append_nil] at hc
  obtain ⟨a, ha, rfl⟩ := List.mem_map.mp hc
  exact k_wfC (List.mem_range.mp ha) (S a)
theorem k_take (Y : z_Hp) (S : Nat → Nat → Int) : (k_W Y S).take 85 = k_W [] S := by
  unfold k_W
  rw [List.append_nil]
  exact List.take_left' (by simp)
theorem k_app (Y : z_Hp) (S : Nat → Nat → Int) : k_W [] S ++ Y = k_W Y S := by
  unfold k_W
  rw [List.append_nil]
theorem k_x85a (f : Nat → Int) (S : Nat → Nat → Int) : z_arr (k_W [.inr (0, 5, f)] S) 85 0 = some (5, f) := q_arr ((k_hi (by decide)).trans rfl) (by decide)
theorem k_x85s (y z : z_Cl) (S : Nat → Nat → Int) : (k_W [y] S).set 85 z = k_W [z] S := k_setX (i := 0)
theorem q_bodyN {nL i N : Nat} {s : z_St} {L : List z_V} {S : Nat → Nat → Int} {r : Int} {R : (Nat → Nat → Int) → Prop} (hL : ∀ v ∈ L, z_wfV 85 v) (H : qS s ((L ++ List.replicate (nL - L.length) vU).set i (vR 85)) (k_W [.inr (0, N, fun _ => 0)] S) (fun oc h1 => oc = oR (some (vI r)) ∧ ∃ S' Y, h1 = k_W [Y] S' ∧ R S')) : ∃ S', z_bodyN nL i N s L (k_W [] S) = some (.inl (some (vI r)), k_W [] S') ∧ R S' := by
  have l : (k_W [] S).length = 85 := k_len [] S
  unfold qS at H
  unfold z_bodyN
  rw [l, k_app]
  rcases hs : s ((L ++ List.replicate (nL - L.length) vU).set i (vR 85)) (k_W [.inr (0, N, fun _ => 0)] S) with _ | ⟨oc, h1⟩
  · rw [hs] at H
    exact H.elim
  · rw [hs] at H
    obtain ⟨rfl, S', Y, rfl, hR⟩ := H
    refine ⟨S', ?_, hR⟩
    rw [z_ife_t ⟨k_wf S, hL⟩]
    change z_ife (85 ≤ (k_W [Y] S').length ∧ z_wf 85 ((k_W [Y] S').take 85)) (some (Sum.inl (some (vI r)), (k_W [Y] S').take 85)) none = _
    rw [k_take, z_ife_t ⟨by rw [k_len]; omega, k_wf S'⟩]
end WF
section FIR
variable {X : z_Hp} {S : Nat → Nat → Int}
theorem cFr.B {S' : Nat → Nat → Int} (h : cFr (fun _ => False) S S') : kF S' 10 5 = kF S 10 5 ∧ S' 15 = S 15 ∧ kQ S' = kQ S := by
  have e : kF S' 10 5 = kF S 10 5 := kF_e (fun x hx => h _ (by unfold cFree; omega) id)
  refine ⟨e, h 15 (by unfold cFree; omega) id, ?_⟩
  unfold kQ
  rw [e]
/-- what `reduced` comes to -/
theorem a7 (I : cInv S) {i j : Nat} (hi : i < 5) (hj : j < 5) (c : Int) : ∃ S' t, cFr (fun _ => False) S S' ∧ m_L_asks [vR 0, vI 7, vI (i : Int), vI (j : Int), vI c] (k_W X S) = some (.inl (some (vI t)), k_W X S') ∧
    ((¬ (nHv (kF S 10 5) i ∧ nHv (kF S 10 5) j ∧ kQ S) ∧ t = -70008) ∨ ((nHv (kF S 10 5) i ∧ nHv (kF S 10 5) j ∧ kQ S) ∧ ∃ W, hEq (kF S 10 5) (S 15) W ∧ cRd (kF S 10 5) i W ∧ t = W j)) := by
  obtain ⟨S', fr, w⟩ := f_reduced (X := X) I hi hj
  rcases w with ⟨w1, w2⟩ | ⟨w1, P, W, m, h1, h2, h3, h4, h5⟩
  · exact ⟨S', -70008, fr, f_asks7_is w2, Or.inl ⟨w1, rfl⟩⟩
  · exact ⟨S', W j, fr, f_asks7_ok h5, Or.inr ⟨w1, W, hEq.cg (fun v hv => (h1 v hv).symm) h2.1, h4, rfl⟩⟩
theorem red_b {B : Nat → Nat → Int} {V W : Nat → Int} (g : gOk B) {i : Nat} (hi : i < 5) (hn : nHv B i) (hV : nVb V 113) (e : hEq B V W) (r : cRd B i W) : nVb W 1000 := by
  have fb : ∀ u, u < 5 → u ≠ i → 0 ≤ (if z_dec (nHv B u) = true then W u else 0) ∧ (if z_dec (nHv B u) = true then W u else 0) ≤ 11 := fun u hu ne => by
    split
    · next q =>
      have nu := (z_dec_iff _).mp q
      exact ⟨r.1 u hu ne nu, r.hi g hu ne nu⟩
    · omega
  have d := nDg_eq g e
  have db := nDg_b (B := B) (by decide) hV 5 (by decide)
  rw [← d, nDg_5] at db
  have fi : (if z_dec (nHv B i) = true then W i else 0) = W i := if_pos ((z_dec_iff _).mpr hn)
  have wi : -1000 ≤ W i ∧ W i ≤ 1000 := by
    rw [← fi]
    unfold s5 at db
    dsimp only at db
    rcases (by omega : i = 0 ∨ i = 1 ∨ i = 2 ∨ i = 3 ∨ i = 4) with rfl | rfl | rfl | rfl | rfl
    · have := fb 1 (by decide) (by decide); have := fb 2 (by decide) (by decide); have := fb 3 (by decide) (by decide); have := fb 4 (by decide) (by decide)
      omega
    · have := fb 0 (by decide) (by decide); have := fb 2 (by decide) (by decide); have := fb 3 (by decide) (by decide); have := fb 4 (by decide) (by decide)
      omega
    · have := fb 0 (by decide) (by decide); have := fb 1 (by decide) (by decide); have := fb 3 (by decide) (by decide); have := fb 4 (by decide) (by decide)
      omega
    · have := fb 0 (by decide) (by decide); have := fb 1 (by decide) (by decide); have := fb 2 (by decide) (by decide); have := fb 4 (by decide) (by decide)
      omega
    · have := fb 0 (by decide) (by decide); have := fb 1 (by decide) (by decide); have := fb 2 (by decide) (by decide); have := fb 3 (by decide) (by decide)
      omega
  intro v hv
  by_cases c : v = i
  · rw [c]; exact wi
  · by_cases n : nHv B v
    · have := r.1 v hv c n
      have := r.hi g hv c n
      omega
    · have := hV v hv
      rw [e.off0 g hv n]
      omega
def irK (S : Nat → Nat → Int) (i k : Nat) (D n : Int) (ρ : List z_V) (h' : z_Hp) : Prop := ∃ Sk f z, h' = k_W [.inr (0, 5, f)] Sk ∧ ρ = [vR 0, vI (i : Int), vI D, vR 85, vI n, vB true, vI (k : Int), z] ∧ cFr (fun _ => False) S Sk
theorem f_isred (I : cInv S) {i : Nat} (hi : i < 5) (hn : nHv (kF S 10 5) i) (q : kQ S) : ∃ S', m_L_isReduced [vR 0, vI (i : Int), vI (nDg (kF S 10 5) (S 15) 5)] (k_W [] S) = some (.inl (some (vB true)), k_W [] S') ∧ cFr (fun _ => False) S S' := by
  have b6 : INF = 1000000 := rfl
  obtain ⟨W, e, r⟩ : ∃ W, hEq (kF S 10 5) (S 15) W ∧ cRd (kF S 10 5) i W := by
    obtain ⟨_, _, -, -, w⟩ := a7 (X := []) I hi hi 0
    rcases w with ⟨w, -⟩ | ⟨-, W, h1, h2, -⟩
    · exact absurd ⟨hn, hn, q⟩ w
    · exact ⟨W, h1, h2⟩
  have g := I.g
  have Wb := red_b g hi hn (fun v hv => by have := I.2.2.2.1.2 v hv; omega) e r
  have nb := fun k hk => nDg_b (B := kF S 10 5) (by decide) Wb k hk
  obtain ⟨N, hN⟩ : ∃ N : Nat → Int, N = fun k => nDg (kF S 10 5) W k := ⟨_, rfl⟩
  have nb : ∀ k, k ≤ 5 → -5000 ≤ N k ∧ N k ≤ 5000 := fun k hk => by
    have := nb k hk
    rw [hN]
    show -5000 ≤ nDg (kF S 10 5) W k ∧ nDg (kF S 10 5) W k ≤ 5000
    omega
  have N0 : N 0 = 0 := by rw [hN]; rfl
  have N5 : nDg (kF S 10 5) (S 15) 5 = N 5 := by rw [hN]; exact (nDg_eq g e).symm
  have Ns : ∀ k, N (k + 1) = N k + (if z_dec (nHv (kF S 10 5) k) = true then W k else 0) := fun k => by rw [hN]; exact nDg_s W k
  rw [N5]
  obtain ⟨D, hD⟩ : ∃ D, D = N 5 := ⟨_, rfl⟩
  have bD := nb 5 (by decide)
  rw [← hD] at bD ⊢
  unfold m_L_isReduced
  refine q_bodyN (r := 1) (R := fun S' => cFr (fun _ => False) S S') (fun v hv => ?_) ?_
  · simp only [List.mem_cons, List.not_mem_nil, or_false] at hv
    rcases hv with rfl | rfl | rfl
    · exact (by decide : (0 : Nat) < 85)
    · exact True.intro
    · exact True.intro
  simp only [b_L_isReduced, bb_L_isReduced, z_vB1, z_vB0, if_true, if_false, not_true_eq_false, not_false_eq_true, exists_eq, qS_nop, qS_seq, qS_set, qS_setJ, qS_if, qS_brk, qS_ret, qS_retV, qS_throw, qS_inc, qS_cl, qS_ast, qS_aop, qS_fst, qS_fop, qS_sw, qT_eC, qT_eCB, qT_eL, qT_eLJ, qT_eLR, qT_eLS, qT_eSLen, qT_eSLd, qT_eLB, qT_e1, qT_e2, qT_bCmp, qT_bCmpJ, qT_bAnd, qT_bOr, qT_bNot, qT_eBI, qT_eIf, qT_eLd, qT_eLdR, qT_eLen, qT_eF, qT_eFR, qT_aN, qT_aS, qT_eCl, qT_eClR, qT_eClB, qT_some, qT_x, z_nx_N, z_nx_B, z_nx_R, z_nx_X, z_bk_N, z_bk_B, z_bk_R, z_bk_X, oAdd, oSub, oMul, oNeg, cLt, cLe, cGt, cGe, cEq, cNe, Option.some.injEq, Sum.inl.injEq, Sum.inr.injEq, Prod.mk.injEq, exists_eq_left, exists_eq_left', exists_eq_right, exists_and_left, reduceCtorEq, and_true, true_and, and_false, false_and, List.getElem?_cons_zero, List.getElem?_cons_succ, List.set_cons_zero, List.set_cons_succ, List.replicate, List.length_cons, List.length_nil, List.cons_append, List.nil_append, Nat.reduceAdd, Nat.reduceSub, decide_eq_true_eq, decide_eq_false_iff_not, Bool.true_eq_false, Bool.false_eq_true, true_implies, false_implies, implies_true, Nat.reduceLT, exists_const, z_vB_inj, and_assoc, z_in_iff, oI2L, oL2I, Int.toNat_natCast, z_toNat0, Bool.not_eq_true', Bool.not_eq_false', ne_eq, Bool.not_true, Bool.not_false, Nat.add_zero, Int.add_zero, z_sl_s]
  refine qS_loop (fun k ρ h' => irK S i k D (N k) ρ h') 5 ?_ ?_ 5 0 z_fuel _ _ (by omega) (z_fuel_lt (by omega)) ⟨S, fun _ => 0, vU, rfl, by rw [N0]; rfl, cFr.refl _ _⟩
  · rintro k ρ h' hk ⟨Sk, f, z, e1, e2, fr⟩
    obtain ⟨Bk, Vk, Qk⟩ := fr.B
    obtain ⟨S1, a, fr1, as, w⟩ := a7 (X := [.inr (0, 5, f)]) (I.eq fr) hi hk 0
    rw [Bk, Vk, Qk] at w
    obtain ⟨v, hv⟩ : ∃ v : Int, v = if z_dec (nHv (kF S 10 5) k) = true then W k else 0 := ⟨_, rfl⟩
    have nk := Ns k
    rw [← hv] at nk
    have n1 := nb k (by omega)
    have n2 := nb (k + 1) (by omega)
    have av : (a = -70008 ∧ v = 0) ∨ (a ≠ -70008 ∧ v = a ∧ (0 ≤ a ∨ k = i) ∧ -1000 ≤ a ∧ a ≤ 1000) := by
      rcases w with ⟨w, w2⟩ | ⟨w, W', u1, u2, u3⟩
      · refine Or.inl ⟨w2, ?_⟩
        rw [hv, (z_dec_f _).mpr (fun h => w ⟨hn, h, q⟩), if_neg Bool.false_ne_true]
      · have un := r.un g u2 (e.sy.tr u1) hi hn k hk
        have wb := Wb k hk
        have hv : v = W k := by rw [hv, (z_dec_iff _).mpr w.2.1, if_pos rfl]
        refine Or.inr ⟨by omega, by omega, ?_, by omega, by omega⟩
        by_cases c : k = i
        · exact Or.inr c
        · have := r.1 k hk c w.2.1
          exact Or.inl (by omega)
    have nx : ∀ g y n z, y = 1 → n = N (k + 1) → irK S i (k + 1) D (N (k + 1)) [vR 0, vI (i : Int), vI D, vR 85, vI n, vI y, vI ((k : Int) + 1), z] (k_W [.inr (0, 5, g)] S1) := fun g y n z h1 h2 => ⟨S1, g, z, rfl, by rw [h1, h2]; rfl, fr.trans fr1⟩
    have zu : ∀ (f : Nat → Int) v, z_up f k v k = v := fun f v => if_pos rfl
    clear hD N5 Ns nb Wb hN
    subst e1
    subst e2
    simp only [bs_L_isReduced, s_L_isReduced_31, s_L_isReduced_48, s_L_isReduced_57, as, k_x85a, k_x85s, zu, z_vB1, z_vB0, if_true, if_false, not_true_eq_false, not_false_eq_true, exists_eq, qS_nop, qS_seq, qS_set, qS_setJ, qS_if, qS_brk, qS_ret, qS_retV, qS_throw, qS_inc, qS_cl, qS_ast, qS_aop, qS_fst, qS_fop, qS_sw, qT_eC, qT_eCB, qT_eL, qT_eLJ, qT_eLR, qT_eLS, qT_eSLen, qT_eSLd, qT_eLB, qT_e1, qT_e2, qT_bCmp, qT_bCmpJ, qT_bAnd, qT_bOr, qT_bNot, qT_eBI, qT_eIf, qT_eLd, qT_eLdR, qT_eLen, qT_eF, qT_eFR, qT_aN, qT_aS, qT_eCl, qT_eClR, qT_eClB, qT_some, qT_x, z_nx_N, z_nx_B, z_nx_R, z_nx_X, z_bk_N, z_bk_B, z_bk_R, z_bk_X, oAdd, oSub, oMul, oNeg, cLt, cLe, cGt, cGe, cEq, cNe, Option.some.injEq, Sum.inl.injEq, Sum.inr.injEq, Prod.mk.injEq, exists_eq_left, exists_eq_left', exists_eq_right, exists_and_left, reduceCtorEq, and_true, true_and, and_false, false_and, List.getElem?_cons_zero, List.getElem?_cons_succ, List.set_cons_zero, List.set_cons_succ, List.replicate, List.length_cons, List.length_nil, List.cons_append, List.nil_append, Nat.reduceAdd, Nat.reduceSub, decide_eq_true_eq, decide_eq_false_iff_not, Bool.true_eq_false, Bool.false_eq_true, true_implies, false_implies, implies_true, Nat.reduceLT, exists_const, z_vB_inj, and_assoc, z_in_iff, oI2L, oL2I, Int.toNat_natCast, z_toNat0, Bool.not_eq_true', Bool.not_eq_false', ne_eq, Bool.not_true, Bool.not_false, Nat.add_zero, Int.add_zero, z_sl_s]
    (repeat' (first | apply And.intro | intro _)) <;> first | omega | exact nx _ _ _ _ rfl (by omega) | exact nx _ _ _ _ (if_pos (decide_eq_true (by omega))) (by omega)
  · rintro ρ h' ⟨Sk, f, z, rfl, rfl, fr⟩
    have n5 := nb 5 (by decide)
    simp only [hD, eq_self, decide_true, z_vB1, z_vB0, if_true, if_false, not_true_eq_false, not_false_eq_true, exists_eq, qS_nop, qS_seq, qS_set, qS_setJ, qS_if, qS_brk, qS_ret, qS_retV, qS_throw, qS_inc, qS_cl, qS_ast, qS_aop, qS_fst, qS_fop, qS_sw, qT_eC, qT_eCB, qT_eL, qT_eLJ, qT_eLR, qT_eLS, qT_eSLen, qT_eSLd, qT_eLB, qT_e1, qT_e2, qT_bCmp, qT_bCmpJ, qT_bAnd, qT_bOr, qT_bNot, qT_eBI, qT_eIf, qT_eLd, qT_eLdR, qT_eLen, qT_eF, qT_eFR, qT_aN, qT_aS, qT_eCl, qT_eClR, qT_eClB, qT_some, qT_x, z_nx_N, z_nx_B, z_nx_R, z_nx_X, z_bk_N, z_bk_B, z_bk_R, z_bk_X, oAdd, oSub, oMul, oNeg, cLt, cLe, cGt, cGe, cEq, cNe, Option.some.injEq, Sum.inl.injEq, Sum.inr.injEq, Prod.mk.injEq, exists_eq_left, exists_eq_left', exists_eq_right, exists_and_left, reduceCtorEq, and_true, true_and, and_false, false_and, List.getElem?_cons_zero, List.getElem?_cons_succ, List.set_cons_zero, List.set_cons_succ, List.replicate, List.length_cons, List.length_nil, List.cons_append, List.nil_append, Nat.reduceAdd, Nat.reduceSub, decide_eq_true_eq, decide_eq_false_iff_not, Bool.true_eq_false, Bool.false_eq_true, true_implies, false_implies, implies_true, Nat.reduceLT, exists_const, z_vB_inj, and_assoc, z_in_iff, oI2L, oL2I, Int.toNat_natCast, z_toNat0, Bool.not_eq_true', Bool.not_eq_false', ne_eq, Bool.not_true, Bool.not_false, Nat.add_zero, Int.add_zero, z_sl_s]
    (repeat' (first | apply And.intro | intro _)) <;> first | omega | rfl | exact ⟨Sk, _, rfl, fr⟩
end FIR
