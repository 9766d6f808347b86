/-! THE LAW'S OWN WALK: chips on a new object; the loops' ends; the start -/
section LN
theorem z_sw_nar {b0 b1 sa : Nat} (h0 : sa < b0) (h1 : sa < b1) (hle : b0 ≤ b1) (sc : List Int) {U : State} (h : z_sw (bs h0 sc) U) : z_sw (bs h1 sc) U := ⟨vx_Zq.narrow h.1 (fun q hq => Nat.le_trans hle hq), vx_Zq.narrow h.2.1 (fun q hq => Nat.le_trans hle hq), h.2.2.1, h.2.2.2.1, h.2.2.2.2.1, h.2.2.2.2.2⟩
variable {p : Program} {l : Launch} {e : Env} {s : State} {m : MethodId} {below : List Frame} {meth : Method} {c : Code} {b : Nat} {hb0 : b < s.heap.size} {sc : List Int} {D : va_G} {dT : Nat → ClassId} {tb : List ExceptionTableEntry}
set_option maxHeartbeats 4000000 in
theorem lw_new (C : lC p l s m meth c b hb0 sc tb) (hfl : l.stackTraces = false) (hao : z_ao s) (hl : sc.length < 2147483648) {j k : Nat} (hj : j < 3) (hk : k ≤ 900) {h : z_Hp} (kk : lK p l e s m below meth c b hb0 sc D dT (k + 99) h [vS, vR 0, vR 85, vB true, vI (j : Int)] 181 [vB true]) : lK p l e s m below meth c b hb0 sc D dT k h [vS, vR 0, vR 85, vB true, vI (j : Int)] 161 [] := by
  intro H locs ls hR hL
  have hsw := C.2.2.2.2.2.2.2.2.1
  have hle : s.heap.size ≤ H.size := hR.2.2.1
  have hb1 : b < H.size := Nat.lt_of_lt_of_le hb0 hle
  have hlow : ∀ (i : Nat) (q : Nat × va_E), (z_kW (bs hb0 sc) dT h)[i]? = some q → q.1 < H.size := fun i q hq => (hR.1 i q hq).lt
  have hKn := hR.2.1.1 5 (RX5, TX5, 10) rfl
  obtain ⟨S9, e9⟩ := f_lchips k_S0_inv sc hl (a := 410 + 21 * j) (by omega)
  have a9 : ((410 + 21 * j : Nat) : Int) = 410 + 21 * (j : Int) := by omega
  rw [a9, k_W_S0] at e9
  refine W.newcK C.1 C.2.1 C.2.2.2.1 (C.2.2.2.2.1 (Cond.classLink RL 11 RX5) (by decide +kernel)) (C.2.2.2.2.1 (Cond.instantiable RX5 10) (by decide +kernel)) (C.2.2.2.2.1 (Cond.initialized RX5) (by decide +kernel)) rfl dL_law_161 (Nat.le_trans (m := 2000) (by omega) (by decide)) (Nat.le_trans (m := 20000) (by omega) (by decide)) hKn.2.1 rfl (fun H1 kC hkC e1 z1 o1 => ?_)
  have hP1 : va_P D vwCl (z_kW (bs hb1 sc) dT [.inl (5, [vU, vU, vU, vU, vU, vU, vU, vU, vU, vU])]) H1 := fun i q hq => by
    have hz : i < 1 := (List.getElem?_eq_some_iff.mp hq).1
    rw [show i = 0 by omega] at hq
    cases hq
    exact ⟨_, rfl, (u_born tyX5 C.2.2.2.2.1 wsL_fX5 hKn hkC e1 tyX5_ok).to (k_dv5 _)⟩
  have hP0 : va_P D vwCl (z_kW (bs hb0 sc) dT h) H1 := va_P.kept hR.1 (fun i q hq => o1 q.1 (hlow i q hq))
  have hS1 : va_S (z_A (bs hb0 sc)) s.heap H1 locs := ⟨by omega, fun q h1 h2 => (o1 q (by omega)).trans (hR.2.2.2.1 q h1 h2), hR.2.2.2.2⟩
  refine lv_dup C.1 C.2.1 dL_law_164 rfl ?_
  have hr := vx_runI (p := p) (l := l) (e := e) (R := room_1) (s := s) (m := m) (args := #[Value.ref b]) (below := below) (meth := meth) (c := c) (H := H1) (locs := locs) (cells := k + 1) (slots := 6 * k + 10) (y := yX5_init) (b := H.size + 0) (As := []) (rest := [.ref H.size]) (g := F0 m 165 ls [.ref (H.size + 0), .ref H.size]) (cc := cL_law) (nL := 5) (own := RL) (Ts := lw_tbl)
    ⟨C.1, C.2.1, C.2.2.1, C.2.2.2.1, C.2.2.2.2.1⟩ (tk_X5 l hfl H.size b hb1 sc D dT 0 [.inl (5, [vU, vU, vU, vU, vU, vU, vU, vU, vU, vU])] k_st85 k_f5) (cwI 0 C.2.2.2.2.1 (gLT gL_law_X5_init) rfl rfl rfl (C.2.2.2.2.1 _ (by decide +kernel)) (C.2.2.2.2.1 (Cond.methodLink RL 144 yX5_init) (by decide +kernel)) (C.2.2.2.2.1 _ (by decide +kernel)) rfl (by decide +kernel) ⟨by decide, by decide⟩)
    ⟨z_UC_blind, fun U hU hW => ⟨rfl, ⟨by rw [hU]; exact hP1, va_K.moved hW.alike hR.2.1, fun q hq => by rw [hU, z1] at hq; exact Nat.le_trans (Nat.le_succ _) hq, fun _ => by rw [hU, z1]; rfl, z_sw_nar hb0 hb1 hle sc (z_sw.to hW (by rw [hU]; omega) (fun a h1 h2 => by rw [hU]; exact hS1.2.1 a h1 h2) hsw)⟩, z_ao.moved hW.alike hao⟩⟩ rfl rfl (z_lv.sz hL) rfl (Nat.le_of_ble_eq_true rfl) dL_law_165 ⟨Nat.le_trans (m := 2000) (by omega) (by decide), Nat.le_trans (m := 20000) (by omega) (by decide)⟩
  intro T hT X
  rcases hr T hT X with ⟨v, st₀, t, T', Ls9, h0, X', hLs, e2, e3, ⟨⟨r9, ho, hv⟩, hP, hF⟩, stp⟩ | ⟨q, st₀, t, T', Ls9, E, ce, h0, X', hLs, e2, e3, ⟨ho, hP, hF⟩, hce, hcv, hcl, stp⟩
  rotate_left
  · cases ho
  obtain ⟨y1, y2, y3⟩ := vx_keep h0 e2 hS1 (fun q _ hq => Nat.le_trans hle hq) (fun q hq => Nat.le_trans hle hq) hLs hF
  cases ho
  cases hv
  have hP2 : va_P D vwCl (z_kW (bs hb1 sc) dT k_st85) T'.heap := by rw [e2]; exact hP
  have hP3 : va_P D vwCl (z_kW (bs hb0 sc) dT h) T'.heap := va_P.kept hP0 (fun i q hq => y2 q.1 (by have := hlow i q hq; omega) (fun w => absurd w (Nat.not_le.mpr (hlow i q hq))))
  have hz2 : H.size ≤ T'.heap.size := by omega
  have K2 : W p l e room_1 s m #[Value.ref b] below meth c T'.heap (locs ++ Ls9) (k + 1 + 84) (6 * k + 10 + 442) (lw_Zr below #[Value.ref b] s) (F0 m 168 ls [.ref H.size]) := by
    refine lv_aload_n C.1 C.2.1 dL_law_168 rfl (hL.at (i := 0) (v := vS) rfl (fun q => by cases q)) ?_
    refine lv_sipush C.1 C.2.1 dL_law_169 (v := Int32.ofInt 410) (by decide +kernel) ?_
    refine lv_bipush C.1 C.2.1 dL_law_172 (v := Int32.ofInt 21) (by decide +kernel) ?_
    refine lv_iload C.1 C.2.1 dL_law_174 (hL.at (i := 4) (v := vI (j : Int)) rfl (fun q => by cases q)) ?_
    refine lv_imul C.1 C.2.1 dL_law_176 ?_
    refine lv_iadd C.1 C.2.1 dL_law_177 ?_
    have ev : Int32.ofInt 410 + Int32.ofInt 21 * Int32.ofInt (j : Int) = Int32.ofInt (410 + 21 * (j : Int)) := by rw [← Int32.ofInt_mul, ← Int32.ofInt_add]
    rw [ev]
    have hr2 := vx_runS (p := p) (l := l) (e := e) (R := room_1) (s := s) (m := m) (args := #[Value.ref b]) (below := below) (meth := meth) (c := c) (H := T'.heap) (locs := locs ++ Ls9) (cells := k + 1 + 84) (slots := 6 * k + 10 + 442) (y := yL_chips) (As := [vR 0, vS, vI (410 + 21 * (j : Int))].map (z_kV (bs hb1 sc))) (rest := []) (g := F0 m 178 ls [.int (Int32.ofInt (410 + 21 * (j : Int))), .ref b, .ref H.size]) (cc := cL_law) (nL := 5) (own := RL) (Ts := lw_tbl)
      ⟨C.1, C.2.1, C.2.2.1, C.2.2.2.1, C.2.2.2.2.1⟩ (t_L_chips l hfl (bs hb1 sc) D dT [vR 0, vS, vI (410 + 21 * (j : Int))] k_st85 (some (vB true)) _ rfl rfl rfl e9) (va_cwS 3 C.2.2.2.2.1 (gLT gL_law_L_chips) rfl rfl rfl q_L_chips ⟨by decide, by decide⟩)
      ⟨z_U_blind, fun U hU hW => ⟨rfl, by rw [hU]; exact hP2, va_K.moved hW.alike hR.2.1, fun q hq => by rw [hU] at hq; exact Nat.le_trans hz2 hq, fun q => (by cases q), z_sw_nar hb0 hb1 hle sc (z_sw.to hW (by rw [hU]; exact y3.1) (fun a h1 h2 => by rw [hU]; exact y3.2.1 a h1 h2) hsw)⟩⟩ rfl rfl (z_lv.sz hL) rfl (Nat.le_of_ble_eq_true rfl) dL_law_178 ⟨Nat.le_trans (m := 2000) (by omega) (by decide), Nat.le_trans (m := 20000) (by omega) (by decide)⟩
    intro T2 hT2 X2
    rcases hr2 T2 hT2 X2 with ⟨v2, st2, t2, T3, Ls10, h02, X3, hLs2, f1, f2, ⟨⟨r10, ho2, hv2⟩, hPc, hFc⟩, stp2⟩ | ⟨q2, st2, t2, T3, Ls10, E2, ce2, h02, X3, hLs2, f1, f2, ⟨ho2, hPc, hFc⟩, hce2, hcv2, hcl2, stp2⟩
    rotate_left
    · cases ho2
    obtain ⟨w1, w2, w3⟩ := vx_keep h02 f1 y3 (fun q _ hq => Nat.le_trans hle hq) (fun q hq => Nat.le_trans hle hq) hLs2 hFc
    cases ho2
    cases hv2
    have hP4 : va_P D vwCl (z_kW (bs hb0 sc) dT h) T3.heap := va_P.kept hP3 (fun i q hq => w2 q.1 (by have := hlow i q hq; omega) (fun w => absurd w (Nat.not_le.mpr (hlow i q hq))))
    have K4 : W p l e room_1 s m #[Value.ref b] below meth c T3.heap ((locs ++ Ls9) ++ Ls10) (k + 1 + 84 + 14) (6 * k + 10 + 442 + 6 * 14) (lw_Zr below #[Value.ref b] s) (F0 m 181 ls ([vB true].map (z_kV (bs hb0 sc)))) := W.widen (show k + 1 + 84 + 14 ≤ k + 99 by omega) (show 6 * k + 10 + 442 + 6 * 14 ≤ 6 * (k + 99) by omega) (kk T3.heap _ ls ⟨hP4, hR.2.1, w3⟩ hL)
    obtain ⟨t3, a3, b3⟩ := K4 T3 rfl X3
    exact ⟨t3, stp2 t3 a3, b3⟩
  obtain ⟨t2, a1, b1⟩ := K2 T' rfl X'
  exact ⟨t2, stp t2 a1, b1⟩
theorem lw_l3 (C : lC p l s m meth c b hb0 sc tb) (hfl : l.stackTraces = false) (hao : z_ao s) (hl : sc.length < 2147483648) {X : z_Hp} : ∀ (n j k : Nat) (S : Nat → Nat → Int), j + n = 3 → k + 110 * n ≤ 800 → cInv S → lK p l e s m below meth c b hb0 sc D dT k (k_W X S) [vS, vR 0, vR 85, vB true, vI (j : Int)] 118 [] := by
  intro n
  induction n with
  | zero =>
    intro j k S hj hk I
    have e3 : j = 3 := by omega
    subst e3
    refine ((z_iload (KX := fun _ _ => True) (d := 8) (pc := 118) C dL_law_118) _ _ _ (Nat.le_of_ble_eq_true rfl)).1 3 _ rfl ?_
    refine ((z_iconst (KX := fun _ _ => True) (d := 8) (pc := 120) C dL_law_120) _ _ _ (Nat.le_of_ble_eq_true rfl)).1 3 _ rfl ?_
    refine z_icmp_geN (pc := 121) (tgt := 196) C dL_law_121 (by decide) _ _ _ 3 3 (by decide) (fun q => absurd q (by decide)) (fun _ => ?_)
    exact lw_end C (by omega)
  | succ n ih =>
    intro j k S hj hk I
    exact lw_b3 C hfl hl (by omega) (by omega) I (fun S' I' => lw_new C hfl hao hl (by omega) (by omega) (lw_e3 C (ih (j + 1) (k + 11 + 99) S' (by omega) (by omega) I')))
theorem k_S0_p {i k : Nat} (hi : i < 4) (hk : k < 9) : k_S0 (50 + 9 * i) k = INF := by
  have e1 : k_S0 (50 + 9 * i) = fun k => if k < 9 then 1000000 else 0 := by
    match i, hi with
    | 0, _ => rfl
    | 1, _ => rfl
    | 2, _ => rfl
    | 3, _ => rfl
    | i + 4, h => exact absurd h (by omega)
  rw [e1]
  exact if_pos hk
set_option maxHeartbeats 4000000 in
theorem lw_begin (C : lC p l s m meth c b hb0 sc tb) (hfl : l.stackTraces = false) (hao : z_ao s) (hl : sc.length < 2147483648) : z_K p l e room_1 s m #[Value.ref b] below meth c (bs hb0 sc) D dT 99 5 (lw_Zr below #[Value.ref b] s) 0 0 [] [vS, vU, vU, vU, vU] 0 [] := by
  refine zk_new (pc := 0) C (N := 10) (ci := 5) (CC := RX5) (TT := TX5) (fs := [vU, vU, vU, vU, vU, vU, vU, vU, vU, vU]) wsL_fX5 tyX5 tyX5_ok rfl (k_dv5 _) rfl (by decide) (by decide) (by decide +kernel) (by decide +kernel) (by decide +kernel) dL_law_0 ?_
  refine kMk_dup (pc := 3) C dL_law_3 ?_
  refine zk_callI (pc := 4) (y := yX5_init) (r := 0) C hao rfl (tk_X5 l hfl) k_f5 (gLT gL_law_X5_init) rfl (by decide +kernel) (by decide +kernel) (by decide +kernel) rfl (by decide +kernel) ⟨by decide, by decide⟩ ⟨by decide, by decide⟩ (Nat.le_of_ble_eq_true rfl) dL_law_4 ?_
  refine z_astore_n (pc := 7) (i := 1) C dL_law_7 rfl (by decide) (by decide) _ _ 0 ?_
  refine ((z_bipush (KX := fun _ _ => True) (d := 8) (pc := 8) C dL_law_8 (by decide +kernel)) _ _ _ (Nat.le_of_ble_eq_true rfl)).1 64 _ rfl ?_
  refine zk_newai (pc := 10) (N := 64) C (by decide) (by rw [k_len85]) (by decide) (by decide) (by decide +kernel) dL_law_10 ?_
  rw [k_len85, ← k_W_S0, k_app]
  refine z_astore_n (pc := 12) (i := 2) C dL_law_12 rfl (by decide) (by decide) _ _ 85 ?_
  refine z_push (pc := 13) C dL_law_13 _ _ _ ?_
  refine z_istore_n (pc := 14) (i := 3) C dL_law_14 rfl (by decide) (by decide) _ _ 1 ?_
  refine z_push (pc := 15) C dL_law_15 _ _ _ ?_
  refine z_istore (pc := 16) (i := 4) C dL_law_16 (by decide) (by decide) _ _ 0 ?_
  refine lw_l1 (k := 86) C (fun P hP => ?_) 36 0 (fun _ => 0) rfl (fun i hi => absurd hi (Nat.not_lt_zero i))
  refine z_push (pc := 37) C dL_law_37 _ _ _ ?_
  refine z_istore (pc := 38) (i := 4) C dL_law_38 (by decide) (by decide) _ _ 0 ?_
  refine lw_l2 C hfl hl (fun P' S' I' => ?_) 40 0 86 P k_S0 rfl (by decide) k_S0_inv (fun i k hi hk => by rw [hP (9 * i + k) (by omega), k_S0_p hi hk])
  refine z_push (pc := 115) C dL_law_115 _ _ _ ?_
  refine z_istore (pc := 116) (i := 4) C dL_law_116 (by decide) (by decide) _ _ 0 ?_
  exact lw_l3 C hfl hao hl 3 0 200 S' rfl (by decide) I'
end LN
