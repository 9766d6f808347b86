/-! THE LAW'S OWN WALK: its start, its loops -/
/-- the law's end, the room as the statement has it -/
def lw_Qr (_ : Array Value) (s : State) (o : Outcome) (t : State) : Prop := o = .returned (some (.int 1)) ∧ Framed s o t [] room_1.cells room_1.slots
def lw_Zr (below : List Frame) (a : Array Value) (s : State) : State → Prop := fun t => ∃ o, t.status = .running ∧ Ended t below o ∧ lw_Qr a s o t
/-- the law's own end, with 1 on the stack, nothing written that was there before, its room as the claim has it -/
theorem lw_retr {p : Program} {l : Launch} {e : Env} {s : State} {m : MethodId} {below : List Frame} {meth : Method} {c : Code} {b : Nat} (hx : p.tables.exec = Jvm.exec) (hb : c.code = code) (hr : meth.sig.returnType = ret) (hlocks : meth.locks = false) {pc : Nat} {H : Heap} {ls : Array Slot} (hdg : decode code pc = .ok (.ireturn, 1)) : W p l e room_1 s m #[Value.ref b] below meth c H [] room_1.cells room_1.slots (lw_Zr below #[Value.ref b] s) (F0 m pc ls [.int 1]) := by
  intro T hT X
  obtain ⟨fs, hret, hrun, hended, hW, hframe⟩ := X.leave (v := some (.int 1)) (hlocks := hlocks) (fun h => by rw [hr] at h; cases h)
  have hmeth' : T.vm.method? m = some meth := X.method'
  refine ⟨T.setFrames fs, ?_, .returned (some (.int 1)), hrun, hended, rfl, ⟨_, rfl⟩, hW, hframe⟩
  jvm_step X.here [X.here.top, hx, hb, hdg, hmeth', hr, ret, narrow_b1]
  (try refine ⟨rfl, ?_⟩); (try refine ⟨rfl, ?_⟩)
  first | (intro acts; rw [hret _ acts rfl rfl rfl]) | rw [hret _ _ rfl rfl rfl]
  exact Steps.refl _
theorem k_x64a (f : Nat → Int) (S : Nat → Nat → Int) : z_arr (k_W (kP f) S) 85 0 = some (64, f) := q_arr ((k_hi (by decide)).trans rfl) (by decide)
section LW
variable {p : Program} {l : Launch} {e : Env} {s : State} {m : MethodId} {below : List Frame} {meth : Method} {c : Code} {b : Nat} {hb0 : b < s.heap.size} {sc : List Int} {D : va_G} {dT : Nat → ClassId} {tb : List ExceptionTableEntry}
/-- from here the law comes to its end: k cells are made so far -/
abbrev lK (p : Program) (l : Launch) (e : Env) (s : State) (m : MethodId) (below : List Frame) (meth : Method) (c : Code) (b : Nat) (hb0 : b < s.heap.size) (sc : List Int) (D : va_G) (dT : Nat → ClassId) (k : Nat) (h : z_Hp) (ρ : List z_V) (pc : Nat) (st : List z_V) : Prop :=
  z_K p l e room_1 s m #[Value.ref b] below meth c (bs hb0 sc) D dT 99 5 (lw_Zr below #[Value.ref b] s) k (6 * k) h ρ pc st
abbrev lC (p : Program) (l : Launch) (s : State) (m : MethodId) (meth : Method) (c : Code) (b : Nat) (hb0 : b < s.heap.size) (sc : List Int) (tb : List ExceptionTableEntry) : Prop := z_Cx p l s m #[Value.ref b] meth c (bs hb0 sc) cL_law 5 RL lw_tbl ret tb
theorem lK_w {k k' : Nat} (hk : k ≤ k') {h : z_Hp} {ρ : List z_V} {pc : Nat} {st : List z_V} (kk : lK p l e s m below meth c b hb0 sc D dT k' h ρ pc st) : lK p l e s m below meth c b hb0 sc D dT k h ρ pc st := z_mono hk (Nat.mul_le_mul_left 6 hk) pc h ρ st kk

theorem lw_end (C : lC p l s m meth c b hb0 sc tb) {k : Nat} (hk : k ≤ 1000) {h : z_Hp} {j : Int} : lK p l e s m below meth c b hb0 sc D dT k h [vS, vR 0, vR 85, vB true, vI j] 196 [] := by
  refine ((z_iload_n (KX := fun _ _ => True) (d := 8) (pc := 196) C dL_law_196 rfl) _ _ _ (Nat.le_of_ble_eq_true rfl)).1 1 _ rfl ?_
  intro H locs ls hR hL
  refine va_forget (fun q hq => hR.2.2.2.2 q hq) ?_
  exact W.widen (show k ≤ room_1.cells from Nat.le_trans hk (by decide)) (show 6 * k ≤ room_1.slots from Nat.le_trans (Nat.mul_le_mul_left 6 hk) (by decide)) (lw_retr C.1 C.2.1 C.2.2.2.2.2.2.2.2.2.2 C.2.2.2.2.2.1 dL_law_197)
theorem lw_l1 (C : lC p l s m meth c b hb0 sc tb) {k : Nat} {S : Nat → Nat → Int} (kk : ∀ P : Nat → Int, (∀ i, i < 36 → P i = INF) → lK p l e s m below meth c b hb0 sc D dT k (k_W (kP P) S) [vS, vR 0, vR 85, vB true, vI 36] 37 []) : ∀ (n j : Nat) (P : Nat → Int), j + n = 36 → (∀ i, i < j → P i = INF) → lK p l e s m below meth c b hb0 sc D dT k (k_W (kP P) S) [vS, vR 0, vR 85, vB true, vI (j : Int)] 18 [] := by
  intro n
  have hc55 : Cond.constant RL 55 (Int32.ofInt 1000000) ∈ lw_tbl := by decide +kernel
  induction n with
  | zero =>
    intro j P hj hP
    have e : j = 36 := by omega
    subst e
    refine ((z_iload (KX := fun _ _ => True) (d := 8) (pc := 18) C dL_law_18) _ _ _ (Nat.le_of_ble_eq_true rfl)).1 36 _ rfl ?_
    refine ((z_bipush (KX := fun _ _ => True) (d := 8) (pc := 20) C dL_law_20 (by decide +kernel)) _ _ _ (Nat.le_of_ble_eq_true rfl)).1 36 _ rfl ?_
    refine z_icmp_geN (pc := 22) (tgt := 37) C dL_law_22 (by decide) _ _ _ (36) (36) (by simp only [z_in, Bool.and_eq_true, decide_eq_true_eq]; omega) (fun q => absurd q (by decide)) (fun _ => ?_)
    exact kk P hP
  | succ n ih =>
    intro j P hj hP
    refine ((z_iload (KX := fun _ _ => True) (d := 8) (pc := 18) C dL_law_18) _ _ _ (Nat.le_of_ble_eq_true rfl)).1 (j : Int) _ rfl ?_
    refine ((z_bipush (KX := fun _ _ => True) (d := 8) (pc := 20) C dL_law_20 (by decide +kernel)) _ _ _ (Nat.le_of_ble_eq_true rfl)).1 36 _ rfl ?_
    refine z_icmp_geN (pc := 22) (tgt := 37) C dL_law_22 (by decide) _ _ _ ((j : Int)) (36) (by simp only [z_in, Bool.and_eq_true, decide_eq_true_eq]; omega) (fun _ => ?_) (fun q => by simp only [cLt, decide_eq_false_iff_not] at q; omega)
    refine ((z_aload_n (KX := fun _ _ => True) (d := 8) (pc := 25) C dL_law_25 rfl) _ _ _ (Nat.le_of_ble_eq_true rfl)).1 85 _ rfl ?_
    refine ((z_iload (KX := fun _ _ => True) (d := 8) (pc := 26) C dL_law_26) _ _ _ (Nat.le_of_ble_eq_true rfl)).1 (j : Int) _ rfl ?_
    refine ((z_ldc (KX := fun _ _ => True) (d := 8) (x := 1000000) (pc := 28) C hc55 dL_law_28) _ _ _ (Nat.le_of_ble_eq_true rfl)).1 1000000 _ rfl ?_
    refine z_iast (pc := 30) C dL_law_30 _ _ _ 85 (j : Int) 64 P 1000000 (k_x64a P S) (by omega) (by show (j : Int) < 64; omega) ?_
    rw [show (k_W (kP P) S).set 85 (.inr (0, 64, z_up P (j : Int).toNat 1000000)) = k_W (kP (z_up P j 1000000)) S from k_x85s _ _ _]
    refine z_inc (pc := 31) (i := 4) C dL_law_31 (by decide) (by decide) _ _ (j : Int) rfl ?_
    refine z_goto (pc := 34) (tgt := 18) C dL_law_34 (by decide) _ _ _ ?_
    refine ih (j + 1) (z_up P j 1000000) (by omega) (fun i hi => ?_)
    unfold z_up
    split
    · rfl
    · exact hP i (by omega)
theorem lw_e2 (C : lC p l s m meth c b hb0 sc tb) {k j : Nat} {h : z_Hp} (kk : lK p l e s m below meth c b hb0 sc D dT k h [vS, vR 0, vR 85, vB true, vI ((j + 1 : Nat) : Int)] 40 []) : lK p l e s m below meth c b hb0 sc D dT k h [vS, vR 0, vR 85, vB true, vI (j : Int)] 103 [] := by
  refine z_push (pc := 103) C dL_law_103 _ _ _ ?_
  refine z_goto (pc := 104) (tgt := 108) C dL_law_104 (by decide) _ _ _ ?_
  refine z_istore_n (pc := 108) (i := 3) C dL_law_108 rfl (by decide) (by decide) _ _ 1 ?_
  refine z_inc (pc := 109) (i := 4) C dL_law_109 (by decide) (by decide) _ _ (j : Int) rfl ?_
  refine z_goto (pc := 112) (tgt := 40) C dL_law_112 (by decide) _ _ _ ?_
  exact kk
theorem lw_b2 (C : lC p l s m meth c b hb0 sc tb) (hfl : l.stackTraces = false) (hl : sc.length < 2147483648) {j k : Nat} (hj : j < 40) (hk : k ≤ 900) {P : Nat → Int} {S : Nat → Nat → Int} (I : cInv S) (M : pMr P S) (kk : ∀ P' S', cInv S' → pMr P' S' → lK p l e s m below meth c b hb0 sc D dT (k + 2) (k_W (kP P') S') [vS, vR 0, vR 85, vB true, vI ((j + 1 : Nat) : Int)] 40 []) : lK p l e s m below meth c b hb0 sc D dT k (k_W (kP P) S) [vS, vR 0, vR 85, vB true, vI (j : Int)] 40 [] := by
  have hc127 : Cond.constant RL 127 (Int32.ofInt 1073741824) ∈ lw_tbl := by decide +kernel
  obtain ⟨x, hx, x2⟩ := dr_n sc hl (k := 2 * (j : Int)) (most := 1073741824) ⟨by omega, by omega⟩ (by decide)
  have x3 : ∀ h, m_L_draw sc [vS, vI (2 * (j : Int)), vI 1073741824] h = some (.inl (some (vI (x : Int))), h) := x2
  obtain ⟨y, hy, y2⟩ := dr_n sc hl (k := 2 * (j : Int) + 1) (most := 1073741824) ⟨by omega, by omega⟩ (by decide)
  have y3 : ∀ h, m_L_draw sc [vS, vI (2 * (j : Int) + 1), vI 1073741824] h = some (.inl (some (vI (y : Int))), h) := y2
  obtain ⟨P1, S1, e1, I1, M1⟩ := f_polys I M hx hy
  have g1 : oRem (j : Int) 5 = some ((j % 5 : Nat) : Int) := z_rm (m := 5) (by decide) (by omega) (by decide)
  have g2 : oDiv (j : Int) 5 = some ((j / 5 : Nat) : Int) := z_dv (m := 5) (by decide) (by omega) (by decide)
  have g3 : oRem ((j / 5 : Nat) : Int) 4 = some ((j / 5 % 4 : Nat) : Int) := z_rm (m := 4) (by decide) (by omega) (by decide)
  obtain ⟨S2, e2, fr2⟩ := f_isPoly (i := j / 5 % 4) (Nat.mod_lt _ (by decide)) I1 M1
  have I2 := I1.eq fr2
  have M2 : pMr P1 S2 := fun i k hi hk => by rw [fr2 (50 + 9 * i) (by unfold cFree; omega) id]; exact M1 i k hi hk
  refine ((z_iload (KX := fun _ _ => True) (d := 8) (pc := 40) C dL_law_40) _ _ _ (Nat.le_of_ble_eq_true rfl)).1 (j : Int) _ rfl ?_
  refine ((z_bipush (KX := fun _ _ => True) (d := 8) (pc := 42) C dL_law_42 (by decide +kernel)) _ _ _ (Nat.le_of_ble_eq_true rfl)).1 40 _ rfl ?_
  refine z_icmp_geN (pc := 44) (tgt := 115) C dL_law_44 (by decide) _ _ _ ((j : Int)) (40) (by simp only [z_in, Bool.and_eq_true, decide_eq_true_eq]; omega) (fun _ => ?_) (fun q => by simp only [cLt, decide_eq_false_iff_not] at q; omega)
  refine ((z_bload_n (KX := fun _ _ => True) (d := 8) (pc := 47) C dL_law_47 rfl) _ _ _ (Nat.le_of_ble_eq_true rfl)).1 true _ rfl ?_
  refine z_b_eq (pc := 48) (tgt := 115) C dL_law_48 (by decide) _ _ _ true (fun _ => ?_) (fun q => by cases q)
  refine ((z_aload_n (KX := fun _ _ => True) (d := 8) (pc := 51) C dL_law_51 rfl) _ _ _ (Nat.le_of_ble_eq_true rfl)).1 0 _ rfl ?_
  refine ((z_sload_n (KX := fun _ _ => True) (d := 8) (pc := 52) C dL_law_52 rfl) _ _ _ (Nat.le_of_ble_eq_true rfl)).1 () _ rfl ?_
  refine ((z_iconst (KX := fun _ _ => True) (d := 8) (pc := 53) C dL_law_53) _ _ _ (Nat.le_of_ble_eq_true rfl)).1 2 _ rfl ?_
  refine ((z_iload (KX := fun _ _ => True) (d := 8) (pc := 54) C dL_law_54) _ _ _ (Nat.le_of_ble_eq_true rfl)).1 (j : Int) _ rfl ?_
  refine z_imul (pc := 56) C dL_law_56 _ _ _ (2) ((j : Int)) (2 * (j : Int)) rfl ?_
  refine ((z_ldc (KX := fun _ _ => True) (d := 8) (x := 1073741824) (pc := 57) C hc127 dL_law_57) _ _ _ (Nat.le_of_ble_eq_true rfl)).1 1073741824 _ rfl ?_
  refine z_cSq (pc := 59) (d := 8) C rfl (t_L_draw l hfl) (gLT gL_law_L_draw) rfl q_L_draw ⟨by decide, by decide⟩ ⟨Nat.le_trans (m := 2000) (by omega) (by decide), Nat.le_trans (m := 20000) (by omega) (by decide)⟩ (by decide) dL_law_59 _ _ [vR 0] [vS, vI (2 * (j : Int)), vI 1073741824] rfl rfl (Nat.le_of_ble_eq_true rfl) _ _ (x3 _) ?_
  refine ((z_sload_n (KX := fun _ _ => True) (d := 8) (pc := 62) C dL_law_62 rfl) _ _ _ (Nat.le_of_ble_eq_true rfl)).1 () _ rfl ?_
  refine ((z_iconst (KX := fun _ _ => True) (d := 8) (pc := 63) C dL_law_63) _ _ _ (Nat.le_of_ble_eq_true rfl)).1 2 _ rfl ?_
  refine ((z_iload (KX := fun _ _ => True) (d := 8) (pc := 64) C dL_law_64) _ _ _ (Nat.le_of_ble_eq_true rfl)).1 (j : Int) _ rfl ?_
  refine z_imul (pc := 66) C dL_law_66 _ _ _ (2) ((j : Int)) (2 * (j : Int)) rfl ?_
  refine ((z_iconst (KX := fun _ _ => True) (d := 8) (pc := 67) C dL_law_67) _ _ _ (Nat.le_of_ble_eq_true rfl)).1 1 _ rfl ?_
  refine z_iadd (pc := 68) C dL_law_68 _ _ _ (2 * (j : Int)) (1) (2 * (j : Int) + 1) rfl ?_
  refine ((z_ldc (KX := fun _ _ => True) (d := 8) (x := 1073741824) (pc := 69) C hc127 dL_law_69) _ _ _ (Nat.le_of_ble_eq_true rfl)).1 1073741824 _ rfl ?_
  refine z_cSq (pc := 71) (d := 8) C rfl (t_L_draw l hfl) (gLT gL_law_L_draw) rfl q_L_draw ⟨by decide, by decide⟩ ⟨Nat.le_trans (m := 2000) (by omega) (by decide), Nat.le_trans (m := 20000) (by omega) (by decide)⟩ (by decide) dL_law_71 _ _ [vI (x : Int), vR 0] [vS, vI (2 * (j : Int) + 1), vI 1073741824] rfl rfl (Nat.le_of_ble_eq_true rfl) _ _ (y3 _) ?_
  refine ((z_aload_n (KX := fun _ _ => True) (d := 8) (pc := 74) C dL_law_74 rfl) _ _ _ (Nat.le_of_ble_eq_true rfl)).1 85 _ rfl ?_
  refine z_cSq (pc := 75) (d := 8) C rfl (t_L_polys l hfl) (gLT gL_law_L_polys) rfl q_L_polys ⟨by decide, by decide⟩ ⟨Nat.le_trans (m := 2000) (by omega) (by decide), Nat.le_trans (m := 20000) (by omega) (by decide)⟩ (by decide) dL_law_75 _ _ [] [vR 0, vI (x : Int), vI (y : Int), vR 85] rfl rfl (Nat.le_of_ble_eq_true rfl) _ _ e1 ?_
  refine z_b_eq (pc := 78) (tgt := 107) C dL_law_78 (by decide) _ _ _ true (fun _ => ?_) (fun q => by cases q)
  refine ((z_iload (KX := fun _ _ => True) (d := 8) (pc := 81) C dL_law_81) _ _ _ (Nat.le_of_ble_eq_true rfl)).1 (j : Int) _ rfl ?_
  refine ((z_iconst (KX := fun _ _ => True) (d := 8) (pc := 83) C dL_law_83) _ _ _ (Nat.le_of_ble_eq_true rfl)).1 5 _ rfl ?_
  refine z_irem (pc := 84) C dL_law_84 _ _ _ ((j : Int)) (5) (((j % 5 : Nat) : Int)) g1 ?_
  refine ((z_iconst (KX := fun _ _ => True) (d := 8) (pc := 85) C dL_law_85) _ _ _ (Nat.le_of_ble_eq_true rfl)).1 4 _ rfl ?_
  refine z_icmp_lt (pc := 86) (tgt := 103) C dL_law_86 (by decide) _ _ _ (((j % 5 : Nat) : Int)) (4) (by simp only [z_in, Bool.and_eq_true, decide_eq_true_eq]; omega) (fun _ => ?_) (fun _ => ?_)
  · refine z_mono (k' := k + 2) (n' := 6 * (k + 2)) (by omega) (by omega) _ _ _ _ ?_
    exact lw_e2 C (kk P1 S1 I1 M1)
  · refine ((z_aload_n (KX := fun _ _ => True) (d := 8) (pc := 89) C dL_law_89 rfl) _ _ _ (Nat.le_of_ble_eq_true rfl)).1 0 _ rfl ?_
    refine ((z_aload_n (KX := fun _ _ => True) (d := 8) (pc := 90) C dL_law_90 rfl) _ _ _ (Nat.le_of_ble_eq_true rfl)).1 85 _ rfl ?_
    refine ((z_iload (KX := fun _ _ => True) (d := 8) (pc := 91) C dL_law_91) _ _ _ (Nat.le_of_ble_eq_true rfl)).1 (j : Int) _ rfl ?_
    refine ((z_iconst (KX := fun _ _ => True) (d := 8) (pc := 93) C dL_law_93) _ _ _ (Nat.le_of_ble_eq_true rfl)).1 5 _ rfl ?_
    refine z_idiv (pc := 94) C dL_law_94 _ _ _ ((j : Int)) (5) (((j / 5 : Nat) : Int)) g2 ?_
    refine ((z_iconst (KX := fun _ _ => True) (d := 8) (pc := 95) C dL_law_95) _ _ _ (Nat.le_of_ble_eq_true rfl)).1 4 _ rfl ?_
    refine z_irem (pc := 96) C dL_law_96 _ _ _ (((j / 5 : Nat) : Int)) (4) (((j / 5 % 4 : Nat) : Int)) g3 ?_
    refine z_cSq (pc := 97) (d := 8) C rfl (t_L_isPoly l hfl) (gLT gL_law_L_isPoly) rfl q_L_isPoly ⟨by decide, by decide⟩ ⟨Nat.le_trans (m := 2000) (by omega) (by decide), Nat.le_trans (m := 20000) (by omega) (by decide)⟩ (by decide) dL_law_97 _ _ [] [vR 0, vR 85, vI ((j / 5 % 4 : Nat) : Int)] rfl rfl (Nat.le_of_ble_eq_true rfl) _ _ e2 ?_
    refine z_b_eq (pc := 100) (tgt := 107) C dL_law_100 (by decide) _ _ _ true (fun _ => ?_) (fun q => by cases q)
    refine z_mono (k' := k + 2) (n' := 6 * (k + 2)) (by omega) (by omega) _ _ _ _ ?_
    exact lw_e2 C (kk P1 S2 I2 M2)
theorem lw_l2 (C : lC p l s m meth c b hb0 sc tb) (hfl : l.stackTraces = false) (hl : sc.length < 2147483648) (kk : ∀ P S, cInv S → lK p l e s m below meth c b hb0 sc D dT 200 (k_W (kP P) S) [vS, vR 0, vR 85, vB true, vI 40] 115 []) : ∀ (n j k : Nat) (P : Nat → Int) (S : Nat → Nat → Int), j + n = 40 → k + 2 * n ≤ 200 → cInv S → pMr P S → lK p l e s m below meth c b hb0 sc D dT k (k_W (kP P) S) [vS, vR 0, vR 85, vB true, vI (j : Int)] 40 [] := by
  intro n
  induction n with
  | zero =>
    intro j k P S hj hk I M
    have e : j = 40 := by omega
    subst e
    refine ((z_iload (KX := fun _ _ => True) (d := 8) (pc := 40) C dL_law_40) _ _ _ (Nat.le_of_ble_eq_true rfl)).1 40 _ rfl ?_
    refine ((z_bipush (KX := fun _ _ => True) (d := 8) (pc := 42) C dL_law_42 (by decide +kernel)) _ _ _ (Nat.le_of_ble_eq_true rfl)).1 40 _ rfl ?_
    refine z_icmp_geN (pc := 44) (tgt := 115) C dL_law_44 (by decide) _ _ _ (40) (40) (by simp only [z_in, Bool.and_eq_true, decide_eq_true_eq]; omega) (fun q => absurd q (by decide)) (fun _ => ?_)
    exact lK_w (by omega) (kk P S I)
  | succ n ih =>
    intro j k P S hj hk I M
    exact lw_b2 C hfl hl (by omega) (by omega) I M (fun P' S' I' M' => ih (j + 1) (k + 2) P' S' (by omega) (by omega) I' M')
theorem lw_e3 (C : lC p l s m meth c b hb0 sc tb) {k j : Nat} {h : z_Hp} (kk : lK p l e s m below meth c b hb0 sc D dT k h [vS, vR 0, vR 85, vB true, vI ((j + 1 : Nat) : Int)] 118 []) : lK p l e s m below meth c b hb0 sc D dT k h [vS, vR 0, vR 85, vB true, vI (j : Int)] 181 [vB true] := by
  refine z_b_eq (pc := 181) (tgt := 188) C dL_law_181 (by decide) _ _ _ true (fun _ => ?_) (fun q => by cases q)
  refine z_push (pc := 184) C dL_law_184 _ _ _ ?_
  refine z_goto (pc := 185) (tgt := 189) C dL_law_185 (by decide) _ _ _ ?_
  refine z_istore_n (pc := 189) (i := 3) C dL_law_189 rfl (by decide) (by decide) _ _ 1 ?_
  refine z_inc (pc := 190) (i := 4) C dL_law_190 (by decide) (by decide) _ _ (j : Int) rfl ?_
  refine z_goto (pc := 193) (tgt := 118) C dL_law_193 (by decide) _ _ _ ?_
  exact kk
theorem lw_b3 (C : lC p l s m meth c b hb0 sc tb) (hfl : l.stackTraces = false) (hl : sc.length < 2147483648) {j k : Nat} (hj : j < 3) (hk : k ≤ 900) {X : z_Hp} {S : Nat → Nat → Int} (I : cInv S) (kk : ∀ S', cInv S' → lK p l e s m below meth c b hb0 sc D dT (k + 11) (k_W X S') [vS, vR 0, vR 85, vB true, vI (j : Int)] 161 []) : lK p l e s m below meth c b hb0 sc D dT k (k_W X S) [vS, vR 0, vR 85, vB true, vI (j : Int)] 118 [] := by
  obtain ⟨S1, e1, I1⟩ := f_lmat (X := X) I sc hl (a := 80 + 110 * j) (by omega)
  obtain ⟨S2, e2, I2⟩ := f_lvec (X := X) I1 sc hl (a := 156 + 110 * j) (by omega)
  have a1 : ((80 + 110 * j : Nat) : Int) = 80 + 110 * (j : Int) := by omega
  have a2 : ((156 + 110 * j : Nat) : Int) = 156 + 110 * (j : Int) := by omega
  rw [a1] at e1
  rw [a2] at e2
  refine ((z_iload (KX := fun _ _ => True) (d := 8) (pc := 118) C dL_law_118) _ _ _ (Nat.le_of_ble_eq_true rfl)).1 (j : Int) _ rfl ?_
  refine ((z_iconst (KX := fun _ _ => True) (d := 8) (pc := 120) C dL_law_120) _ _ _ (Nat.le_of_ble_eq_true rfl)).1 3 _ rfl ?_
  refine z_icmp_geN (pc := 121) (tgt := 196) C dL_law_121 (by decide) _ _ _ ((j : Int)) (3) (by simp only [z_in, Bool.and_eq_true, decide_eq_true_eq]; omega) (fun _ => ?_) (fun q => by simp only [cLt, decide_eq_false_iff_not] at q; omega)
  refine ((z_bload_n (KX := fun _ _ => True) (d := 8) (pc := 124) C dL_law_124 rfl) _ _ _ (Nat.le_of_ble_eq_true rfl)).1 true _ rfl ?_
  refine z_b_eq (pc := 125) (tgt := 196) C dL_law_125 (by decide) _ _ _ true (fun _ => ?_) (fun q => by cases q)
  refine ((z_aload_n (KX := fun _ _ => True) (d := 8) (pc := 128) C dL_law_128 rfl) _ _ _ (Nat.le_of_ble_eq_true rfl)).1 0 _ rfl ?_
  refine ((z_sload_n (KX := fun _ _ => True) (d := 8) (pc := 129) C dL_law_129 rfl) _ _ _ (Nat.le_of_ble_eq_true rfl)).1 () _ rfl ?_
  refine ((z_bipush (KX := fun _ _ => True) (d := 8) (pc := 130) C dL_law_130 (by decide +kernel)) _ _ _ (Nat.le_of_ble_eq_true rfl)).1 80 _ rfl ?_
  refine ((z_bipush (KX := fun _ _ => True) (d := 8) (pc := 132) C dL_law_132 (by decide +kernel)) _ _ _ (Nat.le_of_ble_eq_true rfl)).1 110 _ rfl ?_
  refine ((z_iload (KX := fun _ _ => True) (d := 8) (pc := 134) C dL_law_134) _ _ _ (Nat.le_of_ble_eq_true rfl)).1 (j : Int) _ rfl ?_
  refine z_imul (pc := 136) C dL_law_136 _ _ _ (110) ((j : Int)) (110 * (j : Int)) rfl ?_
  refine z_iadd (pc := 137) C dL_law_137 _ _ _ (80) (110 * (j : Int)) (80 + 110 * (j : Int)) rfl ?_
  refine z_cSq (pc := 138) (d := 8) C rfl (t_L_matrices l hfl) (gLT gL_law_L_matrices) rfl q_L_matrices ⟨by decide, by decide⟩ ⟨Nat.le_trans (m := 2000) (by omega) (by decide), Nat.le_trans (m := 20000) (by omega) (by decide)⟩ (by decide) dL_law_138 _ _ [] [vR 0, vS, vI (80 + 110 * (j : Int))] rfl rfl (Nat.le_of_ble_eq_true rfl) _ _ e1 ?_
  refine z_b_eq (pc := 141) (tgt := 188) C dL_law_141 (by decide) _ _ _ true (fun _ => ?_) (fun q => by cases q)
  refine ((z_aload_n (KX := fun _ _ => True) (d := 8) (pc := 144) C dL_law_144 rfl) _ _ _ (Nat.le_of_ble_eq_true rfl)).1 0 _ rfl ?_
  refine ((z_sload_n (KX := fun _ _ => True) (d := 8) (pc := 145) C dL_law_145 rfl) _ _ _ (Nat.le_of_ble_eq_true rfl)).1 () _ rfl ?_
  refine ((z_sipush (KX := fun _ _ => True) (d := 8) (pc := 146) C dL_law_146 (by decide +kernel)) _ _ _ (Nat.le_of_ble_eq_true rfl)).1 156 _ rfl ?_
  refine ((z_bipush (KX := fun _ _ => True) (d := 8) (pc := 149) C dL_law_149 (by decide +kernel)) _ _ _ (Nat.le_of_ble_eq_true rfl)).1 110 _ rfl ?_
  refine ((z_iload (KX := fun _ _ => True) (d := 8) (pc := 151) C dL_law_151) _ _ _ (Nat.le_of_ble_eq_true rfl)).1 (j : Int) _ rfl ?_
  refine z_imul (pc := 153) C dL_law_153 _ _ _ (110) ((j : Int)) (110 * (j : Int)) rfl ?_
  refine z_iadd (pc := 154) C dL_law_154 _ _ _ (156) (110 * (j : Int)) (156 + 110 * (j : Int)) rfl ?_
  refine z_cSq (pc := 155) (d := 8) C rfl (t_L_vectors l hfl) (gLT gL_law_L_vectors) rfl q_L_vectors ⟨by decide, by decide⟩ ⟨Nat.le_trans (m := 2000) (by omega) (by decide), Nat.le_trans (m := 20000) (by omega) (by decide)⟩ (by decide) dL_law_155 _ _ [] [vR 0, vS, vI (156 + 110 * (j : Int))] rfl rfl (Nat.le_of_ble_eq_true rfl) _ _ e2 ?_
  refine z_b_eq (pc := 158) (tgt := 188) C dL_law_158 (by decide) _ _ _ true (fun _ => ?_) (fun q => by cases q)
  refine z_mono (k' := k + 11) (n' := 6 * (k + 11)) (by omega) (by omega) _ _ _ _ ?_
  exact kk S2 I2
end LW
