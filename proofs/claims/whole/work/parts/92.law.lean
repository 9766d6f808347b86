/-! THE LAW'S BODY: one case of its switch, all numbers left open -/
def lw_ld (pc j : Nat) : Prop := decode cL_law pc = .ok (.aload_n 0, 1) ∧ decode cL_law (pc + 1) = .ok (.iload 4, 2) ∧ decode cL_law (pc + 3) = .ok (.iconst (j : Int), 1) ∧ decode cL_law (pc + 4) = .ok (.iadd, 1) ∧ decode cL_law (pc + 5) = .ok (.iaload, 1)
section LW
variable {p : Program} {l : Launch} {e : Env} {s : State} {m : MethodId} {below : List Frame} {meth : Method} {c : Code} {b L : Nat} {xs : Nat → Int32} {base : Nat} {D : va_G} {dT : Nat → ClassId} {tb : List ExceptionTableEntry} {k n : Nat} {pc : Nat} {st : List Value} {lv : List (Nat × Value)} {h : z_Hp}
/-- what the law's body stands on -/
def lw_C (p : Program) (l : Launch) (s : State) (m : MethodId) (meth : Method) (c : Code) (b L : Nat) (xs : Nat → Int32) (base : Nat) (tb : List ExceptionTableEntry) : Prop := z_Cx p l s m #[Value.ref b] meth c base cL_law 7 RL lw_tbl ret tb ∧ va_X b L xs s s.heap ∧ (b < s.heap.size ∧ b < base) ∧ z_ncs s ∧ L ≤ 2560 ∧ base = s.heap.size
def lwK (p : Program) (l : Launch) (e : Env) (s : State) (m : MethodId) (below : List Frame) (meth : Method) (c : Code) (b base : Nat) (D : va_G) (dT : Nat → ClassId) (k n : Nat) (h : z_Hp) (lv : List (Nat × Value)) (pc : Nat) (st : List Value) : Prop :=
  ∀ (H : Heap) (locs : List Loc) (ls : Array Slot), z_Rl base D dT s h H locs → lv_has ls 7 lv → W p l e room_1 s m #[Value.ref b] below meth c H locs k n (lw_Z below #[Value.ref b] s) (F0 m pc ls st)
theorem lw_has {ls : Array Slot} {lv' : List (Nat × Value)} (h : lv_has ls 7 lv) (hs : ∀ q ∈ lv', q ∈ lv) : lv_has ls 7 lv' := ⟨h.1, h.2.1, fun q hq => h.2.2 q (hs q hq)⟩
theorem lw_sub {lv' : List (Nat × Value)} (hs : ∀ q ∈ lv', q ∈ lv) (kk : lwK p l e s m below meth c b base D dT k n h lv' pc st) : lwK p l e s m below meth c b base D dT k n h lv pc st := fun H locs ls hR hL => kk H locs ls hR (lw_has hL hs)
theorem lw_aload (C : lw_C p l s m meth c b L xs base tb) {kk : Fin 4} {i a : Nat} (hdg : decode cL_law pc = .ok (.aload_n kk, 1)) (hi : (kk : Nat) = i) (hv : (i, Value.ref a) ∈ lv) (k1 : lwK p l e s m below meth c b base D dT k n h lv (pc + 1) (.ref a :: st)) : lwK p l e s m below meth c b base D dT k n h lv pc st := fun H locs ls hR hL => lv_aload_n C.1.1 C.1.2.1 hdg hi (hL.2.2 _ hv) (k1 H locs ls hR hL)
theorem lw_iload (C : lw_C p l s m meth c b L xs base tb) {i : Nat} {x : Int32} (hdg : decode cL_law pc = .ok (.iload i, 2)) (hv : (i, Value.int x) ∈ lv) (k1 : lwK p l e s m below meth c b base D dT k n h lv (pc + 2) (.int x :: st)) : lwK p l e s m below meth c b base D dT k n h lv pc st := fun H locs ls hR hL => lv_iload C.1.1 C.1.2.1 hdg (hL.2.2 _ hv) (k1 H locs ls hR hL)
theorem lw_iconst (C : lw_C p l s m meth c b L xs base tb) {x : Int} (hdg : decode cL_law pc = .ok (.iconst x, 1)) (k1 : lwK p l e s m below meth c b base D dT k n h lv (pc + 1) (.int (Int32.ofInt x) :: st)) : lwK p l e s m below meth c b base D dT k n h lv pc st := fun H locs ls hR hL => lv_iconst C.1.1 C.1.2.1 hdg rfl (k1 H locs ls hR hL)
theorem lw_istore (C : lw_C p l s m meth c b L xs base tb) {i : Nat} {x : Int32} {lv' : List (Nat × Value)} (hdg : decode cL_law pc = .ok (.istore i, 2)) (hn : i < 7) (hl : (i, Value.int x) :: lv.filter (fun q => !(q.1 == i) && !(q.1 + 1 == i && q.2.category == 2)) = lv') (k1 : lwK p l e s m below meth c b base D dT k n h lv' (pc + 2) st) : lwK p l e s m below meth c b base D dT k n h lv pc (.int x :: st) := fun H locs ls hR hL => lv_istore C.1.1 C.1.2.1 hdg hL hn hl (fun ls' h4 => k1 H locs ls' hR h4)
theorem lw_goto (C : lw_C p l s m meth c b L xs base tb) {off : Int} {tgt : Nat} (hdg : decode cL_law pc = .ok (.goto off, 3)) (ht : (pc : Int) + off = (tgt : Int)) (k1 : lwK p l e s m below meth c b base D dT k n h lv tgt st) : lwK p l e s m below meth c b base D dT k n h lv pc st := fun H locs ls hR hL => lv_goto C.1.1 C.1.2.1 hdg ht (k1 H locs ls hR hL)
/-- one argument out of the script -/
theorem lw_arg (C : lw_C p l s m meth c b L xs base tb) {i j : Nat} (hdg : lw_ld pc j) (h0 : (0, Value.ref b) ∈ lv) (h4 : (4, Value.int (Int32.ofNat i)) ∈ lv) (hj : i + j < L) (k1 : lwK p l e s m below meth c b base D dT k n h lv (pc + 6) (.int (xs (i + j)) :: st)) : lwK p l e s m below meth c b base D dT k n h lv pc st := by
  obtain ⟨d0, d1, d2, d3, d4⟩ := hdg
  have hL2 := C.2.2.2.2.1
  refine lw_aload C d0 rfl h0 (lw_iload C d1 h4 (lw_iconst C d2 (fun H locs ls hR hL => ?_)))
  refine lv_iadd C.1.1 C.1.2.1 d3 ?_
  have hz : z_in ((i + j : Nat) : Int) = true := by
    simp only [z_in, Bool.and_eq_true, decide_eq_true_eq]
    omega
  have e1 : Int32.ofNat i + Int32.ofInt (j : Int) = Int32.ofInt ((i + j : Nat) : Int) := by
    rw [← Int32.ofInt_eq_ofNat, ← Int32.ofInt_add]
    congr 1
  rw [e1]
  obtain ⟨g1, g2⟩ := z_clamp (j := ((i + j : Nat) : Int)) (n := L) (by omega) (by omega) (by omega)
  have hR2 := hR.2.2
  refine va_sld C.1.1 C.1.2.1 C.2.1 C.2.2.1.1 (fun q => absurd C.2.2.1.2 (Nat.not_lt.mpr q)) hR2 g2 d4 ?_
  rw [g1]
  exact k1 H locs ls hR hL
/-- a arguments out of the script -/
theorem lw_args (C : lw_C p l s m meth c b L xs base tb) {i : Nat} (h0 : (0, Value.ref b) ∈ lv) (h4 : (4, Value.int (Int32.ofNat i)) ∈ lv) : ∀ (a : Nat) {st : List Value}, (∀ t, t < a → lw_ld (pc + 6 * t) (t + 1)) → i + a < L → lwK p l e s m below meth c b base D dT k n h lv (pc + 6 * a) (((List.range a).map fun t => Value.int (xs (i + (t + 1)))).reverse ++ st) → lwK p l e s m below meth c b base D dT k n h lv pc st
  | 0, st, _, _, k1 => k1
  | a + 1, st, hd, hi, k1 => by
    refine lw_args C h0 h4 a (fun t ht => hd t (by omega)) (by omega) (lw_arg C (hd a (by omega)) h0 h4 (by omega) ?_)
    rw [List.range_succ, List.map_append, List.reverse_append] at k1
    exact k1
/-- a wrapper's call -/
theorem lw_wrap (C : lw_C p l s m meth c b L xs base tb) {nA F' L' maxL ix : Nat} {y : MethodName} {ws ws' : List Cond} {bytes : ByteArray} {ret9 : Option FieldType} {hh : List (Nat × Nat × Nat × Nat)} {f : z_Mt} (hM : z_CW l y ws nA F' L' f) (hT : GoodIn lw_tbl (va_wsS RL ix y ws)) (hw : ws = Cond.codeWith y bytes maxL ret9 hh :: ws')
    (hd : y.cls ≠ "java/lang/invoke/MethodHandle" ∧ y.cls ≠ "java/lang/invoke/VarHandle" ∧ (parseMethodDescriptor y.desc).map (fun d => d.parameters.length) = some nA) (hRm : F' + 1 ≤ 2048 ∧ 8 + (maxL + 11) + L' ≤ 84000) (hdg : decode cL_law pc = .ok (.invokestatic ix, 3)) {Ls : List z_V} {r : z_V} {h' : z_Hp} (q1 : Ls.length = nA) (q2 : z_wt Ls = nA) (e1 : f Ls h = some (.inl (some r), h')) (hk : k + 1 ≤ 647848 ∧ n + 6 ≤ 7152561) (hst : st = (Ls.map (z_kV base)).reverse)
    (kk : lwK p l e s m below meth c b base D dT (k + 1) (n + 6) h' lv (pc + 3) [z_kV base r]) : lwK p l e s m below meth c b base D dT k n h lv pc st := by
  subst hst
  intro H locs ls hR hL T hT2 X
  have hr := vx_runSX (p := p) (l := l) (e := e) (R := room_1) (s := s) (m := m) (args := #[Value.ref b]) (below := below) (meth := meth) (c := c) (H := H) (locs := locs) (cells := k) (slots := n) (y := y) (As := Ls.map (z_kV base)) (rest := []) (g := F0 m pc ls (Ls.map (z_kV base)).reverse) (cc := cL_law) (nL := 7) (own := RL) (Ts := lw_tbl) (hh := hh)
    ⟨C.1.1, C.1.2.1, C.1.2.2.1, C.1.2.2.2.1, C.1.2.2.2.2.1⟩ (hM base D dT Ls h (some r) h' q1 q2 e1) (vx_cwSW nA C.1.2.2.2.2.1 hT hw rfl rfl hd hRm) ⟨z_UW_blind, fun U hU hW => ⟨rfl, hR.u C.1.2.2.2.2.2.2.2.1 C.1.2.2.2.2.2.2.2.2.1 hU hW (fun q => by cases q), z_ncs.moved hW.alike C.2.2.2.1⟩⟩ rfl (by rw [List.length_map]; exact q1) hL.1 (by simp [F0]) (Nat.zero_le _) hdg hk
  rcases hr T hT2 X with ⟨v, st₀, t, T', Ls9, h0, X', hLs, e1, e2, ⟨⟨r9, ho, hv⟩, hP, hF⟩, stp⟩ | ⟨q, st₀, t, T', Ls9, E, ce, h0, X', hLs, e1, e2, ⟨ho, hP, hF⟩, hce, hcv, hcl, stp⟩
  · obtain ⟨-, -, k3⟩ := vx_keep h0 e1 hR.2.2 (fun _ _ q => q) (fun _ q => q) hLs hF
    cases hv
    cases ho
    obtain ⟨t2, a1, b1⟩ := kk T'.heap (locs ++ Ls9) ls ⟨by rw [e1]; exact hP, hR.2.1, k3⟩ hL T' rfl X'
    exact ⟨t2, stp t2 a1, b1⟩
  · cases ho
/-- a call of the reference -/
theorem lw_inv (C : lw_C p l s m meth c b L xs base tb) {nA F' L' maxL ix : Nat} {y : MethodName} {ws ws' : List Cond} {bytes : ByteArray} {ret9 : Option FieldType} {f : z_Mt} (hM : z_CT l y ws (nA + 1) F' L' 0 0 false (z_vm 6 f)) (hT : GoodIn lw_tbl (wsV RL ix RX6 y ws)) (hw : ws = Cond.code y bytes maxL ret9 :: ws')
    (hd : y.cls = RX6 ∧ y.cls ≠ "java/lang/invoke/MethodHandle" ∧ y.cls ≠ "java/lang/invoke/VarHandle" ∧ (parseMethodDescriptor y.desc).map (fun d => d.parameters.length) = some nA) (hRm : F' + 1 ≤ 2048 ∧ 8 + (maxL + 11) + L' ≤ 84000) (hdg : decode cL_law pc = .ok (.invokevirtual ix, 3)) {o : Nat} {As : List z_V} {r : z_V} {h' : z_Hp} (q1 : As.length = nA) (q2 : z_wt As = nA) (e1 : z_vm 6 f (vR o :: As) h = some (.inl (some r), h')) (hk : k ≤ 647848 ∧ n ≤ 7152561) (hst : st = (As.map (z_kV base)).reverse ++ [.ref (base + o)])
    (kk : lwK p l e s m below meth c b base D dT k n h' lv (pc + 3) [z_kV base r]) : lwK p l e s m below meth c b base D dT k n h lv pc st := by
  subst hst
  intro H locs ls hR hL T hT2 X
  obtain ⟨⟨r8, As8, fs, q8, ho8⟩, -⟩ := z_vm_some e1
  cases q8
  have hr := vx_runV (p := p) (l := l) (e := e) (R := room_1) (s := s) (m := m) (args := #[Value.ref b]) (below := below) (meth := meth) (c := c) (H := H) (locs := locs) (cells := k) (slots := n) (y := y) (b := base + o) (As := As.map (z_kV base)) (rest := []) (g := F0 m pc ls ((As.map (z_kV base)).reverse ++ [.ref (base + o)])) (cc := cL_law) (nL := 7) (own := RL) (Ts := lw_tbl)
    ⟨C.1.1, C.1.2.1, C.1.2.2.1, C.1.2.2.2.1, C.1.2.2.2.2.1⟩ (hM base D dT (vR o :: As) h (.inl (some r)) h' (by simp [q1]) (by rw [z_wt_cons, q2]; simp [z_cat]; omega) e1) (cwV nA C.1.2.2.2.2.1 hT hw rfl rfl hd hRm) ⟨z_U_blind, va_recv hR.2.1 hR.1 (by rfl) (z_kW_get (z_obj_some ho8)), fun U hU hW => ⟨rfl, hR.u C.1.2.2.2.2.2.2.2.1 C.1.2.2.2.2.2.2.2.2.1 hU hW (fun q => by cases q)⟩⟩ rfl (by rw [List.length_map]; exact q1) hL.1 rfl (Nat.zero_le _) hdg hk
  rcases hr T hT2 X with ⟨v, st₀, t, T', Ls9, h0, X', hLs, e1, e2, ⟨⟨r9, ho, hv⟩, hP, hF⟩, stp⟩ | ⟨q, st₀, t, T', Ls9, E, ce, h0, X', hLs, e1, e2, ⟨ho, hP, hF⟩, hce, hcv, hcl, stp⟩
  · obtain ⟨-, -, k3⟩ := vx_keep h0 e1 hR.2.2 (fun _ _ q => q) (fun _ q => q) hLs hF
    cases hv
    cases ho
    obtain ⟨t2, a1, b1⟩ := kk T'.heap (locs ++ Ls9) ls ⟨by rw [e1]; exact hP, hR.2.1, k3⟩ hL T' rfl X'
    exact ⟨t2, stp t2 a1, b1⟩
  · cases ho
end LW
theorem lw_cmp_self (x : Int64) : lg_cmp x x = 0 := by
  unfold lg_cmp
  simp
theorem kX6_thrown {S : Nat → Nat → Int} : m_X6_thrown [vR 85] (k_W S) = some (.inl (some (vI (S 85 1))), k_W S) := by
  rfl
section LW
variable {p : Program} {l : Launch} {e : Env} {s : State} {m : MethodId} {below : List Frame} {meth : Method} {c : Code} {b L : Nat} {xs : Nat → Int32} {base : Nat} {D : va_G} {dT : Nat → ClassId} {tb : List ExceptionTableEntry} {k n : Nat}
/-- what comes behind both calls: what was thrown is the same; what was answered is the same -/
theorem lw_tail (C : lw_C p l s m meth c b L xs base tb) (hfl : l.stackTraces = false) (hT1 : GoodIn lw_tbl (wsV RL 119 RX6 yX6_thrown wsX6_thrown)) {p3 : Nat} {S1 S2 : Nat → Nat → Int} {kc r : Int} {g0 : Int → Int} {lv : List (Nat × Value)} (bl : Bool) (hg : g0 = fun r => if bl = true then (if Int32.ofInt r = 0 then 0 else 1) else (Int32.ofInt r).toInt)
    (h2 : (2, Value.ref (base + 85)) ∈ lv) (h3 : (3, Value.ref (base + 103)) ∈ lv) (h5 : (5, Value.int (Int32.ofInt kc)) ∈ lv) (h6 : (6, Value.int (Int32.ofInt r)) ∈ lv) (e103 : S2 103 = S1 103) (e85 : S2 85 1 = kc) (ek : kc = 0 ∨ kc = 1 ∨ kc = 2) (e0 : kc = 0 → S1 103 0 = g0 r) (hk : k ≤ 647848 ∧ n ≤ 7152561)
    (d0 : decode cL_law p3 = .ok (.aload_n 2, 1)) (d1 : decode cL_law (p3 + 1) = .ok (.invokevirtual 119, 3)) (d4 : decode cL_law (p3 + 4) = .ok (.iload 5, 2)) (d6 : decode cL_law (p3 + 6) = .ok (.if_icmp .eq 5, 3)) (d11 : decode cL_law (p3 + 11) = .ok (.iload 5, 2)) (d13 : decode cL_law (p3 + 13) = .ok (.ifCond .ne (if bl = true then 22 else 15), 3)) (d16 : decode cL_law (p3 + 16) = .ok (.aload_n 3, 1)) (d17 : decode cL_law (p3 + 17) = .ok (.iconst 0, 1)) (d18 : decode cL_law (p3 + 18) = .ok (.laload, 1)) (d19 : decode cL_law (p3 + 19) = .ok (.iload 6, 2))
    (dI : bl = false → decode cL_law (p3 + 21) = .ok (.i2l, 1) ∧ decode cL_law (p3 + 22) = .ok (.lcmp, 1) ∧ decode cL_law (p3 + 23) = .ok (.ifCond .eq 5, 3))
    (dB : bl = true → decode cL_law (p3 + 21) = .ok (.ifCond .eq 7, 3) ∧ decode cL_law (p3 + 24) = .ok (.lconst 1, 1) ∧ decode cL_law (p3 + 25) = .ok (.goto 4, 3) ∧ decode cL_law (p3 + 28) = .ok (.lconst 0, 1) ∧ decode cL_law (p3 + 29) = .ok (.lcmp, 1) ∧ decode cL_law (p3 + 30) = .ok (.ifCond .eq 5, 3))
    {off : Int} (dG : decode cL_law (p3 + if bl = true then 35 else 28) = .ok (.goto off, 3)) (hoff : ((p3 + if bl = true then 35 else 28 : Nat) : Int) + off = (2180 : Nat))
    (kk : lwK p l e s m below meth c b base D dT k n (k_W S2) lv 2180 []) : lwK p l e s m below meth c b base D dT k n (k_W S2) lv p3 [] := by
  have kE := lw_goto C dG hoff kk
  have h103 : S2 103 0 = S1 103 0 := by rw [e103]
  refine lw_aload C d0 rfl h2 (lw_inv C (t_X6_thrown l hfl) hT1 rfl q_X6_thrown ⟨by decide, by decide⟩ d1 (o := 85) (As := []) rfl rfl kX6_thrown hk rfl ?_)
  refine lw_iload C d4 h5 (fun H locs ls hR hL => ?_)
  rw [e85]
  refine lv_icmp_eq C.1.1 C.1.2.1 d6 (tgt := p3 + 11) (by omega) (fun _ => ?_) (fun q => absurd rfl q)
  refine lw_iload C d11 h5 (fun H locs ls hR hL => ?_) H locs ls hR hL
  refine lv_if_ne C.1.1 C.1.2.1 d13 (tgt := p3 + if bl = true then 35 else 28) (by cases bl <;> simp <;> omega) (fun _ => kE H locs ls hR hL) (fun q => ?_)
  have hkc : kc = 0 := by
    rcases ek with h | h | h
    · exact h
    · subst h; exact absurd q (by decide)
    · subst h; exact absurd q (by decide)
  have hgr := e0 hkc
  refine lw_aload C d16 rfl h3 (lw_iconst C d17 (fun H locs ls hR hL => ?_)) H locs ls hR hL
  obtain ⟨a1, a2⟩ := z_arr_some (k_a103 (S := S2))
  obtain ⟨c1, c2⟩ := z_clamp (j := 0) (n := 1) (by decide) (by decide) (by decide)
  refine va_lald C.1.1 C.1.2.1 hR.2.1 hR.1 103 1 (cA := dT 1) (n := 1) (f := fun j => Int64.ofInt (S2 103 j)) (z_kW_get a1) rfl c2 d18 ?_
  rw [c1]
  refine lw_iload C d19 h6 (fun H locs ls hR hL => ?_) H locs ls hR hL
  show W p l e room_1 s m #[Value.ref b] below meth c H locs k n (lw_Z below #[Value.ref b] s) (F0 m (p3 + 19 + 2) ls [.int (Int32.ofInt r), .long (Int64.ofInt (S2 103 0))])
  rw [h103, hgr, hg]
  cases bl with
  | false =>
    obtain ⟨f0, f1, f2⟩ := dI rfl
    refine lv_i2l C.1.1 C.1.2.1 f0 (v := Int64.ofInt (Int32.ofInt r).toInt) (by rw [← Int32.toInt_toInt64, Int64.ofInt_toInt]) ?_
    refine W.lcmp C.1.1 C.1.2.1 f1 ?_
    refine lv_if_eq C.1.1 C.1.2.1 f2 (tgt := p3 + 28) (by omega) (fun _ => kE H locs ls hR hL) (fun q => ?_)
    simp only [Bool.false_eq_true, if_false] at q
    exact absurd (lw_cmp_self _) q
  | true =>
    obtain ⟨f0, f1, f2, f3, f4, f5⟩ := dB rfl
    simp only [if_true]
    have fin : ∀ x : Int64, W p l e room_1 s m #[Value.ref b] below meth c H locs k n (lw_Z below #[Value.ref b] s) (F0 m (p3 + 29) ls [.long x, .long x]) := fun x => by
      refine W.lcmp C.1.1 C.1.2.1 f4 ?_
      exact lv_if_eq C.1.1 C.1.2.1 f5 (tgt := p3 + 35) (by omega) (fun _ => kE H locs ls hR hL) (fun q => absurd (lw_cmp_self _) q)
    refine lv_if_eq C.1.1 C.1.2.1 f0 (tgt := p3 + 28) (by omega) (fun q => ?_) (fun q => ?_)
    · rw [if_pos q]
      exact lv_lconst C.1.1 C.1.2.1 f3 (v := Int64.ofInt 0) (by decide) (fin _)
    · rw [if_neg q]
      exact lv_lconst C.1.1 C.1.2.1 f1 (v := Int64.ofInt 1) (by decide) (lv_goto C.1.1 C.1.2.1 f2 (tgt := p3 + 29) (by omega) (fin _))
end LW
theorem z_wtI {f : Nat → Int} : ∀ l : List Nat, z_wt (l.map fun t => vI (f t)) = l.length
  | [] => rfl
  | x :: l => by rw [List.map_cons, z_wt_cons, z_wtI l, List.length_cons]; simp [z_cat]; omega
def lw5 (b base i : Nat) : List (Nat × Value) := [(4, .int (Int32.ofNat i)), (3, .ref (base + 103)), (2, .ref (base + 85)), (1, .ref (base + 0)), (0, .ref b)]
def lw_as (xs : Nat → Int32) (i a : Nat) : List z_V := (List.range a).map fun t => vI (xs (i + (t + 1))).toInt
section LW
variable {p : Program} {l : Launch} {e : Env} {s : State} {m : MethodId} {below : List Frame} {meth : Method} {c : Code} {b L : Nat} {xs : Nat → Int32} {base : Nat} {D : va_G} {dT : Nat → ClassId} {tb : List ExceptionTableEntry} {k n : Nat}
theorem lw_as_kV {i a : Nat} : (lw_as xs i a).map (z_kV base) = (List.range a).map fun t => Value.int (xs (i + (t + 1))) := by
  unfold lw_as
  rw [List.map_map]
  refine List.map_congr_left fun t _ => ?_
  show Value.int (Int32.ofInt (xs (i + (t + 1))).toInt) = _
  rw [Int32.ofInt_toInt]
def lw_D (p0 a ix1 ix2 : Nat) : Prop := (∀ t, t < a → lw_ld (p0 + 1 + 6 * t) (t + 1)) ∧ decode cL_law p0 = .ok (.aload_n 1, 1) ∧ decode cL_law (p0 + 1 + 6 * a) = .ok (.aload_n 3, 1) ∧ decode cL_law (p0 + 1 + 6 * a + 1) = .ok (.invokestatic ix1, 3) ∧ decode cL_law (p0 + 1 + 6 * a + 1 + 3) = .ok (.istore 5, 2) ∧ decode cL_law (p0 + 1 + 6 * a + 1 + 3 + 2) = .ok (.aload_n 2, 1) ∧ (∀ t, t < a → lw_ld (p0 + 1 + 6 * a + 1 + 3 + 2 + 1 + 6 * t) (t + 1)) ∧ decode cL_law (p0 + 1 + 6 * a + 1 + 3 + 2 + 1 + 6 * a) = .ok (.invokevirtual ix2, 3) ∧ decode cL_law (p0 + 1 + 6 * a + 1 + 3 + 2 + 1 + 6 * a + 3) = .ok (.istore 6, 2)
def lw_E (bl : Bool) (p3 : Nat) (off : Int) : Prop := decode cL_law p3 = .ok (.aload_n 2, 1) ∧ decode cL_law (p3 + 1) = .ok (.invokevirtual 119, 3) ∧ decode cL_law (p3 + 4) = .ok (.iload 5, 2) ∧ decode cL_law (p3 + 6) = .ok (.if_icmp .eq 5, 3) ∧ decode cL_law (p3 + 11) = .ok (.iload 5, 2) ∧ decode cL_law (p3 + 13) = .ok (.ifCond .ne (if bl = true then 22 else 15), 3) ∧ decode cL_law (p3 + 16) = .ok (.aload_n 3, 1) ∧ decode cL_law (p3 + 17) = .ok (.iconst 0, 1) ∧ decode cL_law (p3 + 18) = .ok (.laload, 1) ∧ decode cL_law (p3 + 19) = .ok (.iload 6, 2) ∧
  (bl = false → decode cL_law (p3 + 21) = .ok (.i2l, 1) ∧ decode cL_law (p3 + 22) = .ok (.lcmp, 1) ∧ decode cL_law (p3 + 23) = .ok (.ifCond .eq 5, 3)) ∧
  (bl = true → decode cL_law (p3 + 21) = .ok (.ifCond .eq 7, 3) ∧ decode cL_law (p3 + 24) = .ok (.lconst 1, 1) ∧ decode cL_law (p3 + 25) = .ok (.goto 4, 3) ∧ decode cL_law (p3 + 28) = .ok (.lconst 0, 1) ∧ decode cL_law (p3 + 29) = .ok (.lcmp, 1) ∧ decode cL_law (p3 + 30) = .ok (.ifCond .eq 5, 3)) ∧
  decode cL_law (p3 + if bl = true then 35 else 28) = .ok (.goto off, 3) ∧ ((p3 + if bl = true then 35 else 28 : Nat) : Int) + off = (2180 : Nat)
/-- what both calls of a case do -/
def lw_W (f f6 : z_Mt) (as : List z_V) (g0 : Int → Int) (S : Nat → Nat → Int) : Prop := ∃ (kc r : Int) (S1 S2 : Nat → Nat → Int), f (vR 0 :: (as ++ [vR 103])) (k_W S) = some (.inl (some (vI kc)), k_W S1) ∧ z_vm 6 f6 (vR 85 :: as) (k_W S1) = some (.inl (some (vI r)), k_W S2) ∧ kInv S2 ∧ S2 103 = S1 103 ∧ S2 85 1 = kc ∧ (kc = 0 ∨ kc = 1 ∨ kc = 2) ∧ (kc = 0 → S1 103 0 = g0 r)
theorem lw_case (C : lw_C p l s m meth c b L xs base tb) (hfl : l.stackTraces = false) (hT1 : GoodIn lw_tbl (wsV RL 119 RX6 yX6_thrown wsX6_thrown)) {p0 a ix1 ix2 i : Nat} {off : Int} (bl : Bool) {g0 : Int → Int} (hg : g0 = fun r => if bl = true then (if Int32.ofInt r = 0 then 0 else 1) else (Int32.ofInt r).toInt)
    {F' L' maxL : Nat} {y : MethodName} {ws ws' : List Cond} {bytes : ByteArray} {ret9 : Option FieldType} {hh : List (Nat × Nat × Nat × Nat)} {f : z_Mt} (hM : z_CW l y ws (a + 2) F' L' f) (hT : GoodIn lw_tbl (va_wsS RL ix1 y ws)) (hw : ws = Cond.codeWith y bytes maxL ret9 hh :: ws') (hd : y.cls ≠ "java/lang/invoke/MethodHandle" ∧ y.cls ≠ "java/lang/invoke/VarHandle" ∧ (parseMethodDescriptor y.desc).map (fun d => d.parameters.length) = some (a + 2)) (hRm : F' + 1 ≤ 2048 ∧ 8 + (maxL + 11) + L' ≤ 84000)
    {F6 L6 maxL6 : Nat} {y6 : MethodName} {ws6 ws6' : List Cond} {bytes6 : ByteArray} {ret6 : Option FieldType} {f6 : z_Mt} (hM6 : z_CT l y6 ws6 (a + 1) F6 L6 0 0 false (z_vm 6 f6)) (hT6 : GoodIn lw_tbl (wsV RL ix2 RX6 y6 ws6)) (hw6 : ws6 = Cond.code y6 bytes6 maxL6 ret6 :: ws6') (hd6 : y6.cls = RX6 ∧ y6.cls ≠ "java/lang/invoke/MethodHandle" ∧ y6.cls ≠ "java/lang/invoke/VarHandle" ∧ (parseMethodDescriptor y6.desc).map (fun d => d.parameters.length) = some a) (hRm6 : F6 + 1 ≤ 2048 ∧ 8 + (maxL6 + 11) + L6 ≤ 84000)
    (hD : lw_D p0 a ix1 ix2) (hE : lw_E bl (p0 + 1 + 6 * a + 1 + 3 + 2 + 1 + 6 * a + 3 + 2) off) (hi : i + a < L) {S : Nat → Nat → Int} (hW : lw_W f f6 (lw_as xs i a) g0 S) (hk : k + 1 ≤ 647848 ∧ n + 6 ≤ 7152561)
    (kk : ∀ S', kInv S' → lwK p l e s m below meth c b base D dT (k + 1) (n + 6) (k_W S') (lw5 b base i) 2180 []) : lwK p l e s m below meth c b base D dT k n (k_W S) (lw5 b base i) p0 [] := by
  obtain ⟨kc, r, S1, S2, w1, w2, hI, e103, e85, ek, e0⟩ := hW
  obtain ⟨dA, d0, d1, d2, d3, d4, dB, d5, d6⟩ := hD
  obtain ⟨t0, t1, t4, t6, t11, t13, t16, t17, t18, t19, tI, tB, tG, tO⟩ := hE
  have h0 : (0, Value.ref b) ∈ lw5 b base i := by simp [lw5]
  have h1 : (1, Value.ref (base + 0)) ∈ lw5 b base i := by simp [lw5]
  have h2 : (2, Value.ref (base + 85)) ∈ lw5 b base i := by simp [lw5]
  have h3 : (3, Value.ref (base + 103)) ∈ lw5 b base i := by simp [lw5]
  have h4 : (4, Value.int (Int32.ofNat i)) ∈ lw5 b base i := by simp [lw5]
  have hlen : (lw_as xs i a).length = a := by simp [lw_as]
  have hwt : z_wt (lw_as xs i a) = a := by rw [lw_as, z_wtI, List.length_range]
  refine lw_aload C d0 rfl h1 (lw_args C h0 h4 a dA hi (lw_aload C d1 rfl h3 ?_))
  refine lw_wrap C hM hT hw hd hRm d2 (Ls := vR 0 :: (lw_as xs i a ++ [vR 103])) (by simp [hlen]) (by rw [z_wt_cons, z_wt_app, hwt]; simp [z_cat, z_wt]; omega) w1 hk (by rw [List.map_cons, List.map_append, lw_as_kV, List.reverse_cons, List.reverse_append]; rfl) ?_
  refine lw_istore C d3 (by decide) rfl (lv' := (5, .int (Int32.ofInt kc)) :: lw5 b base i) ?_
  refine lw_aload C d4 rfl (List.mem_cons_of_mem _ h2) (lw_args C (List.mem_cons_of_mem _ h0) (List.mem_cons_of_mem _ h4) a dB hi ?_)
  refine lw_inv C hM6 hT6 hw6 hd6 hRm6 d5 (o := 85) (As := lw_as xs i a) hlen hwt w2 hk (by rw [lw_as_kV]) ?_
  refine lw_istore C d6 (by decide) rfl (lv' := (6, .int (Int32.ofInt r)) :: (5, .int (Int32.ofInt kc)) :: lw5 b base i) ?_
  refine lw_tail C hfl hT1 bl hg (kc := kc) (r := r) (by simp [lw5]) (by simp [lw5]) (by simp) (by simp) e103 e85 ek e0 hk t0 t1 t4 t6 t11 t13 t16 t17 t18 t19 tI tB tG tO ?_
  exact lw_sub (fun q hq => List.mem_cons_of_mem _ (List.mem_cons_of_mem _ hq)) (kk S2 hI)
end LW
