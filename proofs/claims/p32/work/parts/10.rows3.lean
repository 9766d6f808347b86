/-! ROWS of calls, ends, throws; a method's contract out of its body -/
/-- Math.min, Math.max, System.arraycopy (of ints) -/
def z_mmin : z_Mt := fun L h => match L with
  | [.inl x, .inl y] => if z_in x && z_in y then some (.inl (some (vI (if y < x then y else x))), h) else none
  | _ => none
def z_mmax : z_Mt := fun L h => match L with
  | [.inl x, .inl y] => if z_in x && z_in y then some (.inl (some (vI (if x < y then y else x))), h) else none
  | _ => none
def z_cp (f g : Nat → Int) (sp dp n : Nat) : Nat → Int := fun k => if dp ≤ k ∧ k < dp + n then f (sp + (k - dp)) else g k
def z_acopy : z_Mt := fun L h => match L with
  | [.inr (.inr (.inl a)), .inl sp, .inr (.inr (.inl b)), .inl dp, .inl n] => match z_arr h a 0, z_arr h b 0 with
    | some (n0, f), some (n1, g) => if 0 ≤ sp ∧ 0 ≤ dp ∧ 0 ≤ n ∧ sp + n ≤ n0 ∧ dp + n ≤ n1 then some (.inl none, h.set b (.inr (0, n1, z_cp f g sp.toNat dp.toNat n.toNat))) else none
    | _, _ => none
  | _ => none
/-- a method of an object: its first argument is an object of the kind ci -/
def z_vm (ci : Nat) (f : z_Mt) : z_Mt := fun L h => match L with
  | .inr (.inr (.inl r)) :: _ => match z_obj h r ci with
    | some _ => f L h
    | none => none
  | _ => none
theorem z_vm_some {ci : Nat} {f : z_Mt} {L : List z_V} {h : z_Hp} {q : (Option z_V ⊕ String) × z_Hp} (e : z_vm ci f L h = some q) : (∃ r As fs, L = vR r :: As ∧ z_obj h r ci = some fs) ∧ f L h = some q := by
  unfold z_vm at e
  split at e
  · next r As =>
    split at e
    · next fs hz => exact ⟨⟨r, _, fs, rfl, hz⟩, e⟩
    · cases e
  · cases e
section ZC
variable {p : Program} {l : Launch} {e : Env} {s : State} {m : MethodId} {args : Array Value} {below : List Frame} {meth : Method} {c : Code} {base : z_B} {D : va_G} {dT : Nat → ClassId} {R : Room} {Q : State → Prop} {tb : List ExceptionTableEntry} {jL nL F L mc ms k n : Nat} {o : Option z_V ⊕ String} {hf : z_Hp} {cc : ByteArray} {own : String} {Ts : List Cond} {rt : Option FieldType} {pc : Nat} {d : Nat}
/-- behind a call -/
theorem z_run {h : z_Hp} {H : Heap} {locs : List Loc} {ls : Array Slot} {ρ : List z_V} (hR : z_Rl base D dT s h H locs) (hL : z_lv base jL nL ls ρ) {o' : Option z_V ⊕ String} {hf' : z_Hp} {mc' ms' : Nat} {av : Array Value} {st : List z_V} {st0 : List Value}
    (hr : vx_Run p l e R s m args below meth c H locs k n (z_mc mc' o') (z_ms ms' o') (F0 m pc ls st0) (st.map (z_kV base)) (z_Q base D dT o' hf' av) (z_X base D dT o' hf') (z_A base))
    (kk : ∀ r, o' = .inl r → z_K p l e R s m args below meth c base D dT jL nL Q (k + mc') (n + ms') hf' ρ (pc + 3) (r.toList ++ st))
    (kx : ∀ E, o' = .inr E → ∀ (q : Addr) (H1 : Heap) (locs1 : List Loc) (ce : Cell), z_Rl base D dT s hf' H1 locs1 → H1[q]? = some ce → ce.vm = .none → s.vm.findClass E = some ce.cls → vx_W p l e R s m args below meth c H1 locs1 (k + 1) (n + 6) Q (F0 m pc ls (st.map (z_kV base))) q) :
    W p l e R s m args below meth c H locs k n Q (F0 m pc ls st0) := by
  intro T hT X
  rcases hr T hT X with ⟨v, st₀, t, T', Ls, h0, X', hLs, e1, e2, ⟨⟨r, ho, hv⟩, hP, hF⟩, stp⟩ | ⟨q, st₀, t, T', Ls, E, ce, h0, X', hLs, e1, e2, ⟨ho, hP, hF⟩, hce, hcv, hcl, stp⟩
  · obtain ⟨-, -, k3⟩ := vx_keep h0 e1 hR.2.2 (fun _ _ q => q) (fun _ q => q) hLs hF
    cases hv
    subst ho
    obtain ⟨t2, a1, b1⟩ := kk r rfl T'.heap (locs ++ Ls) ls ⟨by rw [e1]; exact hP, hR.2.1, k3⟩ hL T' rfl X'
    refine ⟨t2, stp t2 ?_, b1⟩
    have hs : (r.toList ++ st).map (z_kV base) = (r.map (z_kV base)).toList ++ st.map (z_kV base) := by
      cases r <;> rfl
    rw [hs] at a1
    exact a1
  · obtain ⟨-, -, k3⟩ := vx_keep h0 e1 hR.2.2 (fun _ _ q => q) (fun _ q => q) hLs hF
    subst ho
    obtain ⟨t2, a1, b1⟩ := kx E rfl q T'.heap (locs ++ Ls) ce ⟨by rw [e1]; exact hP, hR.2.1, k3⟩ (by rw [e1]; exact hce) hcv hcl T' rfl X'
    exact ⟨t2, stp.trans a1, b1⟩
/-- thrown on to the caller -/
theorem z_thrown (C : z_Cx p l s m args meth c base cc nL own Ts rt []) {E : String} {hf' : z_Hp} {rest : List Value} {ls : Array Slot} (hk : ∀ E, o = .inr E → k = 0 ∧ n = 0) (kx : z_KX o hf E hf') (q : Addr) (H1 : Heap) (locs1 : List Loc) (ce : Cell) (hR : z_Rl base D dT s hf' H1 locs1) (hce : H1[q]? = some ce) (hcv : ce.vm = .none) (hcl : s.vm.findClass E = some ce.cls) : vx_W p l e (z_R F L mc ms o) s m args below meth c H1 locs1 (k + 1) (n + 6) (z_Qm below base D dT o hf args s mc ms) (F0 m pc ls rest) q := by
  obtain ⟨x1, x2⟩ := kx
  obtain ⟨k0, n0⟩ := hk E x1
  subst x1
  subst x2
  subst k0
  subst n0
  exact vx_out (mc := 1) (ms := 6) (Qc := z_Q base D dT (.inr E) hf) (XC := z_X base D dT (.inr E) hf) (free := z_A base) (fun x hx => (by rw [C.2.2.2.2.2.2.2.2.2.1] at hx; cases hx)) C.2.2.2.2.2.1 hce hcv hcl (fun t' ht' _ => ⟨rfl, by rw [ht']; exact hR.1, va_S.F hR.2.2 ht'⟩) hR.2.2.2.2 (Nat.le_refl _) (Nat.le_refl _)
theorem z_fits {o' : Option z_V ⊕ String} (hk : ∀ E, o = .inr E → k = 0 ∧ n = 0) (hk0 : k ≤ z_mc mc o ∧ n ≤ z_ms ms o) (kx : ∀ E, o' = .inr E → o = .inr E) : k + z_mc 0 o' ≤ (z_R F L mc ms o).cells ∧ n + z_ms 0 o' ≤ (z_R F L mc ms o).slots := by
  cases o' with
  | inl r => exact hk0
  | inr E =>
    have x := kx E rfl
    obtain ⟨k0, n0⟩ := hk E x
    subst x
    subst k0
    subst n0
    exact ⟨Nat.le_refl _, Nat.le_refl _⟩
theorem iC.of {K : z_Hp → List z_V → Nat → List z_V → Prop} {KX : String → z_Hp → Prop} {f : z_Mt} {n d pc pc' : Nat} (H : ∀ h ρ st Ls, Ls.length = n → z_wt Ls = n → z_wt st ≤ d → ∀ o' h', f Ls h = some (o', h') → (∀ r, o' = .inl r → K h' ρ pc' (r.toList ++ st)) → (∀ E, o' = .inr E → KX E h') → K h ρ pc (Ls.reverse ++ st)) : iC K KX f n d pc pc' :=
  fun h ρ st Ls q1 q2 q3 => ⟨fun r h' e1 k1 => H h ρ st Ls q1 q2 q3 _ _ e1 (fun _ q => by cases q; exact k1) (fun _ q => by cases q), fun E h' e1 k1 => H h ρ st Ls q1 q2 q3 _ _ e1 (fun _ q => by cases q) (fun _ q => by cases q; exact k1)⟩
/-- a call of an object's method -/
theorem z_cV (C : z_Cx p l s m args meth c base cc nL own Ts rt []) (hk : ∀ E, o = .inr E → k = 0 ∧ n = 0) (hk0 : k ≤ z_mc mc o ∧ n ≤ z_ms ms o) {CC : String} {TT : u_T} {N ci nA F' L' maxL ix : Nat} {y : MethodName} {ws ws' : List Cond} {bytes : ByteArray} {ret : Option FieldType} {f : z_Mt} (hM : z_CT l y ws (nA + 1) F' L' 0 0 false (z_vm ci f)) (hc : vwCl[ci]? = some (CC, TT, N)) (hT : GoodIn Ts (wsV own ix CC y ws)) (hw : ws = Cond.code y bytes maxL ret :: ws')
    (hd : y.cls = CC ∧ y.cls ≠ "java/lang/invoke/MethodHandle" ∧ y.cls ≠ "java/lang/invoke/VarHandle" ∧ (parseMethodDescriptor y.desc).map (fun d => d.parameters.length) = some nA) (hRm : F' + 1 ≤ F ∧ 8 + (maxL + 11) + L' ≤ L) (hd8 : d ≤ 8) (hdg : decode cc pc = .ok (.invokevirtual ix, 3)) :
    iC (z_K p l e (z_R F L mc ms o) s m args below meth c base D dT jL nL (z_Qm below base D dT o hf args s mc ms) k n) (z_KX o hf) (z_vm ci f) (nA + 1) d pc (pc + 3) := by
  refine iC.of fun h ρ st Ls q1 q2 q3 o' h' e1 kk kx => ?_
  intro H locs ls hR hL
  obtain ⟨⟨r, As, fs, rfl, ho⟩, -⟩ := z_vm_some e1
  have hlen : As.length = nA := by simpa using q1
  refine z_run (mc' := 0) (ms' := 0) hR hL (vx_runV (y := y) (b := z_ad base r) (As := As.map (z_kV base)) ⟨C.1, C.2.1, C.2.2.1, C.2.2.2.1, C.2.2.2.2.1⟩ (hM base D dT _ h o' h' q1 q2 e1) (cwV nA C.2.2.2.2.1 hT hw rfl rfl hd hRm) ⟨z_U_blind, va_recv hR.2.1 hR.1 hc (z_kW_get (z_obj_some ho)), fun U hU hW => ⟨rfl, hR.u C.2.2.2.2.2.2.2.1 C.2.2.2.2.2.2.2.2.1 hU hW (fun q => by cases q)⟩⟩ rfl (by rw [List.length_map]; exact hlen) (z_lv.sz hL) ?_ (lv_room (by rw [z_cat_sum]; omega)) hdg (z_fits hk hk0 (fun E q => (kx E q).1))) kk (fun E q => z_thrown C hk (kx E q))
  show ((vR r :: As).reverse ++ st).map (z_kV base) = _
  rw [List.reverse_cons, List.append_assoc, List.map_append, List.map_reverse]
  rfl
/-- a static call -/
theorem z_cS (C : z_Cx p l s m args meth c base cc nL own Ts rt []) (hk : ∀ E, o = .inr E → k = 0 ∧ n = 0) (hk0 : k ≤ z_mc mc o ∧ n ≤ z_ms ms o) {nA F' L' maxL ix : Nat} {y : MethodName} {ws ws' : List Cond} {bytes : ByteArray} {ret : Option FieldType} {f : z_Mt} (hM : z_CT l y ws nA F' L' 0 0 false f) (hT : GoodIn Ts (va_wsS own ix y ws)) (hw : ws = Cond.code y bytes maxL ret :: ws')
    (hd : y.cls ≠ "java/lang/invoke/MethodHandle" ∧ y.cls ≠ "java/lang/invoke/VarHandle" ∧ (parseMethodDescriptor y.desc).map (fun d => d.parameters.length) = some nA) (hRm : F' + 1 ≤ F ∧ 8 + (maxL + 11) + L' ≤ L) (hd8 : d ≤ 8) (hdg : decode cc pc = .ok (.invokestatic ix, 3)) :
    iC (z_K p l e (z_R F L mc ms o) s m args below meth c base D dT jL nL (z_Qm below base D dT o hf args s mc ms) k n) (z_KX o hf) f nA d pc (pc + 3) := by
  refine iC.of fun h ρ st Ls q1 q2 q3 o' h' e1 kk kx => ?_
  intro H locs ls hR hL
  refine z_run (mc' := 0) (ms' := 0) hR hL (vx_runS (y := y) (As := Ls.map (z_kV base)) ⟨C.1, C.2.1, C.2.2.1, C.2.2.2.1, C.2.2.2.2.1⟩ (hM base D dT _ h o' h' q1 q2 e1) (va_cwS nA C.2.2.2.2.1 hT hw rfl rfl hd hRm) ⟨z_U_blind, fun U hU hW => ⟨rfl, hR.u C.2.2.2.2.2.2.2.1 C.2.2.2.2.2.2.2.2.1 hU hW (fun q => by cases q)⟩⟩ rfl (by rw [List.length_map]; exact q1) (z_lv.sz hL) ?_ (lv_room (by rw [z_cat_sum]; omega)) hdg (z_fits hk hk0 (fun E q => (kx E q).1))) kk (fun E q => z_thrown C hk (kx E q))
  show (Ls.reverse ++ st).map (z_kV base) = _
  rw [List.map_append, List.map_reverse]
/-- a static call of a private method of the nest -/
theorem z_cSN (C : z_Cx p l s m args meth c base cc nL own Ts rt []) (hk : ∀ E, o = .inr E → k = 0 ∧ n = 0) (hk0 : k ≤ z_mc mc o ∧ n ≤ z_ms ms o) {nA F' L' maxL ix : Nat} {host : String} {y : MethodName} {ws ws' : List Cond} {bytes : ByteArray} {ret : Option FieldType} {f : z_Mt} (hM : z_CT l y ws nA F' L' 0 0 false f) (hT : GoodIn Ts ws) (hw : ws = Cond.code y bytes maxL ret :: ws') (hlk : Cond.methodLinkNest own ix y host ∈ z_xw) (hini : Cond.initialized y.cls ∈ Ts) (hst : Cond.static y ∈ Ts)
    (hd : y.cls ≠ "java/lang/invoke/MethodHandle" ∧ y.cls ≠ "java/lang/invoke/VarHandle" ∧ (parseMethodDescriptor y.desc).map (fun d => d.parameters.length) = some nA) (hRm : F' + 1 ≤ F ∧ 8 + (maxL + 11) + L' ≤ L) (hd8 : d ≤ 8) (hdg : decode cc pc = .ok (.invokestatic ix, 3)) :
    iC (z_K p l e (z_R F L mc ms o) s m args below meth c base D dT jL nL (z_Qm below base D dT o hf args s mc ms) k n) (z_KX o hf) f nA d pc (pc + 3) := by
  refine iC.of fun h ρ st Ls q1 q2 q3 o' h' e1 kk kx => ?_
  intro H locs ls hR hL
  refine z_run (mc' := 0) (ms' := 0) hR hL (vx_runSN (y := y) (host := host) (As := Ls.map (z_kV base)) ⟨C.1, C.2.1, C.2.2.1, C.2.2.2.1, C.2.2.2.2.1⟩ (hM base D dT _ h o' h' q1 q2 e1) ⟨va_cnB nA C.2.2.2.2.1 hT hw rfl rfl (C.2.2.2.2.2.2.2.2.1.2.2.1 _ hlk) (C.2.2.2.2.1 _ hini) hd hRm, C.2.2.2.2.1 _ hst, trivial⟩ ⟨z_U_blind, fun U hU hW => ⟨rfl, hR.u C.2.2.2.2.2.2.2.1 C.2.2.2.2.2.2.2.2.1 hU hW (fun q => by cases q)⟩⟩ rfl (by rw [List.length_map]; exact q1) (z_lv.sz hL) ?_ (lv_room (by rw [z_cat_sum]; omega)) hdg (z_fits hk hk0 (fun E q => (kx E q).1))) kk (fun E q => z_thrown C hk (kx E q))
  show (Ls.reverse ++ st).map (z_kV base) = _
  rw [List.map_append, List.map_reverse]
-- ends
theorem z_retI (C : z_Cx p l s m args meth c base cc nL own Ts (some .int) tb) (hk0 : k ≤ z_mc mc o ∧ n ≤ z_ms ms o) (hdg : decode cc pc = .ok (.ireturn, 1)) : ∀ h ρ (v : Int), z_KR o hf (some (vI v)) h → z_K p l e (z_R F L mc ms o) s m args below meth c base D dT jL nL (z_Qm below base D dT o hf args s mc ms) k n h ρ pc [vI v] := by
  intro h ρ v ⟨ho, hh⟩ H locs ls hR hL
  subst ho
  subst hh
  exact W.widen hk0.1 hk0.2 (vx_ret (W.iret C.1 C.2.1 C.2.2.2.2.2.2.2.2.2.2 (fun t ht hW => ⟨⟨_, rfl, rfl⟩, by rw [ht]; exact hR.1, va_S.F hR.2.2 ht⟩) hR.2.2.2.2 hdg C.2.2.2.2.2.1))
theorem z_retB (C : z_Cx p l s m args meth c base cc nL own Ts (some .boolean) tb) (hk0 : k ≤ z_mc mc o ∧ n ≤ z_ms ms o) (hdg : decode cc pc = .ok (.ireturn, 1)) : ∀ h ρ (b : Bool), z_KR o hf (some (vB b)) h → z_K p l e (z_R F L mc ms o) s m args below meth c base D dT jL nL (z_Qm below base D dT o hf args s mc ms) k n h ρ pc [vB b] := by
  intro h ρ b ⟨ho, hh⟩ H locs ls hR hL
  subst ho
  subst hh
  cases b
  · exact W.widen hk0.1 hk0.2 (vx_ret (W.zret (v := 0) (ty := .boolean) C.1 C.2.1 C.2.2.2.2.2.2.2.2.2.2 rfl (fun t ht hW => ⟨⟨_, rfl, rfl⟩, by rw [ht]; exact hR.1, va_S.F hR.2.2 ht⟩) hR.2.2.2.2 hdg C.2.2.2.2.2.1))
  · exact W.widen hk0.1 hk0.2 (vx_ret (W.zret (v := 1) (ty := .boolean) C.1 C.2.1 C.2.2.2.2.2.2.2.2.2.2 rfl (fun t ht hW => ⟨⟨_, rfl, rfl⟩, by rw [ht]; exact hR.1, va_S.F hR.2.2 ht⟩) hR.2.2.2.2 hdg C.2.2.2.2.2.1))
theorem z_retR {rt0 : FieldType} (C : z_Cx p l s m args meth c base cc nL own Ts (some rt0) tb) (hrt : (∃ q, rt0 = .object q) ∨ ∃ t, rt0 = .array t) (hk0 : k ≤ z_mc mc o ∧ n ≤ z_ms ms o) (hdg : decode cc pc = .ok (.areturn, 1)) : ∀ h ρ (r : Nat), z_KR o hf (some (vR r)) h → z_K p l e (z_R F L mc ms o) s m args below meth c base D dT jL nL (z_Qm below base D dT o hf args s mc ms) k n h ρ pc [vR r] := by
  intro h ρ r ⟨ho, hh⟩ H locs ls hR hL
  subst ho
  subst hh
  exact W.widen hk0.1 hk0.2 (vx_ret (W.aret C.1 C.2.1 C.2.2.2.2.2.2.2.2.2.2 hrt (Or.inr ⟨_, rfl⟩) (fun t ht hW => ⟨⟨_, rfl, rfl⟩, by rw [ht]; exact hR.1, va_S.F hR.2.2 ht⟩) hR.2.2.2.2 hdg C.2.2.2.2.2.1))
theorem z_retV (C : z_Cx p l s m args meth c base cc nL own Ts none tb) (hk0 : k ≤ z_mc mc o ∧ n ≤ z_ms ms o) (hdg : decode cc pc = .ok (.return_, 1)) : ∀ h ρ, z_KR o hf none h → z_K p l e (z_R F L mc ms o) s m args below meth c base D dT jL nL (z_Qm below base D dT o hf args s mc ms) k n h ρ pc [] := by
  intro h ρ ⟨ho, hh⟩ H locs ls hR hL
  subst ho
  subst hh
  exact W.widen hk0.1 hk0.2 (vx_ret (W.vret C.1 C.2.1 C.2.2.2.2.2.2.2.2.2.2 (fun t ht hW => ⟨⟨_, rfl, rfl⟩, by rw [ht]; exact hR.1, va_S.F hR.2.2 ht⟩) hR.2.2.2.2 hdg C.2.2.2.2.2.1))
/-- throw new E("text") -/
theorem z_thr (C : z_Cx p l s m args meth c base cc nL own Ts rt []) {cls text : String} {ik is ic : Nat} (hcls : Bundle.fit cls = true) (hk1 : Cond.classLink own ik cls ∈ Ts) (hini : Cond.initialized cls ∈ Ts) (hstr : (own, is, text) ∈ z_strs)
    (hat : ∀ w ∈ (vx_atS own ic cls ["java/lang/RuntimeException", "java/lang/Exception"]).filter goodWord, w ∈ Ts) (hat2 : ∀ w ∈ (vx_atS own ic cls ["java/lang/RuntimeException", "java/lang/Exception"]).filter (fun w => !goodWord w), w ∈ z_xw)
    (hgood : ∀ w ∈ Cond.classLink own ik cls :: Cond.initialized cls :: vx_atS own ic cls ["java/lang/RuntimeException", "java/lang/Exception"], vx_ot w = true)
    (d0 : decode cc pc = .ok (.new ik, 3)) (d3 : decode cc (pc + 3) = .ok (.dup, 1)) (d4 : decode cc (pc + 4) = .ok (.ldc is, 2)) (d6 : decode cc (pc + 6) = .ok (.invokespecial ic, 3)) (d9 : decode cc (pc + 9) = .ok (.athrow, 1)) (hRm : 5 < F ∧ 82 ≤ L) :
    ∀ h ρ, z_KX o hf cls h → z_K p l e (z_R F L mc ms o) s m args below meth c base D dT jL nL (z_Qm below base D dT o hf args s mc ms) 0 0 h ρ pc [] := by
  intro h ρ ⟨ho, hh⟩ H locs ls hR hL
  subst ho
  subst hh
  obtain ⟨sa, hsa⟩ := C.2.2.2.2.2.2.2.2.1.2.2.2.1 _ hstr
  exact vx_throwS C.1 C.2.1 C.2.2.2.2.2.2.1 C.2.2.2.1 hcls (names := ["java/lang/RuntimeException", "java/lang/Exception"]) (by decide +kernel) (C.2.2.2.2.1 _ hk1) (C.2.2.2.2.1 _ hini) hsa
    (vx_hat (B := z_xw) (fun w hw => C.2.2.2.2.1 _ (hat w hw)) hat2 (fun w hw => va_Nw.use (z_xw_tab w hw) (C.2.2.2.2.2.2.2.2.1.2.2.1 w hw))) hgood C.2.2.2.2.2.2.2.2.1.1 C.2.2.2.2.2.2.2.2.1.2.1 hR.2.2 ((z_lv.sz hL).trans C.2.2.1.symm) d0 d3 d4 d6 d9
    (fun x hx => (by rw [C.2.2.2.2.2.2.2.2.2.1] at hx; cases hx)) hRm.1 (by show (([] : List Value).map fun v => v.category).sum + _ ≤ L; simp; omega) (Nat.le_refl 1) (Nat.le_refl 6) C.2.2.2.2.2.1
    (fun t hvm hz hq => ⟨rfl, va_P.kept hR.1 (fun kx x hx => hq x.1 ((hR.1 kx x hx).lt)), ⟨Nat.le_trans hR.2.2.1 hz, fun q h1 h2 => (hq q (Nat.lt_of_lt_of_le h1 hR.2.2.1)).trans (hR.2.2.2.1 q h1 h2)⟩⟩) hR.2.2.2.2 (Nat.le_refl 1) (Nat.le_refl 6)
end ZC
theorem z_lv_args (base : z_B) (As : List z_V) : ∀ i0 : Nat, (∀ v ∈ As, z_cat v = 1) → (lg_sl (As.map (z_kV base))).length = As.length ∧ (∀ q ∈ lv_args i0 (As.map (z_kV base)), q.2.category = 1) ∧ ∀ (i : Nat) (v : z_V), As[i]? = some v → (i0 + i, z_kV base v) ∈ lv_args i0 (As.map (z_kV base)) := by
  induction As with
  | nil => intro i0 _; exact ⟨rfl, fun q hq => (by cases hq), fun i v hv => (by cases hv)⟩
  | cons a As ih =>
    intro i0 hc
    have ha : (z_kV base a).category = 1 := by rw [z_cat_kV]; exact hc a List.mem_cons_self
    obtain ⟨h1, h2, h3⟩ := ih (i0 + 1) (fun v hv => hc v (List.mem_cons_of_mem _ hv))
    have h2n : ¬ (z_kV base a).category = 2 := by omega
    have eq1 : lv_args i0 ((a :: As).map (z_kV base)) = (i0, z_kV base a) :: lv_args (i0 + 1) (As.map (z_kV base)) := by
      show (i0, z_kV base a) :: lv_args (if (z_kV base a).category = 2 then i0 + 2 else i0 + 1) (As.map (z_kV base)) = _
      rw [if_neg h2n]
    refine ⟨?_, fun q hq => ?_, fun i v hv => ?_⟩
    · show (lg_sl (z_kV base a :: As.map (z_kV base))).length = _
      unfold lg_sl at h1 ⊢
      rw [List.flatMap_cons, if_neg h2n]
      simp [h1]
    · rw [eq1] at hq
      rcases List.mem_cons.mp hq with rfl | hq
      · exact ha
      · exact h2 q hq
    · rw [eq1]
      cases i with
      | zero => cases hv; exact List.mem_cons_self
      | succ i =>
        have := h3 i v hv
        rw [show i0 + (i + 1) = i0 + 1 + i by omega]
        exact List.mem_cons_of_mem _ this
theorem z_wt_one {As : List z_V} (h : z_wt As = As.length) : ∀ v ∈ As, z_cat v = 1 := by
  have ge : ∀ v : z_V, 1 ≤ z_cat v := fun v => by rcases v with n | n | r | u <;> simp [z_cat]
  have le : ∀ As : List z_V, As.length ≤ z_wt As := fun As => by
    induction As with
    | nil => exact Nat.le_refl 0
    | cons a As ih => rw [z_wt_cons]; have := ge a; simp only [List.length_cons]; omega
  induction As with
  | nil => intro v hv; cases hv
  | cons a As ih =>
    rw [z_wt_cons] at h
    have h1 := ge a
    have h2 := le As
    simp only [List.length_cons] at h
    intro v hv
    rcases List.mem_cons.mp hv with rfl | hv
    · omega
    · exact ih (by omega) v hv
theorem z_ofWF {l : Launch} {y : MethodName} {ws ws' : List Cond} {rm : Room} {Pc : Array Value → State → Prop} {Qc : Array Value → State → Outcome → State → Prop} {XC : String → State → State → Prop} {mc ms : Nat} {free : Addr → Prop} {cc : ByteArray} {maxL : Nat} {ret : Option FieldType}
    (hy : plainFor y = true) (hw : ws = Cond.code y cc maxL ret :: ws')
    (body : ∀ p e s m args below meth c s₁, BodyLoose p l y (headSpec ws rm) cc maxL ret e s m args below meth c s₁ → c.maxLocals = maxL → (∀ x ∈ c.exceptionTable.toList, False) → Pc args s →
      W p l e (headSpec ws rm).room s m args below meth c s.heap [] 0 0 (vx_MQ below Qc XC args s mc ms free) (entryFrame m args maxL)) : vx_Met l y ws rm Pc Qc XC mc ms free := by
  refine MetFree.of_bodySF (code := cc) (maxLocals := maxL) (ret := ret) hy ?_ ?_
  · intro args s m h hn
    obtain ⟨meth, c, h1, h2, h3, h4, h5, h6, -, -⟩ := Cond.code_spec hn (atoms_spec (ws := ws) h _ (by rw [hw]; exact List.mem_cons_self))
    exact ⟨meth, c, h1, h2, h3, h4, h5, h6⟩
  · intro p e s m args below meth c s₁ B hml hP _
    have hh0 : s₁.heap = s.heap := by rw [B.state]; rfl
    have ht : ∀ x ∈ c.exceptionTable.toList, False := by
      obtain ⟨meth9, c9, h1, h2, -, -, -, -, h7, -⟩ := Cond.code_spec B.named (atoms_spec (ws := ws) B.pre _ (by rw [hw]; exact List.mem_cons_self))
      cases Option.some.inj (h1.symm.trans B.method)
      cases Option.some.inj (h2.symm.trans (Stand.of_body B).code)
      intro x hx
      rw [Array.isEmpty_iff.mp h7] at hx
      cases hx
    obtain ⟨t, a1, o, b1, b2, b3⟩ := body p e s m args below meth c s₁ B hml ht hP s₁ hh0 (Stand.of_body B)
    exact ⟨t, o, a1, b1, b2, b3⟩
/-- a contract, out of the body's walk -/
theorem z_CT.of {l : Launch} (hfl : l.stackTraces = false) {y : MethodName} {ws ws' : List Cond} {nA F L nL jL : Nat} {cc : ByteArray} {rt : Option FieldType} (hy : plainFor y = true) (hw : ws = Cond.code y cc nL rt :: ws') (hnA : nA ≤ nL) {st : z_St} (pe pb : Nat)
    (body : ∀ {p : Program} {e : Env} {s : State} {m : MethodId} {args : Array Value} {below : List Frame} {meth : Method} {c : Code} {base : z_B} {D : va_G} {dT : Nat → ClassId} (o : Option z_V ⊕ String) (hf : z_Hp), z_Cx p l s m args meth c base cc nL y.cls ws rt [] →
      xS (z_K p l e (z_R F L 0 0 o) s m args below meth c base D dT jL nL (z_Qm below base D dT o hf args s 0 0) 0 0) (z_KX o hf) (z_KR o hf) st 0 pe pb) : z_CT l y ws nA F L 0 0 false (z_body nL st) := by
  intro base D dT As h o hf hn hwt he
  refine z_ofWF hy hw ?_
  intro p e s m args below meth c s₁ B hml htab hv
  obtain ⟨rfl, hU⟩ := hv
  have C : z_Cx p l s m _ meth c base cc nL y.cls ws rt [] := ⟨B.exec, B.bytes, hml, findClass_of_methodNamed B.named, atoms_spec (ws := ws) B.pre, B.notSynchronized, hfl, hU.2.2.1, hU.2.2.2.2, List.eq_nil_iff_forall_not_mem.mpr (fun x hx => htab x hx), B.returns⟩
  obtain ⟨a1, a2, a3⟩ := z_lv_args base As 0 (z_wt_one (hwt.trans hn.symm))
  have hl := lv_entry (As.map (z_kV base)) (n := nL) (by rw [a1]; omega)
  rw [lg_entry_eq]
  generalize (lg_sl (As.map (z_kV base)) ++ List.replicate (nL - (lg_sl (As.map (z_kV base))).length) Slot.unset).toArray = ls at hl ⊢
  have hlv : z_lv base jL nL ls (As ++ List.replicate (nL - As.length) vU) := by
    refine ⟨_, hl, fun q hq => Or.inl (a2 q hq), fun i v hi hne => ?_⟩
    by_cases hlt : i < As.length
    · rw [List.getElem?_append_left hlt] at hi
      have := a3 i v hi
      rwa [Nat.zero_add] at this
    · rw [List.getElem?_append_right (by omega)] at hi
      have := List.mem_of_getElem? hi
      exact absurd (List.eq_of_mem_replicate this) hne
  have X := body (p := p) (e := e) (s := s) (m := m) (below := below) (meth := meth) (c := c) (base := base) (D := D) (dT := dT) o hf C
  unfold z_body at he
  split at he
  · next r h' hs =>
    cases he
    exact (X.to hs (fun _ q => by cases q) (fun _ q => by cases q) (fun _ q => by cases q; exact ⟨rfl, rfl⟩) (fun _ q => by cases q)) s.heap [] ls (z_U.rl hU) hlv
  · next E h' hs =>
    cases he
    exact (X.to hs (fun _ q => by cases q) (fun _ q => by cases q) (fun _ q => by cases q) (fun _ q => by cases q; exact ⟨rfl, rfl⟩)) s.heap [] ls (z_U.rl hU) hlv
  · cases he
/-- .. of an object's method: the object is there -/
theorem z_CT.vm {l : Launch} {y : MethodName} {ws : List Cond} {nA F L mc ms : Nat} {fr : Bool} {ci : Nat} {f : z_Mt} (h : z_CT l y ws nA F L mc ms fr f) : z_CT l y ws nA F L mc ms fr (z_vm ci f) := fun base D dT As hp o hf q1 q2 q3 => h base D dT As hp o hf q1 q2 (z_vm_some q3).2
