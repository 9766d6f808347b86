/-! THE LAW'S WRAPPERS: a try with handlers -/
def z_ncs (U : State) : Prop := va_Nc "java/lang/IllegalArgumentException" "java/lang/IndexOutOfBoundsException" U ∧ va_Nc "java/lang/IllegalStateException" "java/lang/IndexOutOfBoundsException" U
/-- a wrapper: E1 is answered by 1, E2 by 2 -/
def z_wb (nL : Nat) (E1 E2 : String) (s : z_St) : z_Mt := fun L h => match s (L ++ List.replicate (nL - L.length) vU) h with
  | some (.inr (.inr (.inl r)), h') => some (.inl r, h')
  | some (.inr (.inr (.inr E)), h') => if E = E1 then some (.inl (some (vI 1)), h') else if E = E2 then some (.inl (some (vI 2)), h') else none
  | _ => none
def z_KXW (E1 E2 : String) (r0 : Option z_V) (hf : z_Hp) (E : String) (h : z_Hp) : Prop := hf = h ∧ ((E = E1 ∧ r0 = some (vI 1)) ∨ (E ≠ E1 ∧ E = E2 ∧ r0 = some (vI 2)))
def z_CW (l : Launch) (y : MethodName) (ws : List Cond) (nA F L : Nat) (f : z_Mt) : Prop :=
  ∀ (base : Nat) (D : va_G) (dT : Nat → ClassId) (As : List z_V) (h : z_Hp) (r0 : Option z_V) (hf : z_Hp), As.length = nA → z_wt As = nA → f As h = some (.inl r0, hf) →
    vx_Met l y ws (z_R F L 1 6 (.inl r0)) (va_Pc (As.map (z_kV base)) (fun U => z_U base D dT false h U ∧ z_ncs U)) (z_Q base D dT (.inl r0) hf) (z_X base D dT (.inl r0) hf) 1 6 (z_A base)
theorem z_ncs.moved {u U : State} (hvm : u.vm.Alike U.vm) (h : z_ncs u) : z_ncs U := ⟨va_Nc.moved hvm h.1, va_Nc.moved hvm h.2⟩
theorem z_UW_blind {base : Nat} {D : va_G} {dT : Nat → ClassId} {fr : Bool} {h : z_Hp} {av : List Value} : FrameBlind (va_Pc av (fun U => z_U base D dT fr h U ∧ z_ncs U)) := by
  intro a U g mk q
  obtain ⟨q0, q1, q2⟩ := q
  have h1 := z_U_blind (base := base) (D := D) (dT := dT) (fr := fr) (h := h) (av := av) a U g mk ⟨q0, q1⟩
  exact ⟨h1.1, h1.2, z_ncs.moved (u := U) (U := U.calling g mk a) (Vm.Alike.refl U.vm) q2⟩
section ZW
variable {p : Program} {l : Launch} {e : Env} {s : State} {m : MethodId} {args : Array Value} {below : List Frame} {meth : Method} {c : Code} {base : Nat} {D : va_G} {dT : Nat → ClassId} {R : Room} {Q : State → Prop} {tb : List ExceptionTableEntry} {jL nL F L k n : Nat} {r0 : Option z_V} {hf : z_Hp} {cc : ByteArray} {own : String} {Ts : List Cond} {rt : Option FieldType} {pc : Nat} {d : Nat}
theorem z_lv_drop {i : Nat} {ls' : Array Slot} {ρ : List z_V} {lv : List (Nat × Value)} {x : Value} (h4 : lv_has ls' nL ((i, x) :: lv.filter (fun q => !(q.1 == i) && !(q.1 + 1 == i && q.2.category == 2)))) (h2 : ∀ q ∈ lv, q.2.category = 1 ∨ q.1 = jL)
    (h3 : ∀ (j : Nat) (u : z_V), ρ[j]? = some u → u ≠ vU → (j, z_kV base u) ∈ lv) (hj : i ≠ jL + 1) (hx : x.category = 1) : z_lv base jL nL ls' (ρ.set i vU) := by
  refine ⟨_, h4, fun q hq => ?_, fun j u hu hn => ?_⟩
  · rcases List.mem_cons.mp hq with rfl | hq
    · exact Or.inl hx
    · exact h2 q (List.mem_filter.mp hq).1
  · rw [List.getElem?_set] at hu
    split at hu
    · next e =>
      split at hu
      · cases hu
        exact absurd rfl hn
      · cases hu
    · next e =>
      refine List.mem_cons_of_mem _ (List.mem_filter.mpr ⟨h3 j u hu hn, ?_⟩)
      have h5 := h2 _ (h3 j u hu hn)
      have h6 : ¬ j = i := fun q => e q.symm
      simp only [Bool.and_eq_true, Bool.not_eq_true', beq_eq_false_iff_ne, ne_eq, h6, not_false_eq_true, true_and, Bool.and_eq_false_iff]
      rcases h5 with h5 | h5
      · right
        rw [h5]
        decide
      · left
        have h7 : j = jL := h5
        omega
/-- into the handler of the row x, the exception put away, on with what comes behind -/
theorem z_hand (C : z_Cx p l s m args meth c base cc nL own Ts rt tb) {E : String} (pre : List ExceptionTableEntry) (x : ExceptionTableEntry) (suf : List ExceptionTableEntry) (htb : tb = pre ++ x :: suf) (hpass : ∀ z ∈ pre, covers z pc = false ∨ (z.catchType ≠ 0 ∧ ∃ nm : String, Cond.classLink own z.catchType nm ∈ Ts ∧ va_Nc E nm s)) (hx : covers x pc = true) (h0 : x.catchType ≠ 0)
    (hlink : Cond.classLink own x.catchType E ∈ Ts) (hcast : Cond.castable E E ∈ z_xw) {i : Nat} (hn : i < nL) (hj : i ≠ jL + 1) {pe : Nat} (hdg : (∃ kk : Fin 4, (kk : Nat) = i ∧ decode cc x.handlerPc = .ok (.astore_n kk, 1) ∧ pe = x.handlerPc + 1) ∨ (decode cc x.handlerPc = .ok (.astore i, 2) ∧ pe = x.handlerPc + 2)) {h' : z_Hp}
    (kk : ∀ ρ, z_K p l e R s m args below meth c base D dT jL nL Q k n h' ρ pe []) {ρ : List z_V} {rest : List Value} {ls : Array Slot} (q : Addr) (H1 : Heap) (locs1 : List Loc) (ce : Cell) (hR : z_Rl base D dT s h' H1 locs1) (hL : z_lv base jL nL ls ρ) (hce : H1[q]? = some ce) (hcv : ce.vm = .none) (hcl : s.vm.findClass E = some ce.cls) :
    vx_W p l e R s m args below meth c H1 locs1 k n Q (F0 m pc ls rest) q := by
  refine vx_catch (own := own) (name := E) C.2.2.2.1 pre x suf (by rw [C.2.2.2.2.2.2.2.2.2.1, htb]) (fun z hz => ?_) hx h0 (C.2.2.2.2.1 _ hlink) (va_Nw.use (z_xw_tab _ hcast) (C.2.2.2.2.2.2.2.2.1.2.2.1 _ hcast)) hce hcv hcl ?_
  · rcases hpass z hz with h | ⟨a, nm, b, d⟩
    · exact Or.inl h
    · exact Or.inr ⟨a, nm, C.2.2.2.2.1 _ b, d⟩
  · obtain ⟨lv, h1, h2, h3⟩ := hL
    rcases hdg with ⟨k4, hi, hd, rfl⟩ | ⟨hd, rfl⟩
    · exact lv_astore_n C.1 C.2.1 hd hi h1 hn rfl (fun ls' h4 => kk _ H1 locs1 ls' hR (z_lv_drop h4 h2 h3 hj rfl))
    · exact lv_astore C.1 C.2.1 hd h1 hn rfl (fun ls' h4 => kk _ H1 locs1 ls' hR (z_lv_drop h4 h2 h3 hj rfl))
/-- a call of an object's method inside a try -/
theorem z_cVW (C : z_Cx p l s m args meth c base cc nL own Ts rt tb) {KX : String → z_Hp → Prop} {CC : String} {TT : u_T} {N ci nA F' L' maxL ix : Nat} {y : MethodName} {ws ws' : List Cond} {bytes : ByteArray} {ret : Option FieldType} {f : z_Mt} (hM : z_CT l y ws (nA + 1) F' L' 0 0 false (z_vm ci f)) (hc : vwCl[ci]? = some (CC, TT, N)) (hT : GoodIn Ts (wsV own ix CC y ws)) (hw : ws = Cond.code y bytes maxL ret :: ws')
    (hd : y.cls = CC ∧ y.cls ≠ "java/lang/invoke/MethodHandle" ∧ y.cls ≠ "java/lang/invoke/VarHandle" ∧ (parseMethodDescriptor y.desc).map (fun d => d.parameters.length) = some nA) (hRm : F' + 1 ≤ F ∧ 8 + (maxL + 11) + L' ≤ L) (hd8 : d ≤ 8) (hdg : decode cc pc = .ok (.invokevirtual ix, 3))
    (hcat : ∀ E h', KX E h' → ∀ (ρ : List z_V) (rest : List Value) (ls : Array Slot) (q : Addr) (H1 : Heap) (locs1 : List Loc) (ce : Cell), z_Rl base D dT s h' H1 locs1 → z_lv base jL nL ls ρ → H1[q]? = some ce → ce.vm = .none → s.vm.findClass E = some ce.cls → vx_W p l e (z_R F L 1 6 (.inl r0)) s m args below meth c H1 locs1 1 6 (z_Qm below base D dT (.inl r0) hf args s 1 6) (F0 m pc ls rest) q) :
    iC (z_K p l e (z_R F L 1 6 (.inl r0)) s m args below meth c base D dT jL nL (z_Qm below base D dT (.inl r0) hf args s 1 6) 0 0) KX (z_vm ci f) (nA + 1) d pc (pc + 3) := by
  refine iC.of fun h ρ st Ls q1 q2 q3 o' h' e1 kk kx => ?_
  intro H locs ls hR hL
  obtain ⟨⟨r, As, fs, rfl, ho⟩, -⟩ := z_vm_some e1
  have hlen : As.length = nA := by simpa using q1
  refine z_run (mc' := 0) (ms' := 0) hR hL (vx_runV (y := y) (b := base + r) (As := As.map (z_kV base)) ⟨C.1, C.2.1, C.2.2.1, C.2.2.2.1, C.2.2.2.2.1⟩ (hM base D dT _ h o' h' q1 q2 e1) (cwV nA C.2.2.2.2.1 hT hw rfl rfl hd hRm) ⟨z_U_blind, va_recv hR.2.1 hR.1 hc (z_kW_get (z_obj_some ho)), fun U hU hW => ⟨rfl, hR.u C.2.2.2.2.2.2.2.1 C.2.2.2.2.2.2.2.2.1 hU hW (fun q => by cases q)⟩⟩ rfl (by rw [List.length_map]; exact hlen) (z_lv.sz hL) ?_ (lv_room (by rw [z_cat_sum]; omega)) hdg ?_) kk (fun E q a1 H1 locs1 ce b1 b2 b3 b4 => hcat E h' (kx E q) ρ _ ls a1 H1 locs1 ce b1 hL b2 b3 b4)
  · show ((vR r :: As).reverse ++ st).map (z_kV base) = _
    rw [List.reverse_cons, List.append_assoc, List.map_append, List.map_reverse]
    rfl
  · cases o' with
    | inl r => exact ⟨Nat.zero_le _, Nat.zero_le _⟩
    | inr E => exact ⟨Nat.le_refl 1, Nat.le_refl 6⟩
end ZW
theorem xS_go {K : z_Hp → List z_V → Nat → List z_V → Prop} {KX : String → z_Hp → Prop} {KR : Option z_V → z_Hp → Prop} {st : z_St} {pc p1 p2 pb : Nat} (S : xS K KX KR st pc p1 pb) (G : jG K p1 p2) : xS K KX KR st pc p2 pb := fun ρ h => ⟨fun ρ' h' e k => (S ρ h).1 ρ' h' e (G _ _ _ k), (S ρ h).2⟩
/-- a wrapper's contract, out of its body's walk -/
theorem z_CW.of {l : Launch} (hfl : l.stackTraces = false) {y : MethodName} {ws ws' : List Cond} {nA F L nL jL : Nat} {cc : ByteArray} {rt : Option FieldType} {hh : List (Nat × Nat × Nat × Nat)} (hy : plainName y.cls = true) (hw : ws = Cond.codeWith y cc nL rt hh :: ws') (hnA : nA ≤ nL) {st : z_St} {E1 E2 : String} (pe pb : Nat)
    (body : ∀ {p : Program} {e : Env} {s : State} {m : MethodId} {args : Array Value} {below : List Frame} {meth : Method} {c : Code} {base : Nat} {D : va_G} {dT : Nat → ClassId} (r0 : Option z_V) (hf : z_Hp), z_Cx p l s m args meth c base cc nL y.cls ws rt (tableOf hh) → z_ncs s →
      xS (z_K p l e (z_R F L 1 6 (.inl r0)) s m args below meth c base D dT jL nL (z_Qm below base D dT (.inl r0) hf args s 1 6) 0 0) (z_KXW E1 E2 r0 hf) (z_KR (.inl r0) hf) st 0 pe pb) : z_CW l y ws nA F L (z_wb nL E1 E2 st) := by
  intro base D dT As h r0 hf hn hwt he
  refine vx_ofWH hy hw ?_
  intro p e s m args below meth c s₁ B hml hv
  obtain ⟨rfl, hU, hNc⟩ := hv
  have hats := atoms_spec (ws := ws) B.pre
  have C : z_Cx p l s m _ meth c base cc nL y.cls ws rt (tableOf hh) := ⟨B.exec, B.bytes, hml, findClass_of_methodNamed B.named, hats, B.notSynchronized, hfl, hU.2.2.1, hU.2.2.2.2, vx_table (x := y) B (hats _ (by rw [hw]; exact List.mem_cons_self)), B.returns⟩
  obtain ⟨a1, a2, a3⟩ := z_lv_args base As 0 (z_wt_one (hwt.trans hn.symm))
  have hl := lv_entry (As.map (z_kV base)) (n := nL) (by rw [a1]; omega)
  rw [lg_entry_eq]
  generalize (lg_sl (As.map (z_kV base)) ++ List.replicate (nL - (lg_sl (As.map (z_kV base))).length) Slot.unset).toArray = ls at hl ⊢
  have hlv : z_lv base jL nL ls (As ++ List.replicate (nL - As.length) vU) := by
    refine ⟨_, hl, fun q hq => Or.inl (a2 q hq), fun i v hi hne => ?_⟩
    by_cases hlt : i < As.length
    · rw [List.getElem?_append_left hlt] at hi
      have := a3 i v hi
      rwa [Nat.zero_add] at this
    · rw [List.getElem?_append_right (by omega)] at hi
      have := List.mem_of_getElem? hi
      exact absurd (List.eq_of_mem_replicate this) hne
  have X := body (p := p) (e := e) (s := s) (m := m) (below := below) (meth := meth) (c := c) (base := base) (D := D) (dT := dT) r0 hf C hNc
  unfold z_wb at he
  split at he
  · next r h' hs =>
    cases he
    exact (X.to hs (fun _ q => by cases q) (fun _ q => by cases q) (fun _ q => by cases q; exact ⟨rfl, rfl⟩) (fun _ q => by cases q)) s.heap [] ls (z_U.rl hU) hlv
  · next E h' hs =>
    split at he
    · next q1 =>
      cases he
      exact (X.to hs (fun _ q => by cases q) (fun _ q => by cases q) (fun _ q => by cases q) (fun _ q => by cases q; exact ⟨rfl, Or.inl ⟨q1, rfl⟩⟩)) s.heap [] ls (z_U.rl hU) hlv
    · next q1 =>
      split at he
      · next q2 =>
        cases he
        exact (X.to hs (fun _ q => by cases q) (fun _ q => by cases q) (fun _ q => by cases q) (fun _ q => by cases q; exact ⟨rfl, Or.inr ⟨q1, q2, rfl⟩⟩)) s.heap [] ls (z_U.rl hU) hlv
      · cases he
  · cases he

def oI2W (x : Int) : Option Int := some (Int32.ofInt x).toInt
def oB2L (x : Int) : Option Int := some (if Int32.ofInt x = 0 then 0 else 1)
section ZW2
variable {p : Program} {l : Launch} {e : Env} {s : State} {m : MethodId} {args : Array Value} {below : List Frame} {meth : Method} {c : Code} {base : Nat} {D : va_G} {dT : Nat → ClassId} {R : Room} {Q : State → Prop} {tb : List ExceptionTableEntry} {jL nL F L k n : Nat} {r0 : Option z_V} {hf : z_Hp} {cc : ByteArray} {own : String} {Ts : List Cond} {rt : Option FieldType} {pc : Nat} {d : Nat}
theorem z_i2w (C : z_Cx p l s m args meth c base cc nL own Ts rt tb) (hdg : decode cc pc = .ok (.i2l, 1)) : i1 (z_K p l e R s m args below meth c base D dT jL nL Q k n) vI vJ oI2W pc (pc + 1) := by
  intro h ρ st x z hz k1 H locs ls hR hL
  have k2 := k1 H locs ls hR hL
  cases hz
  refine lv_i2l C.1 C.2.1 hdg ?_ k2
  rw [← Int32.toInt_toInt64, Int64.ofInt_toInt]
theorem z_b2l (C : z_Cx p l s m args meth c base cc nL own Ts rt tb) {off off2 : Int} {p1 pe : Nat} {x0 x1 : Fin 2} (d0 : decode cc pc = .ok (.ifCond .eq off, 3)) (ht : (pc : Int) + off = (p1 : Int)) (d1 : decode cc (pc + 3) = .ok (.lconst x1, 1)) (d2 : decode cc (pc + 4) = .ok (.goto off2, 3)) (ht2 : ((pc + 4 : Nat) : Int) + off2 = (pe : Int)) (d3 : decode cc p1 = .ok (.lconst x0, 1)) (hpe : pe = p1 + 1) (h0 : x0 = 0) (h1 : x1 = 1) : i1 (z_K p l e R s m args below meth c base D dT jL nL Q k n) vI vJ oB2L pc pe := by
  subst hpe h0 h1
  intro h ρ st x z hz k1 H locs ls hR hL
  have k2 := k1 H locs ls hR hL
  cases hz
  refine lv_if_eq C.1 C.2.1 d0 ht (fun q => ?_) (fun q => ?_)
  · rw [if_pos q] at k2
    exact lv_lconst C.1 C.2.1 d3 (by decide) k2
  · rw [if_neg q] at k2
    exact lv_lconst C.1 C.2.1 d1 (by decide) (lv_goto C.1 C.2.1 d2 ht2 k2)
theorem z_hret (C : z_Cx p l s m args meth c base cc nL own Ts (some .int) tb) {x : Int} (hc : decode cc pc = .ok (.iconst x, 1)) (hr : decode cc (pc + 1) = .ok (.ireturn, 1)) : ∀ ρ, z_K p l e (z_R F L 1 6 (.inl (some (vI x)))) s m args below meth c base D dT jL nL (z_Qm below base D dT (.inl (some (vI x))) hf args s 1 6) 1 6 hf ρ pc [] := fun ρ =>
  ((z_iconst (KX := fun _ _ => True) (d := 8) C hc) ρ hf [] (Nat.zero_le _)).1 x hf rfl (z_retI C ⟨Nat.le_refl 1, Nat.le_refl 6⟩ hr hf ρ x ⟨rfl, rfl⟩)
end ZW2
/-- the wrapper's statement -/
noncomputable def st_W (m5 : z_Mt) (o : Nat) (A : z_Ev (List z_V)) (f : Int → Option Int) : z_St := sSeq (sASt 1 (eLR o) (eC 0) (e1 f (eCl m5 A))) (sRet vI (eC 0))
-- a method whose answer is an int
def wI (m : z_Mt) : Prop := ∀ L h r h', m L h = some (.inl r, h') → ∃ x, r = some (vI x)
def vRI (s : z_St) : Prop := ∀ ρ h r h', s ρ h = some (oR r, h') → ∃ x, r = some (vI x)
theorem wI.vm {ci : Nat} {f : z_Mt} (h : wI f) : wI (z_vm ci f) := fun L h1 r h' e => h L h1 r h' (z_vm_some e).2
theorem wI.body {n : Nat} {s : z_St} (h : vRI s) : wI (z_body n s) := fun L h1 r h' e => by
  unfold z_body at e
  split at e
  · next r1 h2 hs => cases e; exact h _ _ _ _ hs
  · cases e
  · cases e
theorem vRI_bindS {α : Type} {x : z_Rs α} {k : α → z_Hp → Option (z_Oc × z_Hp)} {r : Option z_V} {h' : z_Hp} (e : z_bindS x k = some (oR r, h')) (hk : ∀ a h1, k a h1 = some (oR r, h') → ∃ x, r = some (vI x)) : ∃ x, r = some (vI x) := by
  rcases z_bindS_cases e with ⟨E, -, q⟩ | ⟨a, h1, -, e2⟩
  · cases q
  · exact hk _ _ e2
theorem vRI_nop : vRI sNop := fun ρ h r h' e => by cases e
theorem vRI_brk : vRI sBrk := fun ρ h r h' e => by cases e
theorem vRI_thr {E : String} : vRI (sThrow E) := fun ρ h r h' e => by cases e
theorem vRI_seq {a b : z_St} (ha : vRI a) (hb : vRI b) : vRI (sSeq a b) := fun ρ h r h' e => by
  unfold sSeq z_then at e
  split at e
  · exact hb _ _ _ _ e
  · exact ha _ _ _ _ e
theorem vRI_set {α : Type} {w : α → z_V} {i : Nat} {x : z_Ev α} : vRI (sSet w i x) := fun ρ h r h' e => vRI_bindS e fun a h1 e2 => by cases e2
theorem vRI_setJ {i : Nat} {x : z_Ev Int} : vRI (sSetJ i x) := fun ρ h r h' e => vRI_bindS e fun a h1 e2 => by cases e2
theorem vRI_inc {i : Nat} {n : Int} : vRI (sInc i n) := fun ρ h r h' e => by
  unfold sInc at e
  split at e <;> cases e
theorem vRI_ast {t : Nat} {a : z_Ev Nat} {i x : z_Ev Int} : vRI (sASt t a i x) := fun ρ h r h' e => vRI_bindS e fun a h1 e2 => vRI_bindS e2 fun a h1 e3 => vRI_bindS e3 fun a h1 e4 => by
  split at e4
  · split at e4 <;> cases e4
  · cases e4
theorem vRI_fst {α : Type} {w : α → z_V} {ci k : Nat} {o : z_Ev Nat} {x : z_Ev α} : vRI (sFSt w ci k o x) := fun ρ h r h' e => vRI_bindS e fun a h1 e2 => vRI_bindS e2 fun a h1 e3 => by
  split at e3
  · split at e3 <;> cases e3
  · cases e3
theorem vRI_aop {t : Nat} {o : Int → Int → Option Int} {a : z_Ev Nat} {i x : z_Ev Int} : vRI (sAOp t o a i x) := fun ρ h r h' e => vRI_bindS e fun a h1 e2 => vRI_bindS e2 fun a h1 e3 => by
  split at e3
  · split at e3
    · refine vRI_bindS e3 fun a h1 e4 => ?_
      split at e4
      · split at e4
        · split at e4 <;> cases e4
        · cases e4
      · cases e4
    · cases e3
  · cases e3
theorem vRI_cl {f : z_Mt} {xs : z_Ev (List z_V)} : vRI (sCl f xs) := fun ρ h r h' e => vRI_bindS e fun a h1 e2 => vRI_bindS e2 fun a h1 e3 => by
  split at e3 <;> cases e3
theorem vRI_if {b : z_Ev Bool} {s t : z_St} (hs : vRI s) (ht : vRI t) : vRI (sIf b s t) := fun ρ h r h' e => vRI_bindS e fun a h1 e2 => by
  split at e2
  · exact hs _ _ _ _ e2
  · exact ht _ _ _ _ e2
theorem vRI_ret {x : z_Ev Int} : vRI (sRet vI x) := fun ρ h r h' e => vRI_bindS e fun a h1 e2 => by cases e2; exact ⟨_, rfl⟩
theorem vRI_retB {x : z_Ev Bool} : vRI (sRet vB x) := fun ρ h r h' e => vRI_bindS e fun a h1 e2 => by cases e2; exact ⟨_, rfl⟩
theorem vRI_loop {b : z_Ev Bool} {s u : z_St} (hs : vRI s) (hu : vRI u) : ∀ N, vRI (sLoop b s u N)
  | 0 => fun ρ h r h' e => by cases e
  | N + 1 => fun ρ h r h' e => by
    unfold sLoop at e
    refine vRI_bindS e fun a h1 e2 => ?_
    split at e2
    · split at e2
      · unfold z_then at e2
        split at e2
        · exact vRI_loop hs hu N _ _ _ _ e2
        · exact hu _ _ _ _ e2
      · cases e2
      · exact hs _ _ _ _ e2
    · cases e2
/-- what a wrapper does, of what both did -/
theorem kOp.w {m5 m6 : z_Mt} {E1 E2 E3 : String} {as : List z_V} {S : Nat → Nat → Int} (h : kOp m5 m6 E1 E2 as S) (h5 : wI m5) (h6 : wI m6) (hE : E2 ≠ "" → E2 ≠ E1 ∧ E3 = E2) {nL o : Nat} {A : z_Ev (List z_V)} {f : Int → Option Int} {g0 : Int → Int} (hf : ∀ x, f x = some (g0 x)) {L : List z_V} (ho : (L ++ List.replicate (nL - L.length) vU)[o]? = some (vR 103))
    (hA : ∀ h, A (L ++ List.replicate (nL - L.length) vU) h = some (.inl (vR 0 :: as), h)) : ∃ (kc r : Int) (S1 S2 : Nat → Nat → Int), z_wb nL E1 E3 (st_W m5 o A f) L (k_W S) = some (.inl (some (vI kc)), k_W S1) ∧ m6 (vR 85 :: as) (k_W S1) = some (.inl (some (vI r)), k_W S2) ∧ kInv S2 ∧ S2 103 = S1 103 ∧ S2 85 1 = kc ∧ (kc = 0 ∨ kc = 1 ∨ kc = 2) ∧ (kc = 0 → S1 103 0 = g0 r) := by
  obtain ⟨oc, S1, e5, hg⟩ := h
  have e0 : (eLR o) (L ++ List.replicate (nL - L.length) vU) (k_W S) = some (.inl 103, k_W S) := by
    unfold eLR
    rw [ho]
  have k103 : ∀ g, k_u S1 103 g 103 = g := fun g => by unfold k_u; simp
  rcases Classical.em (∃ E, oc = .inr E) with ⟨E, rfl⟩ | hne
  · obtain ⟨r, S2, e6, I, h103, hc⟩ := hg (S1 103)
    have hu : k_u S1 103 (S1 103) = S1 := by
      funext a
      unfold k_u
      split
      · next q => rw [q]
      · rfl
    rw [hu] at e6
    obtain ⟨x, rfl⟩ : ∃ x, r = vI x := by
      obtain ⟨x, hx⟩ := h6 _ _ _ _ e6
      exact ⟨x, Option.some.inj hx⟩
    have hst : st_W m5 o A f (L ++ List.replicate (nL - L.length) vU) (k_W S) = some (oX E, k_W S1) := by
      unfold st_W sSeq sASt
      simp only [e0, z_bindS, eC, e1, eCl, hA, z_bind, e5, z_then]
    rcases hc with ⟨q, -⟩ | ⟨q, hq⟩ | ⟨hn, q, hq⟩
    · cases q
    · cases q
      refine ⟨1, x, S1, S2, ?_, e6, I, h103, hq, Or.inr (Or.inl rfl), fun q => by cases q⟩
      unfold z_wb
      rw [hst]
      show (if E1 = E1 then _ else _) = _
      rw [if_pos rfl]
    · cases q
      obtain ⟨n1, rfl⟩ := hE hn
      refine ⟨2, x, S1, S2, ?_, e6, I, h103, hq, Or.inr (Or.inr rfl), fun q => by cases q⟩
      unfold z_wb
      rw [hst]
      show (if E3 = E1 then _ else if E3 = E3 then _ else _) = _
      rw [if_neg n1, if_pos rfl]
  · obtain ⟨v, rfl⟩ : ∃ v, oc = .inl v := by
      cases oc with
      | inl v => exact ⟨v, rfl⟩
      | inr E => exact absurd ⟨E, rfl⟩ hne
    obtain ⟨x, rfl⟩ := h5 _ _ _ _ e5
    obtain ⟨r, S2, e6, I, h103, hc⟩ := hg (z_up (S1 103) 0 (g0 x))
    rcases hc with ⟨q, hq⟩ | ⟨q, -⟩ | ⟨-, q, -⟩
    · cases q
      refine ⟨0, x, _, S2, ?_, e6, I, by rw [h103, k103], hq, Or.inl rfl, fun _ => by rw [k103]; unfold z_up; simp⟩
      have hst : st_W m5 o A f (L ++ List.replicate (nL - L.length) vU) (k_W S) = some (oR (some (vI 0)), k_W (k_u S1 103 (z_up (S1 103) 0 (g0 x)))) := by
        unfold st_W sSeq sASt
        simp only [e0, z_bindS, eC, e1, eCl, hA, z_bind, e5, z_then, hf, k_a103]
        simp [k_s103, sRet, z_bindS, eC]
      unfold z_wb
      rw [hst]
    · cases q
    · cases q
theorem vRI_sw {x : z_Ev Int} {cs : List z_St} {d : z_St} (hc : ∀ s ∈ cs, vRI s) (hd : vRI d) : vRI (sSw x cs d) := fun ρ h r h' e => vRI_bindS e fun a h1 e2 => by
  split at e2
  · split at e2
    · next s hs => exact hc s (List.mem_of_getElem? hs) _ _ _ _ e2
    · cases e2
  · split at e2
    · exact hd _ _ _ _ e2
    · cases e2
