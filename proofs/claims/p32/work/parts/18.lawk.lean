/-! THE LAW'S METHODS: the script's reads, calls that make cells, a try with handlers -/
def eLS (i : Nat) : z_Ev Unit := fun ρ h => match ρ[i]? with
  | some (.inr (.inr (.inr true))) => some (.inl (), h)
  | _ => none
abbrev wS : Unit → z_V := fun _ => vS
def eSLen (sc : List Int) (x : z_Ev Unit) : z_Ev Int := fun ρ h => z_bind (x ρ h) fun _ h => if sc.length < 2147483648 then some (.inl (sc.length : Int), h) else none
def eSLd (sc : List Int) (x : z_Ev Unit) (i : z_Ev Int) : z_Ev Int := fun ρ h => z_bind (x ρ h) fun _ h => z_bind (i ρ h) fun j h => if 0 ≤ j ∧ j < sc.length ∧ sc.length < 2147483648 then some (.inl (sc.getD j.toNat 0), h) else none
/-- a value that is put away -/
def sPop {α : Type} (x : z_Ev α) : z_St := fun ρ h => z_bindS (x ρ h) fun _ h => some (oN ρ, h)
/-- no throw is left -/
def z_kF : String → z_Hp → Prop := fun _ _ => False
/-- A METHOD OF THE LAW'S DOES WHAT f SAYS, and throws nothing; at most c cells of 6 slots each are made -/
def z_CL (sc : List Int) (l : Launch) (y : MethodName) (ws : List Cond) (nA F L c : Nat) (f : z_Mt) : Prop :=
  ∀ (base : z_B) (D : va_G) (dT : Nat → ClassId) (As : List z_V) (h : z_Hp) (r0 : Option z_V) (hf : z_Hp), z_sc base = sc → As.length = nA → z_wt As = nA → f As h = some (.inl r0, hf) →
    vx_Met l y ws (z_R F L c (6 * c) (.inl r0)) (va_Pc (As.map (z_kV base)) (z_U base D dT false h)) (z_Q base D dT (.inl r0) hf) (z_X base D dT (.inl r0) hf) c (6 * c) (z_A base)
/-- K with the cells that are made by then, told by the place -/
abbrev z_Kc (p : Program) (l : Launch) (e : Env) (R : Room) (s : State) (m : MethodId) (args : Array Value) (below : List Frame) (meth : Method) (c : Code) (base : z_B) (D : va_G) (dT : Nat → ClassId) (jL nL : Nat) (Q : State → Prop) (cn : Nat → Nat) (h : z_Hp) (ρ : List z_V) (pc : Nat) (st : List z_V) : Prop :=
  z_K p l e R s m args below meth c base D dT jL nL Q (cn pc) (6 * cn pc) h ρ pc st
section ZU
variable {K1 K2 : z_Hp → List z_V → Nat → List z_V → Prop} {KX : String → z_Hp → Prop} {KR : Option z_V → z_Hp → Prop} {α β γ : Type}
/-- at pc K1 is enough for K2 -/
def zLe (K1 K2 : z_Hp → List z_V → Nat → List z_V → Prop) (pc : Nat) : Prop := ∀ h ρ st, K1 h ρ pc st → K2 h ρ pc st
theorem up_E {w : α → z_V} {d : Nat} {x : z_Ev α} {pc pc' : Nat} (ho : zLe K1 K2 pc) (hi : zLe K2 K1 pc') (X : xE K1 KX w d x pc pc') : xE K2 KX w d x pc pc' := fun ρ h st hd =>
  ⟨fun v h' e k => ho _ _ _ ((X ρ h st hd).1 v h' e (hi _ _ _ k)), fun E h' e k => ho _ _ _ ((X ρ h st hd).2 E h' e k)⟩
theorem up_B {d : Nat} {b : z_Ev Bool} {pc pt pf : Nat} (ho : zLe K1 K2 pc) (ht : zLe K2 K1 pt) (hf : zLe K2 K1 pf) (X : xB K1 KX d b pc pt pf) : xB K2 KX d b pc pt pf := fun ρ h st hd =>
  ⟨fun h' e k => ho _ _ _ ((X ρ h st hd).1 h' e (ht _ _ _ k)), fun h' e k => ho _ _ _ ((X ρ h st hd).2.1 h' e (hf _ _ _ k)), fun E h' e k => ho _ _ _ ((X ρ h st hd).2.2 E h' e k)⟩
theorem up_A {d n : Nat} {xs : z_Ev (List z_V)} {pc pc' : Nat} (ho : zLe K1 K2 pc) (hi : zLe K2 K1 pc') (X : xA K1 KX d xs n pc pc') : xA K2 KX d xs n pc pc' := fun ρ h st hd =>
  ⟨fun L h' e => by obtain ⟨a, b, k⟩ := (X ρ h st hd).1 L h' e; exact ⟨a, b, fun q => ho _ _ _ (k (hi _ _ _ q))⟩, fun E h' e k => ho _ _ _ ((X ρ h st hd).2 E h' e k)⟩
theorem up_S {s : z_St} {pc pe pb : Nat} (ho : zLe K1 K2 pc) (he : zLe K2 K1 pe) (hb : zLe K2 K1 pb) (S : xS K1 KX KR s pc pe pb) : xS K2 KX KR s pc pe pb := fun ρ h =>
  ⟨fun ρ' h' e k => ho _ _ _ ((S ρ h).1 ρ' h' e (he _ _ _ k)), fun ρ' h' e k => ho _ _ _ ((S ρ h).2.1 ρ' h' e (hb _ _ _ k)), fun r h' e k => ho _ _ _ ((S ρ h).2.2.1 r h' e k), fun E h' e k => ho _ _ _ ((S ρ h).2.2.2 E h' e k)⟩
theorem up_G {pc pt : Nat} (ho : zLe K1 K2 pc) (hi : zLe K2 K1 pt) (G : jG K1 pc pt) : jG K2 pc pt := fun h ρ st k => ho _ _ _ (G h ρ st (hi _ _ _ k))
theorem up_jB {pc pt pf : Nat} (ho : zLe K1 K2 pc) (ht : zLe K2 K1 pt) (hf : zLe K2 K1 pf) (J : jB K1 pc pt pf) : jB K2 pc pt pf := fun h ρ st b k1 k2 => ho _ _ _ (J h ρ st b (fun q => ht _ _ _ (k1 q)) (fun q => hf _ _ _ (k2 q)))
theorem up_j1 {f : Int → Int → Bool} {n : Int} {pc pt pf : Nat} (ho : zLe K1 K2 pc) (ht : zLe K2 K1 pt) (hf : zLe K2 K1 pf) (J : j1 K1 f n pc pt pf) : j1 K2 f n pc pt pf := fun h ρ st x hx k1 k2 => ho _ _ _ (J h ρ st x hx (fun q => ht _ _ _ (k1 q)) (fun q => hf _ _ _ (k2 q)))
theorem up_j2 {f : Int → Int → Bool} {pc pt pf : Nat} (ho : zLe K1 K2 pc) (ht : zLe K2 K1 pt) (hf : zLe K2 K1 pf) (J : j2 K1 f pc pt pf) : j2 K2 f pc pt pf := fun h ρ st x y hx k1 k2 => ho _ _ _ (J h ρ st x y hx (fun q => ht _ _ _ (k1 q)) (fun q => hf _ _ _ (k2 q)))
theorem up_st {w : α → z_V} {i pc p2 : Nat} (ho : zLe K1 K2 pc) (hi : zLe K2 K1 p2) (I : ∀ h ρ v, K1 h (ρ.set i (w v)) p2 [] → K1 h ρ pc [w v]) : ∀ h ρ v, K2 h (ρ.set i (w v)) p2 [] → K2 h ρ pc [w v] := fun h ρ v k => ho _ _ _ (I h ρ v (hi _ _ _ k))
theorem up_push {v : z_V} {pc p2 : Nat} (ho : zLe K1 K2 pc) (hi : zLe K2 K1 p2) (I : ∀ h ρ st, K1 h ρ p2 (v :: st) → K1 h ρ pc st) : ∀ h ρ st, K2 h ρ p2 (v :: st) → K2 h ρ pc st := fun h ρ st k => ho _ _ _ (I h ρ st (hi _ _ _ k))
theorem xB_toT {K : z_Hp → List z_V → Nat → List z_V → Prop} {d : Nat} {b : z_Ev Bool} {pc pt pt' pf : Nat} (B : xB K KX d b pc pt pf) (G : jG K pt pt') : xB K KX d b pc pt' pf := fun ρ h st hd => ⟨fun h' e k => (B ρ h st hd).1 h' e (G _ _ _ k), (B ρ h st hd).2⟩
theorem xE_slen {K : z_Hp → List z_V → Nat → List z_V → Prop} {sc : List Int} {d : Nat} {x : z_Ev Unit} {pc p1 p2 : Nat} (X : xE K KX wS d x pc p1) (I : ∀ h ρ st, sc.length < 2147483648 → K h ρ p2 (vI (sc.length : Int) :: st) → K h ρ p1 (vS :: st)) : xE K KX vI d (eSLen sc x) pc p2 :=
  xE.of fun ρ h st hd r h' e kv kx => X.use hd e kx fun v h1 e2 => by
    split at e2
    · next hl => cases e2; exact I _ _ _ hl (kv _ rfl)
    · cases e2
theorem xE_sld {K : z_Hp → List z_V → Nat → List z_V → Prop} {sc : List Int} {d : Nat} {x : z_Ev Unit} {i : z_Ev Int} {pc p1 p2 p3 : Nat} (X : xE K KX wS d x pc p1) (Y : xE K KX vI (d + 1) i p1 p2) (I : ∀ h ρ st (j : Int), 0 ≤ j → j < sc.length → sc.length < 2147483648 → K h ρ p3 (vI (sc.getD j.toNat 0) :: st) → K h ρ p2 (vI j :: vS :: st)) : xE K KX vI d (eSLd sc x i) pc p3 :=
  xE.of fun ρ h st hd r h' e kv kx => X.use hd e kx fun v h1 e2 => Y.use (by rw [z_wt_cons]; simp only [z_cat]; omega) e2 kx fun j h2 e3 => by
    split at e3
    · next hl => cases e3; exact I _ _ _ _ hl.1 hl.2.1 hl.2.2 (kv _ rfl)
    · cases e3
theorem xS_pop {K : z_Hp → List z_V → Nat → List z_V → Prop} {w : α → z_V} {x : z_Ev α} {pc p1 p2 pb : Nat} (X : xE K KX w 0 x pc p1) (I : ∀ h ρ v, K h ρ p2 [] → K h ρ p1 [w v]) : xS K KX KR (sPop x) pc p2 pb :=
  xS.of fun ρ h o h' e k1 k2 k3 k4 => X.useS (Nat.le_refl 0) e k4 fun v h1 e2 => by cases e2; exact I _ _ _ (k1 _ rfl)
/-- a loop that makes cells: i counts up from x, below N; a round comes from K j to K (j + 1) -/
theorem xS_count {Kf : Nat → z_Hp → List z_V → Nat → List z_V → Prop} {b : z_Ev Bool} {s : z_St} {i N pc pt ps pu pe pb : Nat} (hb : ∀ ρ h h', b ρ h = some (.inl true, h') → ∃ x : Int, ρ[i]? = some (vI x) ∧ x < N) (hs : ∀ ρ h ρ' h', s ρ h = some (oN ρ', h') → ρ'[i]? = ρ[i]?) (hm : ∀ j, j ≤ N → zLe (Kf N) (Kf j) pe) (hmb : ∀ j, j < N → zLe (Kf N) (Kf (j + 1)) pe)
    (B : ∀ j, j ≤ N → xB (Kf j) KX 0 b pc pt pe) (S : ∀ j, j < N → ∀ ρ h, (∀ ρ' h', s ρ h = some (oN ρ', h') → Kf (j + 1) h' ρ' ps [] → Kf j h ρ pt []) ∧ (∀ ρ' h', s ρ h = some (oB ρ', h') → Kf (j + 1) h' ρ' pe [] → Kf j h ρ pt []) ∧ (∀ r h', s ρ h = some (oR r, h') → KR r h' → Kf j h ρ pt []) ∧ (∀ E h', s ρ h = some (oX E, h') → KX E h' → Kf j h ρ pt []))
    (U : ∀ j, j ≤ N → xS (Kf j) KX KR (sInc i 1) ps pu pb) (G : ∀ j, j ≤ N → jG (Kf j) pu pc) : ∀ (M j : Nat) (ρ : List z_V) (h : z_Hp) (o : z_Oc) (h' : z_Hp), j ≤ N → ρ[i]? = some (vI (j : Int)) → sLoop b s (sInc i 1) M ρ h = some (o, h') →
      (∀ ρ', o = oN ρ' → Kf N h' ρ' pe []) → (∀ r, o = oR r → KR r h') → (∀ E, o = oX E → KX E h') → Kf j h ρ pc []
  | 0, j, ρ, h, o, h', hj, hi, e, k1, k3, k4 => by cases e
  | M + 1, j, ρ, h, o, h', hj, hi, e, k1, k3, k4 => by
    unfold sLoop at e
    rcases z_bindS_cases e with ⟨E, e1, rfl⟩ | ⟨v, h1, e1, e2⟩
    · exact (B j hj ρ h [] (Nat.le_refl 0)).2.2 _ _ e1 (k4 _ rfl)
    · cases v with
      | false =>
        simp only [Bool.false_eq_true, if_false] at e2
        cases e2
        exact (B j hj ρ h [] (Nat.le_refl 0)).2.1 _ e1 (hm j hj _ _ _ (k1 _ rfl))
      | true =>
        simp only [if_true] at e2
        obtain ⟨x, hx, hxN⟩ := hb _ _ _ e1
        rw [hi] at hx
        cases hx
        have hjN : j < N := by omega
        refine (B j hj ρ h [] (Nat.le_refl 0)).1 _ e1 ?_
        obtain ⟨s1, s2, s3, s4⟩ := S j hjN ρ h1
        split at e2
        · next ρ1 h2 e3 =>
          refine s1 _ _ e3 ?_
          have h3 := hs _ _ _ _ e3
          rw [hi] at h3
          unfold z_then at e2
          split at e2
          · next ρ2 h4 e4 =>
            refine (U (j + 1) hjN ρ1 h2).1 _ _ e4 (G (j + 1) hjN _ _ _ ?_)
            unfold sInc at e4
            rw [h3] at e4
            cases e4
            refine xS_count hb hs hm hmb B S U G M (j + 1) _ _ o h' hjN ?_ e2 k1 k3 k4
            rw [List.getElem?_set]
            have hl : i < ρ1.length := (List.getElem?_eq_some_iff.mp h3).1
            simp [hl]
          · next hn =>
            have e5 : sInc i 1 ρ1 h2 = some (oN (ρ1.set i (vI ((j : Int) + 1))), h2) := by
              unfold sInc
              rw [h3]
            exact absurd e5 (hn _ _)
        · next ρ1 h2 e3 =>
          cases e2
          exact s2 _ _ e3 (hmb j hjN _ _ _ (k1 _ rfl))
        · next hn1 hn2 =>
          match o, e2 with
          | .inl ρ', e2 => exact absurd e2 (hn1 ρ' h')
          | .inr (.inl ρ'), e2 => exact absurd e2 (hn2 ρ' h')
          | .inr (.inr (.inl r)), e2 => exact s3 _ _ e2 (k3 _ rfl)
          | .inr (.inr (.inr E)), e2 => exact s4 _ _ e2 (k4 _ rfl)
end ZU
section ZL2
variable {p : Program} {l : Launch} {e : Env} {s : State} {m : MethodId} {args : Array Value} {below : List Frame} {meth : Method} {c : Code} {base : z_B} {D : va_G} {dT : Nat → ClassId} {R : Room} {Q : State → Prop} {tb : List ExceptionTableEntry} {jL nL F L k n : Nat} {r0 : Option z_V} {hf : z_Hp} {cc : ByteArray} {own : String} {Ts : List Cond} {rt : Option FieldType} {pc : Nat} {d : Nat}
variable {sc : List Int} {KX : String → z_Hp → Prop}
theorem z_mono {k' n' : Nat} (hk : k ≤ k') (hn : n ≤ n') (pc : Nat) : zLe (z_K p l e R s m args below meth c base D dT jL nL Q k' n') (z_K p l e R s m args below meth c base D dT jL nL Q k n) pc := fun h ρ st kk H locs ls hR hL => W.widen hk hn (kk H locs ls hR hL)
theorem zle_out {cn : Nat → Nat} {k pc : Nat} (hk : cn pc ≤ k) : zLe (z_K p l e R s m args below meth c base D dT jL nL Q k (6 * k)) (z_Kc p l e R s m args below meth c base D dT jL nL Q cn) pc := fun h ρ st kk => z_mono hk (Nat.mul_le_mul_left 6 hk) pc h ρ st kk
theorem zle_in {cn : Nat → Nat} {k pc : Nat} (hk : k ≤ cn pc) : zLe (z_Kc p l e R s m args below meth c base D dT jL nL Q cn) (z_K p l e R s m args below meth c base D dT jL nL Q k (6 * k)) pc := fun h ρ st kk => z_mono hk (Nat.mul_le_mul_left 6 hk) pc h ρ st kk
theorem z_sload_n (C : z_Cx p l s m args meth c base cc nL own Ts rt tb) {kk : Fin 4} {i : Nat} (hdg : decode cc pc = .ok (.aload_n kk, 1)) (hi : (kk : Nat) = i) : xE (z_K p l e R s m args below meth c base D dT jL nL Q k n) KX wS d (eLS i) pc (pc + 1) := by
  refine xE.of fun ρ h st hd r h1 e1 kv kx => ?_
  unfold eLS at e1
  split at e1
  · next hx =>
    cases e1
    intro H locs ls hR hL
    exact lv_aload_n C.1 C.2.1 hdg hi (hL.at hx (fun q => by cases q)) (kv _ rfl H locs ls hR hL)
  · cases e1
theorem z_slen (C : z_Cx p l s m args meth c base cc nL own Ts rt tb) (hsc : z_sc base = sc) (hdg : decode cc pc = .ok (.arraylength, 1)) : ∀ h ρ st, sc.length < 2147483648 → z_K p l e R s m args below meth c base D dT jL nL Q k n h ρ (pc + 1) (vI (sc.length : Int) :: st) → z_K p l e R s m args below meth c base D dT jL nL Q k n h ρ pc (vS :: st) := by
  subst hsc
  intro h ρ st hlen k1 H locs ls hR hL
  have hS := C.2.2.2.2.2.2.2.2.1.2.2.2.2.2
  refine va_slen C.1 C.2.1 hS.1 hS.2 (z_sa_A base) hR.2.2 hdg ?_
  rw [← Int32.ofInt_eq_ofNat]
  exact k1 H locs ls hR hL
theorem z_sld (C : z_Cx p l s m args meth c base cc nL own Ts rt tb) (hsc : z_sc base = sc) (hdg : decode cc pc = .ok (.iaload, 1)) : ∀ h ρ st (j : Int), 0 ≤ j → j < sc.length → sc.length < 2147483648 → z_K p l e R s m args below meth c base D dT jL nL Q k n h ρ (pc + 1) (vI (sc.getD j.toNat 0) :: st) → z_K p l e R s m args below meth c base D dT jL nL Q k n h ρ pc (vI j :: vS :: st) := by
  subst hsc
  intro h ρ st j h0 h1 hlen k1 H locs ls hR hL
  have hS := C.2.2.2.2.2.2.2.2.1.2.2.2.2.2
  obtain ⟨c1, c2⟩ := z_clamp h0 h1 hlen
  refine va_sld C.1 C.2.1 hS.1 hS.2 (z_sa_A base) hR.2.2 c2 hdg ?_
  rw [c1]
  exact k1 H locs ls hR hL
theorem z_pop (C : z_Cx p l s m args meth c base cc nL own Ts rt tb) (hdg : decode cc pc = .ok (.pop, 1)) : ∀ h ρ (v : Int), z_K p l e R s m args below meth c base D dT jL nL Q k n h ρ (pc + 1) [] → z_K p l e R s m args below meth c base D dT jL nL Q k n h ρ pc [vI v] := fun h ρ v kk H locs ls hR hL => lv_pop C.1 C.2.1 hdg rfl (kk H locs ls hR hL)
/-- a call of an object's method of the class, none of whose throws is wanted -/
theorem z_cVL (C : z_Cx p l s m args meth c base cc nL own Ts rt tb) {CC : String} {TT : u_T} {N ci nA F' L' maxL ix : Nat} {y : MethodName} {ws ws' : List Cond} {bytes : ByteArray} {ret : Option FieldType} {f : z_Mt} (hM : z_CT l y ws (nA + 1) F' L' 0 0 false (z_vm ci f)) (hc : vwCl[ci]? = some (CC, TT, N)) (hT : GoodIn Ts (wsV own ix CC y ws)) (hw : ws = Cond.code y bytes maxL ret :: ws')
    (hd : y.cls = CC ∧ y.cls ≠ "java/lang/invoke/MethodHandle" ∧ y.cls ≠ "java/lang/invoke/VarHandle" ∧ (parseMethodDescriptor y.desc).map (fun d => d.parameters.length) = some nA) (hRm : F' + 1 ≤ R.frames ∧ 8 + (maxL + 11) + L' ≤ R.locals) (hk : k ≤ R.cells ∧ n ≤ R.slots) (hd8 : d ≤ 8) (hdg : decode cc pc = .ok (.invokevirtual ix, 3)) :
    iC (z_K p l e R s m args below meth c base D dT jL nL Q k n) z_kF (z_vm ci f) (nA + 1) d pc (pc + 3) := by
  refine iC.of fun h ρ st Ls q1 q2 q3 o' h' e1 kk kx => ?_
  cases o' with
  | inr E => exact (kx E rfl).elim
  | inl r1 =>
    intro H locs ls hR hL
    obtain ⟨⟨r, As, fs, rfl, ho⟩, -⟩ := z_vm_some e1
    have hlen : As.length = nA := by simpa using q1
    refine z_run (st := st) (mc' := 0) (ms' := 0) (o' := .inl r1) hR hL (vx_runV (y := y) (b := z_ad base r) (As := As.map (z_kV base)) ⟨C.1, C.2.1, C.2.2.1, C.2.2.2.1, C.2.2.2.2.1⟩ (hM base D dT _ h _ h' q1 q2 e1) (cwV nA C.2.2.2.2.1 hT hw rfl rfl hd hRm) ⟨z_U_blind, va_recv hR.2.1 hR.1 hc (z_kW_get (z_obj_some ho)), fun U hU hW => ⟨rfl, hR.u C.2.2.2.2.2.2.2.1 C.2.2.2.2.2.2.2.2.1 hU hW (fun q => by cases q)⟩⟩ rfl (by rw [List.length_map]; exact hlen) (z_lv.sz hL) ?_ (lv_room (by rw [z_cat_sum]; omega)) hdg hk) kk (fun E q => by cases q)
    show ((vR r :: As).reverse ++ st).map (z_kV base) = _
    rw [List.reverse_cons, List.append_assoc, List.map_append, List.map_reverse]
    rfl
/-- a call of a method of the law's, of c' cells -/
theorem z_cSq (C : z_Cx p l s m args meth c base cc nL own Ts rt tb) (hsc : z_sc base = sc) {nA F' L' c' maxL ix : Nat} {y : MethodName} {ws ws' : List Cond} {bytes : ByteArray} {ret : Option FieldType} {f : z_Mt} (hM : z_CL sc l y ws nA F' L' c' f) (hT : GoodIn Ts (va_wsS own ix y ws)) (hw : ws = Cond.code y bytes maxL ret :: ws')
    (hd : y.cls ≠ "java/lang/invoke/MethodHandle" ∧ y.cls ≠ "java/lang/invoke/VarHandle" ∧ (parseMethodDescriptor y.desc).map (fun d => d.parameters.length) = some nA) (hRm : F' + 1 ≤ R.frames ∧ 8 + (maxL + 11) + L' ≤ R.locals) (hk : k + c' ≤ R.cells ∧ n + 6 * c' ≤ R.slots) (hd8 : d ≤ 8) (hdg : decode cc pc = .ok (.invokestatic ix, 3)) :
    ∀ h ρ st Ls, Ls.length = nA → z_wt Ls = nA → z_wt st ≤ d → ∀ r h', f Ls h = some (.inl r, h') → z_K p l e R s m args below meth c base D dT jL nL Q (k + c') (n + 6 * c') h' ρ (pc + 3) (r.toList ++ st) → z_K p l e R s m args below meth c base D dT jL nL Q k n h ρ pc (Ls.reverse ++ st) := by
  intro h ρ st Ls q1 q2 q3 r1 h' e1 kk H locs ls hR hL
  refine z_run (st := st) (mc' := c') (ms' := 6 * c') (o' := .inl r1) hR hL (vx_runS (y := y) (As := Ls.map (z_kV base)) ⟨C.1, C.2.1, C.2.2.1, C.2.2.2.1, C.2.2.2.2.1⟩ (hM base D dT Ls h r1 h' hsc q1 q2 e1) (va_cwS nA C.2.2.2.2.1 hT hw rfl rfl hd hRm) ⟨z_U_blind, fun U hU hW => ⟨rfl, hR.u C.2.2.2.2.2.2.2.1 C.2.2.2.2.2.2.2.2.1 hU hW (fun q => by cases q)⟩⟩ rfl (by rw [List.length_map]; exact q1) (z_lv.sz hL) ?_ (lv_room (by rw [z_cat_sum]; omega)) hdg hk) (fun r q => by cases q; exact kk) (fun E q => by cases q)
  show (Ls.reverse ++ st).map (z_kV base) = _
  rw [List.map_append, List.map_reverse]
/-- .. of the one with handlers -/
theorem z_cSqA (C : z_Cx p l s m args meth c base cc nL own Ts rt tb) (hsc : z_sc base = sc) {nA F' L' c' maxL ix : Nat} {y : MethodName} {ws ws' : List Cond} {bytes : ByteArray} {ret : Option FieldType} {hh : List (Nat × Nat × Nat × Nat)} {f : z_Mt} (hM : z_CL sc l y ws nA F' L' c' f) (hT : GoodIn Ts (va_wsS own ix y ws)) (hw : ws = Cond.codeWith y bytes maxL ret hh :: ws')
    (hd : y.cls ≠ "java/lang/invoke/MethodHandle" ∧ y.cls ≠ "java/lang/invoke/VarHandle" ∧ (parseMethodDescriptor y.desc).map (fun d => d.parameters.length) = some nA) (hRm : F' + 1 ≤ R.frames ∧ 8 + (maxL + 11) + L' ≤ R.locals) (hk : k + c' ≤ R.cells ∧ n + 6 * c' ≤ R.slots) (hd8 : d ≤ 8) (hdg : decode cc pc = .ok (.invokestatic ix, 3)) :
    ∀ h ρ st Ls, Ls.length = nA → z_wt Ls = nA → z_wt st ≤ d → ∀ r h', f Ls h = some (.inl r, h') → z_K p l e R s m args below meth c base D dT jL nL Q (k + c') (n + 6 * c') h' ρ (pc + 3) (r.toList ++ st) → z_K p l e R s m args below meth c base D dT jL nL Q k n h ρ pc (Ls.reverse ++ st) := by
  intro h ρ st Ls q1 q2 q3 r1 h' e1 kk H locs ls hR hL
  refine z_run (st := st) (mc' := c') (ms' := 6 * c') (o' := .inl r1) hR hL (vx_runSX (y := y) (As := Ls.map (z_kV base)) (hh := hh) ⟨C.1, C.2.1, C.2.2.1, C.2.2.2.1, C.2.2.2.2.1⟩ (hM base D dT Ls h r1 h' hsc q1 q2 e1) (vx_cwSW nA C.2.2.2.2.1 hT hw rfl rfl hd hRm) ⟨z_U_blind, fun U hU hW => ⟨rfl, hR.u C.2.2.2.2.2.2.2.1 C.2.2.2.2.2.2.2.2.1 hU hW (fun q => by cases q)⟩⟩ rfl (by rw [List.length_map]; exact q1) (z_lv.sz hL) ?_ (lv_room (by rw [z_cat_sum]; omega)) hdg hk) (fun r q => by cases q; exact kk) (fun E q => by cases q)
  show (Ls.reverse ++ st).map (z_kV base) = _
  rw [List.map_append, List.map_reverse]
theorem z_cS0 {f : z_Mt} {nA : Nat} (hq : ∀ h ρ st Ls, Ls.length = nA → z_wt Ls = nA → z_wt st ≤ d → ∀ r h', f Ls h = some (.inl r, h') → z_K p l e R s m args below meth c base D dT jL nL Q (k + 0) (n + 6 * 0) h' ρ (pc + 3) (r.toList ++ st) → z_K p l e R s m args below meth c base D dT jL nL Q k n h ρ pc (Ls.reverse ++ st)) : iC (z_K p l e R s m args below meth c base D dT jL nL Q k n) z_kF f nA d pc (pc + 3) :=
  iC.of fun h ρ st Ls q1 q2 q3 o' h' e1 kk kx => by
    cases o' with
    | inr E => exact (kx E rfl).elim
    | inl r1 => exact hq h ρ st Ls q1 q2 q3 r1 h' e1 (kk _ rfl)
theorem z_cSc {cn : Nat → Nat} {f : z_Mt} {nA c' k : Nat} (hk : cn pc = k) (hk2 : k + c' ≤ cn (pc + 3)) (hq : ∀ h ρ st Ls, Ls.length = nA → z_wt Ls = nA → z_wt st ≤ d → ∀ r h', f Ls h = some (.inl r, h') → z_K p l e R s m args below meth c base D dT jL nL Q (k + c') (6 * k + 6 * c') h' ρ (pc + 3) (r.toList ++ st) → z_K p l e R s m args below meth c base D dT jL nL Q k (6 * k) h ρ pc (Ls.reverse ++ st)) : iC (z_Kc p l e R s m args below meth c base D dT jL nL Q cn) z_kF f nA d pc (pc + 3) :=
  iC.of fun h ρ st Ls q1 q2 q3 o' h' e1 kk kx => by
    cases o' with
    | inr E => exact (kx E rfl).elim
    | inl r1 =>
      subst hk
      exact hq h ρ st Ls q1 q2 q3 r1 h' e1 (z_mono hk2 (by omega) (pc + 3) _ _ _ (kk _ rfl))
end ZL2
section ZW
variable {p : Program} {l : Launch} {e : Env} {s : State} {m : MethodId} {args : Array Value} {below : List Frame} {meth : Method} {c : Code} {base : z_B} {D : va_G} {dT : Nat → ClassId} {R : Room} {Q : State → Prop} {tb : List ExceptionTableEntry} {jL nL F L k n : Nat} {r0 : Option z_V} {hf : z_Hp} {cc : ByteArray} {own : String} {Ts : List Cond} {rt : Option FieldType} {pc : Nat} {d : Nat}
theorem z_lv_drop {i : Nat} {ls' : Array Slot} {ρ : List z_V} {lv : List (Nat × Value)} {x : Value} (h4 : lv_has ls' nL ((i, x) :: lv.filter (fun q => !(q.1 == i) && !(q.1 + 1 == i && q.2.category == 2)))) (h2 : ∀ q ∈ lv, q.2.category = 1 ∨ q.1 = jL)
    (h3 : ∀ (j : Nat) (u : z_V), ρ[j]? = some u → u ≠ vU → (j, z_kV base u) ∈ lv) (hj : i ≠ jL + 1) (hx : x.category = 1) : z_lv base jL nL ls' (ρ.set i vU) := by
  refine ⟨_, h4, fun q hq => ?_, fun j u hu hn => ?_⟩
  · rcases List.mem_cons.mp hq with rfl | hq
    · exact Or.inl hx
    · exact h2 q (List.mem_filter.mp hq).1
  · rw [List.getElem?_set] at hu
    split at hu
    · next e =>
      split at hu
      · cases hu
        exact absurd rfl hn
      · cases hu
    · next e =>
      refine List.mem_cons_of_mem _ (List.mem_filter.mpr ⟨h3 j u hu hn, ?_⟩)
      have h5 := h2 _ (h3 j u hu hn)
      have h6 : ¬ j = i := fun q => e q.symm
      simp only [Bool.and_eq_true, Bool.not_eq_true', beq_eq_false_iff_ne, ne_eq, h6, not_false_eq_true, true_and, Bool.and_eq_false_iff]
      rcases h5 with h5 | h5
      · right
        rw [h5]
        decide
      · left
        have h7 : j = jL := h5
        omega
/-- into the handler of the row x, the exception put away, on with what comes behind -/
theorem z_hand (C : z_Cx p l s m args meth c base cc nL own Ts rt tb) {E : String} (pre : List ExceptionTableEntry) (x : ExceptionTableEntry) (suf : List ExceptionTableEntry) (htb : tb = pre ++ x :: suf) (hpass : ∀ z ∈ pre, covers z pc = false ∨ (z.catchType ≠ 0 ∧ ∃ nm : String, Cond.classLink own z.catchType nm ∈ Ts ∧ va_Nc E nm s)) (hx : covers x pc = true) (h0 : x.catchType ≠ 0)
    (hlink : Cond.classLink own x.catchType E ∈ Ts) (hcast : Cond.castable E E ∈ z_xw) {i : Nat} (hn : i < nL) (hj : i ≠ jL + 1) {pe : Nat} (hdg : (∃ kk : Fin 4, (kk : Nat) = i ∧ decode cc x.handlerPc = .ok (.astore_n kk, 1) ∧ pe = x.handlerPc + 1) ∨ (decode cc x.handlerPc = .ok (.astore i, 2) ∧ pe = x.handlerPc + 2)) {h' : z_Hp}
    (kk : ∀ ρ, z_K p l e R s m args below meth c base D dT jL nL Q k n h' ρ pe []) {ρ : List z_V} {rest : List Value} {ls : Array Slot} (q : Addr) (H1 : Heap) (locs1 : List Loc) (ce : Cell) (hR : z_Rl base D dT s h' H1 locs1) (hL : z_lv base jL nL ls ρ) (hce : H1[q]? = some ce) (hcv : ce.vm = .none) (hcl : s.vm.findClass E = some ce.cls) :
    vx_W p l e R s m args below meth c H1 locs1 k n Q (F0 m pc ls rest) q := by
  refine vx_catch (own := own) (name := E) C.2.2.2.1 pre x suf (by rw [C.2.2.2.2.2.2.2.2.2.1, htb]) (fun z hz => ?_) hx h0 (C.2.2.2.2.1 _ hlink) (va_Nw.use (z_xw_tab _ hcast) (C.2.2.2.2.2.2.2.2.1.2.2.1 _ hcast)) hce hcv hcl ?_
  · rcases hpass z hz with h | ⟨a, nm, b, d⟩
    · exact Or.inl h
    · exact Or.inr ⟨a, nm, C.2.2.2.2.1 _ b, d⟩
  · obtain ⟨lv, h1, h2, h3⟩ := hL
    rcases hdg with ⟨k4, hi, hd, rfl⟩ | ⟨hd, rfl⟩
    · exact lv_astore_n C.1 C.2.1 hd hi h1 hn rfl (fun ls' h4 => kk _ H1 locs1 ls' hR (z_lv_drop h4 h2 h3 hj rfl))
    · exact lv_astore C.1 C.2.1 hd h1 hn rfl (fun ls' h4 => kk _ H1 locs1 ls' hR (z_lv_drop h4 h2 h3 hj rfl))
/-- a call of an object's method inside a try -/
theorem z_cVW (C : z_Cx p l s m args meth c base cc nL own Ts rt tb) {KX : String → z_Hp → Prop} {CC : String} {TT : u_T} {N ci nA F' L' maxL ix : Nat} {y : MethodName} {ws ws' : List Cond} {bytes : ByteArray} {ret : Option FieldType} {f : z_Mt} (hM : z_CT l y ws (nA + 1) F' L' 0 0 false (z_vm ci f)) (hc : vwCl[ci]? = some (CC, TT, N)) (hT : GoodIn Ts (wsV own ix CC y ws)) (hw : ws = Cond.code y bytes maxL ret :: ws')
    (hd : y.cls = CC ∧ y.cls ≠ "java/lang/invoke/MethodHandle" ∧ y.cls ≠ "java/lang/invoke/VarHandle" ∧ (parseMethodDescriptor y.desc).map (fun d => d.parameters.length) = some nA) (hRm : F' + 1 ≤ F ∧ 8 + (maxL + 11) + L' ≤ L) (hd8 : d ≤ 8) (hdg : decode cc pc = .ok (.invokevirtual ix, 3))
    (hcat : ∀ E h', KX E h' → ∀ (ρ : List z_V) (rest : List Value) (ls : Array Slot) (q : Addr) (H1 : Heap) (locs1 : List Loc) (ce : Cell), z_Rl base D dT s h' H1 locs1 → z_lv base jL nL ls ρ → H1[q]? = some ce → ce.vm = .none → s.vm.findClass E = some ce.cls → vx_W p l e (z_R F L 1 6 (.inl r0)) s m args below meth c H1 locs1 1 6 (z_Qm below base D dT (.inl r0) hf args s 1 6) (F0 m pc ls rest) q) :
    iC (z_K p l e (z_R F L 1 6 (.inl r0)) s m args below meth c base D dT jL nL (z_Qm below base D dT (.inl r0) hf args s 1 6) 0 0) KX (z_vm ci f) (nA + 1) d pc (pc + 3) := by
  refine iC.of fun h ρ st Ls q1 q2 q3 o' h' e1 kk kx => ?_
  intro H locs ls hR hL
  obtain ⟨⟨r, As, fs, rfl, ho⟩, -⟩ := z_vm_some e1
  have hlen : As.length = nA := by simpa using q1
  refine z_run (mc' := 0) (ms' := 0) hR hL (vx_runV (y := y) (b := z_ad base r) (As := As.map (z_kV base)) ⟨C.1, C.2.1, C.2.2.1, C.2.2.2.1, C.2.2.2.2.1⟩ (hM base D dT _ h o' h' q1 q2 e1) (cwV nA C.2.2.2.2.1 hT hw rfl rfl hd hRm) ⟨z_U_blind, va_recv hR.2.1 hR.1 hc (z_kW_get (z_obj_some ho)), fun U hU hW => ⟨rfl, hR.u C.2.2.2.2.2.2.2.1 C.2.2.2.2.2.2.2.2.1 hU hW (fun q => by cases q)⟩⟩ rfl (by rw [List.length_map]; exact hlen) (z_lv.sz hL) ?_ (lv_room (by rw [z_cat_sum]; omega)) hdg ?_) kk (fun E q a1 H1 locs1 ce b1 b2 b3 b4 => hcat E h' (kx E q) ρ _ ls a1 H1 locs1 ce b1 hL b2 b3 b4)
  · show ((vR r :: As).reverse ++ st).map (z_kV base) = _
    rw [List.reverse_cons, List.append_assoc, List.map_append, List.map_reverse]
    rfl
  · cases o' with
    | inl r => exact ⟨Nat.zero_le _, Nat.zero_le _⟩
    | inr E => exact ⟨Nat.le_refl 1, Nat.le_refl 6⟩
theorem z_hretw (C : z_Cx p l s m args meth c base cc nL own Ts (some .int) tb) {x : Int} {ix : Nat} (hw : Cond.constant own ix (Int32.ofInt x) ∈ Ts) (hc : decode cc pc = .ok (.ldc ix, 2)) (hr : decode cc (pc + 2) = .ok (.ireturn, 1)) : ∀ ρ, z_K p l e (z_R F L 1 6 (.inl (some (vI x)))) s m args below meth c base D dT jL nL (z_Qm below base D dT (.inl (some (vI x))) hf args s 1 6) 1 6 hf ρ pc [] := fun ρ =>
  ((z_ldc (KX := fun _ _ => True) (d := 8) C hw hc) ρ hf [] (Nat.zero_le _)).1 x hf rfl (z_retI C ⟨Nat.le_refl 1, Nat.le_refl 6⟩ hr hf ρ x ⟨rfl, rfl⟩)
end ZW
/-- a method with handlers: E1 is answered by v1, E2 by v2 -/
def z_wb (nL : Nat) (E1 : String) (v1 : Int) (E2 : String) (v2 : Int) (s : z_St) : z_Mt := fun L h => match s (L ++ List.replicate (nL - L.length) vU) h with
  | some (.inr (.inr (.inl r)), h') => some (.inl r, h')
  | some (.inr (.inr (.inr E)), h') => if E = E1 then some (.inl (some (vI v1)), h') else if E = E2 then some (.inl (some (vI v2)), h') else none
  | _ => none
def z_KXW (E1 : String) (v1 : Int) (E2 : String) (v2 : Int) (r0 : Option z_V) (hf : z_Hp) (E : String) (h : z_Hp) : Prop := hf = h ∧ ((E = E1 ∧ r0 = some (vI v1)) ∨ (E ≠ E1 ∧ E = E2 ∧ r0 = some (vI v2)))
theorem z_entry {base : z_B} {As : List z_V} {nA nL jL : Nat} {m : MethodId} (hn : As.length = nA) (hwt : z_wt As = nA) (hnA : nA ≤ nL) : ∃ ls : Array Slot, entryFrame m (As.map (z_kV base)).toArray nL = F0 m 0 ls [] ∧ z_lv base jL nL ls (As ++ List.replicate (nL - As.length) vU) := by
  obtain ⟨a1, a2, a3⟩ := z_lv_args base As 0 (z_wt_one (hwt.trans hn.symm))
  have hl := lv_entry (As.map (z_kV base)) (n := nL) (by rw [a1]; omega)
  rw [lg_entry_eq]
  refine ⟨_, rfl, _, hl, fun q hq => Or.inl (a2 q hq), fun i v hi hne => ?_⟩
  by_cases hlt : i < As.length
  · rw [List.getElem?_append_left hlt] at hi
    have := a3 i v hi
    rwa [Nat.zero_add] at this
  · rw [List.getElem?_append_right (by omega)] at hi
    have := List.mem_of_getElem? hi
    exact absurd (List.eq_of_mem_replicate this) hne
/-- a contract with handlers, out of its body's walk -/
theorem z_CL.ofW {sc : List Int} {l : Launch} (hfl : l.stackTraces = false) {y : MethodName} {ws ws' : List Cond} {nA F L nL jL : Nat} {cc : ByteArray} {rt : Option FieldType} {hh : List (Nat × Nat × Nat × Nat)} (hy : plainName y.cls = true) (hw : ws = Cond.codeWith y cc nL rt hh :: ws') (hnA : nA ≤ nL) {st : z_St} {E1 E2 : String} {v1 v2 : Int} (pe pb : Nat)
    (body : ∀ {p : Program} {e : Env} {s : State} {m : MethodId} {args : Array Value} {below : List Frame} {meth : Method} {c : Code} {base : z_B} {D : va_G} {dT : Nat → ClassId} (r0 : Option z_V) (hf : z_Hp), z_Cx p l s m args meth c base cc nL y.cls ws rt (tableOf hh) → z_sc base = sc →
      xS (z_K p l e (z_R F L 1 6 (.inl r0)) s m args below meth c base D dT jL nL (z_Qm below base D dT (.inl r0) hf args s 1 6) 0 0) (z_KXW E1 v1 E2 v2 r0 hf) (z_KR (.inl r0) hf) st 0 pe pb) : z_CL sc l y ws nA F L 1 (z_wb nL E1 v1 E2 v2 st) := by
  intro base D dT As h r0 hf hsc hn hwt he
  refine vx_ofWH hy hw ?_
  intro p e s m args below meth c s₁ B hml hv
  obtain ⟨rfl, hU⟩ := hv
  have hats := atoms_spec (ws := ws) B.pre
  have C : z_Cx p l s m _ meth c base cc nL y.cls ws rt (tableOf hh) := ⟨B.exec, B.bytes, hml, findClass_of_methodNamed B.named, hats, B.notSynchronized, hfl, hU.2.2.1, hU.2.2.2.2, vx_table (x := y) B (hats _ (by rw [hw]; exact List.mem_cons_self)), B.returns⟩
  obtain ⟨ls, eF, hlv⟩ := z_entry (base := base) (jL := jL) (m := m) hn hwt hnA
  rw [eF]
  have X := body (p := p) (e := e) (s := s) (m := m) (below := below) (meth := meth) (c := c) (base := base) (D := D) (dT := dT) r0 hf C hsc
  unfold z_wb at he
  split at he
  · next r h' hs =>
    cases he
    exact (X.to hs (fun _ q => by cases q) (fun _ q => by cases q) (fun _ q => by cases q; exact ⟨rfl, rfl⟩) (fun _ q => by cases q)) s.heap [] ls (z_U.rl hU) hlv
  · next E h' hs =>
    split at he
    · next q1 =>
      cases he
      exact (X.to hs (fun _ q => by cases q) (fun _ q => by cases q) (fun _ q => by cases q) (fun _ q => by cases q; exact ⟨rfl, Or.inl ⟨q1, rfl⟩⟩)) s.heap [] ls (z_U.rl hU) hlv
    · next q1 =>
      split at he
      · next q2 =>
        cases he
        exact (X.to hs (fun _ q => by cases q) (fun _ q => by cases q) (fun _ q => by cases q) (fun _ q => by cases q; exact ⟨rfl, Or.inr ⟨q1, q2, rfl⟩⟩)) s.heap [] ls (z_U.rl hU) hlv
      · cases he
  · cases he
/-- a contract of a method of the law's, out of its body's walk -/
theorem z_CL.of {sc : List Int} {l : Launch} (hfl : l.stackTraces = false) {y : MethodName} {ws ws' : List Cond} {nA F L nL jL c9 : Nat} {cc : ByteArray} {rt : Option FieldType} (hy : plainFor y = true) (hw : ws = Cond.code y cc nL rt :: ws') (hnA : nA ≤ nL) {st : z_St} (pe pb : Nat) (cn : Nat → Nat) (h0 : cn 0 = 0)
    (body : ∀ {p : Program} {e : Env} {s : State} {m : MethodId} {args : Array Value} {below : List Frame} {meth : Method} {c : Code} {base : z_B} {D : va_G} {dT : Nat → ClassId} (r0 : Option z_V) (hf : z_Hp), z_Cx p l s m args meth c base cc nL y.cls ws rt [] → z_sc base = sc →
      xS (z_Kc p l e (z_R F L c9 (6 * c9) (.inl r0)) s m args below meth c base D dT jL nL (z_Qm below base D dT (.inl r0) hf args s c9 (6 * c9)) cn) z_kF (z_KR (.inl r0) hf) st 0 pe pb) : z_CL sc l y ws nA F L c9 (z_body nL st) := by
  intro base D dT As h r0 hf hsc hn hwt he
  refine z_ofWF hy hw ?_
  intro p e s m args below meth c s₁ B hml htab hv
  obtain ⟨rfl, hU⟩ := hv
  have C : z_Cx p l s m _ meth c base cc nL y.cls ws rt [] := ⟨B.exec, B.bytes, hml, findClass_of_methodNamed B.named, atoms_spec (ws := ws) B.pre, B.notSynchronized, hfl, hU.2.2.1, hU.2.2.2.2, List.eq_nil_iff_forall_not_mem.mpr (fun x hx => htab x hx), B.returns⟩
  obtain ⟨ls, eF, hlv⟩ := z_entry (base := base) (jL := jL) (m := m) hn hwt hnA
  rw [eF]
  have X := body (p := p) (e := e) (s := s) (m := m) (below := below) (meth := meth) (c := c) (base := base) (D := D) (dT := dT) r0 hf C hsc
  unfold z_body at he
  split at he
  · next r h' hs =>
    cases he
    have Y := (X.to hs (fun _ q => by cases q) (fun _ q => by cases q) (fun _ q => by cases q; exact ⟨rfl, rfl⟩) (fun _ q => by cases q))
    unfold z_Kc at Y
    rw [h0] at Y
    exact Y s.heap [] ls (z_U.rl hU) hlv
  · next E h' hs => cases he
  · cases he
