theorem z_range {x : Int} (h : z_in x = true) : -2147483648 ≤ x ∧ x ≤ 2147483647 := by
  simp only [z_in, Bool.and_eq_true, decide_eq_true_eq] at h
  omega
theorem z_div {x y : Int} (hx : z_in x = true) (hy : z_in y = true) : Int32.ofInt x / Int32.ofInt y = Int32.ofInt (x.tdiv y) := by
  have h1 := z_range hx
  have h2 := z_range hy
  exact (Int32.ofInt_tdiv h1.1 h1.2 h2.1 h2.2).symm
theorem z_rem {x y : Int} (hx : z_in x = true) (hy : z_in y = true) : Int32.ofInt x - Int32.ofInt x / Int32.ofInt y * Int32.ofInt y = Int32.ofInt (x.tmod y) := by
  rw [z_div hx hy, ← Int32.ofInt_mul, ← Int32.ofInt_sub]
  congr 1
  have := Int.mul_tdiv_add_tmod x y
  rw [Int.mul_comm] at this
  omega
theorem z_i2lv {x : Int} (h : z_in x = true) : (Int32.ofInt x).toInt64 = Int64.ofInt x := by
  have h1 : (Int32.ofInt x).toInt64 = Int64.ofInt (Int32.ofInt x).toInt := by rw [← Int32.toInt_toInt64, Int64.ofInt_toInt]
  rw [h1, z_toInt h]
theorem z_l2iv {x : Int} : (Int64.ofInt x).toInt32 = Int32.ofInt x := by
  rw [Int64.toInt32_ofInt]
theorem z_lv_set {base : z_B} {jL nL i : Nat} {ls' : Array Slot} {ρ : List z_V} {lv : List (Nat × Value)} {v : z_V} {x : Value} (h4 : lv_has ls' nL ((i, x) :: lv.filter (fun q => !(q.1 == i) && !(q.1 + 1 == i && q.2.category == 2)))) (h2 : ∀ q ∈ lv, q.2.category = 1 ∨ q.1 = jL)
    (h3 : ∀ (j : Nat) (u : z_V), ρ[j]? = some u → u ≠ vU → (j, z_kV base u) ∈ lv) (hj : i ≠ jL + 1) (hx : x.category = 2 → i = jL) (hv : z_kV base v = x) : z_lv base jL nL ls' (ρ.set i v) := by
  refine ⟨_, h4, fun q hq => ?_, fun j u hu hn => ?_⟩
  · rcases List.mem_cons.mp hq with rfl | hq
    · rcases lv_cat x with h | h
      · exact Or.inl h
      · exact Or.inr (hx h)
    · exact h2 q (List.mem_filter.mp hq).1
  · rw [List.getElem?_set] at hu
    split at hu
    · next e =>
      split at hu
      · cases hu
        subst e
        rw [hv]
        exact List.mem_cons_self
      · cases hu
    · next e =>
      refine List.mem_cons_of_mem _ (List.mem_filter.mpr ⟨h3 j u hu hn, ?_⟩)
      have h5 := h2 _ (h3 j u hu hn)
      have h6 : ¬ j = i := fun q => e q.symm
      simp only [Bool.and_eq_true, Bool.not_eq_true', beq_eq_false_iff_ne, ne_eq, h6, not_false_eq_true, true_and, Bool.and_eq_false_iff]
      rcases h5 with h5 | h5
      · right
        rw [h5]
        decide
      · left
        have h7 : j = jL := h5
        omega
/-! ONE ROW AN INSTRUCTION, over the K of part 06 -/
section ZR
variable {p : Program} {l : Launch} {e : Env} {s : State} {m : MethodId} {args : Array Value} {below : List Frame} {meth : Method} {c : Code} {base : z_B} {D : va_G} {dT : Nat → ClassId} {R : Room} {Q : State → Prop} {tb : List ExceptionTableEntry} {jL nL F L mc ms k n : Nat} {o : Option z_V ⊕ String} {hf : z_Hp} {cc : ByteArray} {own : String} {Ts : List Cond} {rt : Option FieldType} {pc : Nat} {KX : String → z_Hp → Prop} {d : Nat}

theorem z_iconst (C : z_Cx p l s m args meth c base cc nL own Ts rt tb) {x : Int} (hdg : decode cc pc = .ok (.iconst x, 1)) : xE (z_K p l e R s m args below meth c base D dT jL nL Q k n) KX vI d (eC x) pc (pc + 1) := by
  intro ρ h st hd
  refine ⟨fun v h1 e1 k1 => ?_, fun E h1 e1 => by cases e1⟩
  cases e1
  intro H locs ls hR hL
  exact lv_iconst C.1 C.2.1 hdg rfl (k1 H locs ls hR hL)

theorem z_bipush (C : z_Cx p l s m args meth c base cc nL own Ts rt tb) {x : Int} (hdg : decode cc pc = .ok (.bipush x, 2)) (hv : (Int8.ofInt x).toInt32 = Int32.ofInt x) : xE (z_K p l e R s m args below meth c base D dT jL nL Q k n) KX vI d (eC x) pc (pc + 2) := by
  intro ρ h st hd
  refine ⟨fun v h1 e1 k1 => ?_, fun E h1 e1 => by cases e1⟩
  cases e1
  intro H locs ls hR hL
  exact lv_bipush C.1 C.2.1 hdg hv (k1 H locs ls hR hL)

theorem z_sipush (C : z_Cx p l s m args meth c base cc nL own Ts rt tb) {x : Int} (hdg : decode cc pc = .ok (.sipush x, 3)) (hv : (Int16.ofInt x).toInt32 = Int32.ofInt x) : xE (z_K p l e R s m args below meth c base D dT jL nL Q k n) KX vI d (eC x) pc (pc + 3) := by
  intro ρ h st hd
  refine ⟨fun v h1 e1 k1 => ?_, fun E h1 e1 => by cases e1⟩
  cases e1
  intro H locs ls hR hL
  exact lv_sipush C.1 C.2.1 hdg hv (k1 H locs ls hR hL)

theorem z_ldc (C : z_Cx p l s m args meth c base cc nL own Ts rt tb) {x : Int} {ix : Nat} (hw : Cond.constant own ix (Int32.ofInt x) ∈ Ts) (hdg : decode cc pc = .ok (.ldc ix, 2)) : xE (z_K p l e R s m args below meth c base D dT jL nL Q k n) KX vI d (eC x) pc (pc + 2) := by
  intro ρ h st hd
  refine ⟨fun v h1 e1 k1 => ?_, fun E h1 e1 => by cases e1⟩
  cases e1
  intro H locs ls hR hL
  exact lv_ldc C.1 C.2.1 C.2.2.2.1 (C.2.2.2.2.1 _ hw) hdg (k1 H locs ls hR hL)

theorem z_ldcw (C : z_Cx p l s m args meth c base cc nL own Ts rt tb) {x : Int} {ix : Nat} (hw : Cond.constant own ix (Int32.ofInt x) ∈ Ts) (hdg : decode cc pc = .ok (.ldc_w ix, 3)) : xE (z_K p l e R s m args below meth c base D dT jL nL Q k n) KX vI d (eC x) pc (pc + 3) := by
  intro ρ h st hd
  refine ⟨fun v h1 e1 k1 => ?_, fun E h1 e1 => by cases e1⟩
  cases e1
  intro H locs ls hR hL
  exact lv_ldcw C.1 C.2.1 C.2.2.2.1 (C.2.2.2.2.1 _ hw) hdg (k1 H locs ls hR hL)

theorem z_lconst (C : z_Cx p l s m args meth c base cc nL own Ts rt tb) {x : Fin 2} {y : Int} (hdg : decode cc pc = .ok (.lconst x, 1)) (hv : Int64.ofNat (x : Nat) = Int64.ofInt y) : xE (z_K p l e R s m args below meth c base D dT jL nL Q k n) KX vJ d (eC y) pc (pc + 1) := by
  intro ρ h st hd
  refine ⟨fun v h1 e1 k1 => ?_, fun E h1 e1 => by cases e1⟩
  cases e1
  intro H locs ls hR hL
  exact lv_lconst C.1 C.2.1 hdg hv (k1 H locs ls hR hL)

theorem z_bconst (C : z_Cx p l s m args meth c base cc nL own Ts rt tb) {b : Bool} {x : Int} (hx : x = if b = true then 1 else 0) (hdg : decode cc pc = .ok (.iconst x, 1)) : xE (z_K p l e R s m args below meth c base D dT jL nL Q k n) KX vB d (eCB b) pc (pc + 1) := by
  intro ρ h st hd
  refine ⟨fun v h1 e1 k1 => ?_, fun E h1 e1 => by cases e1⟩
  cases e1
  intro H locs ls hR hL
  exact lv_iconst C.1 C.2.1 hdg (by rw [hx]) (k1 H locs ls hR hL)

theorem z_iload_n (C : z_Cx p l s m args meth c base cc nL own Ts rt tb) {kk : Fin 4} {i : Nat} (hdg : decode cc pc = .ok (.iload_n kk, 1)) (hi : (kk : Nat) = i) : xE (z_K p l e R s m args below meth c base D dT jL nL Q k n) KX vI d (eL i) pc (pc + 1) := by
  refine xE.of fun ρ h st hd r h1 e1 kv kx => ?_
  unfold eL at e1
  split at e1
  · next x hx =>
    cases e1
    intro H locs ls hR hL
    exact lv_iload_n C.1 C.2.1 hdg hi (hL.at hx (fun q => by cases q)) (kv _ rfl H locs ls hR hL)
  · cases e1

theorem z_iload (C : z_Cx p l s m args meth c base cc nL own Ts rt tb) {i : Nat} (hdg : decode cc pc = .ok (.iload i, 2)) : xE (z_K p l e R s m args below meth c base D dT jL nL Q k n) KX vI d (eL i) pc (pc + 2) := by
  refine xE.of fun ρ h st hd r h1 e1 kv kx => ?_
  unfold eL at e1
  split at e1
  · next x hx =>
    cases e1
    intro H locs ls hR hL
    exact lv_iload C.1 C.2.1 hdg (hL.at hx (fun q => by cases q)) (kv _ rfl H locs ls hR hL)
  · cases e1

theorem z_aload_n (C : z_Cx p l s m args meth c base cc nL own Ts rt tb) {kk : Fin 4} {i : Nat} (hdg : decode cc pc = .ok (.aload_n kk, 1)) (hi : (kk : Nat) = i) : xE (z_K p l e R s m args below meth c base D dT jL nL Q k n) KX vR d (eLR i) pc (pc + 1) := by
  refine xE.of fun ρ h st hd r h1 e1 kv kx => ?_
  unfold eLR at e1
  split at e1
  · next x hx =>
    cases e1
    intro H locs ls hR hL
    exact lv_aload_n C.1 C.2.1 hdg hi (hL.at hx (fun q => by cases q)) (kv _ rfl H locs ls hR hL)
  · cases e1

theorem z_aload (C : z_Cx p l s m args meth c base cc nL own Ts rt tb) {i : Nat} (hdg : decode cc pc = .ok (.aload i, 2)) : xE (z_K p l e R s m args below meth c base D dT jL nL Q k n) KX vR d (eLR i) pc (pc + 2) := by
  refine xE.of fun ρ h st hd r h1 e1 kv kx => ?_
  unfold eLR at e1
  split at e1
  · next x hx =>
    cases e1
    intro H locs ls hR hL
    exact lv_aload C.1 C.2.1 hdg (hL.at hx (fun q => by cases q)) (kv _ rfl H locs ls hR hL)
  · cases e1

theorem z_lload_n (C : z_Cx p l s m args meth c base cc nL own Ts rt tb) {kk : Fin 4} {i : Nat} (hdg : decode cc pc = .ok (.lload_n kk, 1)) (hi : (kk : Nat) = i) : xE (z_K p l e R s m args below meth c base D dT jL nL Q k n) KX vJ d (eLJ i) pc (pc + 1) := by
  refine xE.of fun ρ h st hd r h1 e1 kv kx => ?_
  unfold eLJ at e1
  split at e1
  · next x hx =>
    cases e1
    intro H locs ls hR hL
    exact lv_lload_n C.1 C.2.1 hdg hi (hL.at hx (fun q => by cases q)) (kv _ rfl H locs ls hR hL)
  · cases e1

theorem z_lload (C : z_Cx p l s m args meth c base cc nL own Ts rt tb) {i : Nat} (hdg : decode cc pc = .ok (.lload i, 2)) : xE (z_K p l e R s m args below meth c base D dT jL nL Q k n) KX vJ d (eLJ i) pc (pc + 2) := by
  refine xE.of fun ρ h st hd r h1 e1 kv kx => ?_
  unfold eLJ at e1
  split at e1
  · next x hx =>
    cases e1
    intro H locs ls hR hL
    exact lv_lload C.1 C.2.1 hdg (hL.at hx (fun q => by cases q)) (kv _ rfl H locs ls hR hL)
  · cases e1

theorem z_bload_n (C : z_Cx p l s m args meth c base cc nL own Ts rt tb) {kk : Fin 4} {i : Nat} (hdg : decode cc pc = .ok (.iload_n kk, 1)) (hi : (kk : Nat) = i) : xE (z_K p l e R s m args below meth c base D dT jL nL Q k n) KX vB d (eLB i) pc (pc + 1) := by
  refine xE.of fun ρ h st hd r h1 e1 kv kx => ?_
  unfold eLB at e1
  split at e1
  · next x hx =>
    split at e1
    · next b hb =>
      cases e1
      rw [z_bool_some hb] at hx
      intro H locs ls hR hL
      exact lv_iload_n C.1 C.2.1 hdg hi (hL.at hx (fun q => by cases q)) (kv _ rfl H locs ls hR hL)
    · cases e1
  · cases e1

theorem z_bload (C : z_Cx p l s m args meth c base cc nL own Ts rt tb) {i : Nat} (hdg : decode cc pc = .ok (.iload i, 2)) : xE (z_K p l e R s m args below meth c base D dT jL nL Q k n) KX vB d (eLB i) pc (pc + 2) := by
  refine xE.of fun ρ h st hd r h1 e1 kv kx => ?_
  unfold eLB at e1
  split at e1
  · next x hx =>
    split at e1
    · next b hb =>
      cases e1
      rw [z_bool_some hb] at hx
      intro H locs ls hR hL
      exact lv_iload C.1 C.2.1 hdg (hL.at hx (fun q => by cases q)) (kv _ rfl H locs ls hR hL)
    · cases e1
  · cases e1

theorem z_iadd (C : z_Cx p l s m args meth c base cc nL own Ts rt tb) (hdg : decode cc pc = .ok (.iadd, 1)) : i2 (z_K p l e R s m args below meth c base D dT jL nL Q k n) vI vI vI oAdd pc (pc + 1) := by
  intro h ρ st x y z hz k1 H locs ls hR hL
  have k2 := k1 H locs ls hR hL
  cases hz
  refine lv_iadd C.1 C.2.1 hdg ?_
  rw [← Int32.ofInt_add]
  exact k2

theorem z_isub (C : z_Cx p l s m args meth c base cc nL own Ts rt tb) (hdg : decode cc pc = .ok (.isub, 1)) : i2 (z_K p l e R s m args below meth c base D dT jL nL Q k n) vI vI vI oSub pc (pc + 1) := by
  intro h ρ st x y z hz k1 H locs ls hR hL
  have k2 := k1 H locs ls hR hL
  cases hz
  refine lv_isub C.1 C.2.1 hdg ?_
  rw [← Int32.ofInt_sub]
  exact k2

theorem z_imul (C : z_Cx p l s m args meth c base cc nL own Ts rt tb) (hdg : decode cc pc = .ok (.imul, 1)) : i2 (z_K p l e R s m args below meth c base D dT jL nL Q k n) vI vI vI oMul pc (pc + 1) := by
  intro h ρ st x y z hz k1 H locs ls hR hL
  have k2 := k1 H locs ls hR hL
  cases hz
  refine lv_imul C.1 C.2.1 hdg ?_
  rw [← Int32.ofInt_mul]
  exact k2

theorem z_ladd (C : z_Cx p l s m args meth c base cc nL own Ts rt tb) (hdg : decode cc pc = .ok (.ladd, 1)) : i2 (z_K p l e R s m args below meth c base D dT jL nL Q k n) vJ vJ vJ oAdd pc (pc + 1) := by
  intro h ρ st x y z hz k1 H locs ls hR hL
  have k2 := k1 H locs ls hR hL
  cases hz
  refine lv_ladd C.1 C.2.1 hdg ?_
  rw [← Int64.ofInt_add]
  exact k2

theorem z_lmul (C : z_Cx p l s m args meth c base cc nL own Ts rt tb) (hdg : decode cc pc = .ok (.lmul, 1)) : i2 (z_K p l e R s m args below meth c base D dT jL nL Q k n) vJ vJ vJ oMul pc (pc + 1) := by
  intro h ρ st x y z hz k1 H locs ls hR hL
  have k2 := k1 H locs ls hR hL
  cases hz
  refine lv_lmul C.1 C.2.1 hdg ?_
  rw [← Int64.ofInt_mul]
  exact k2

theorem z_iand (C : z_Cx p l s m args meth c base cc nL own Ts rt tb) (hdg : decode cc pc = .ok (.iand, 1)) : i2 (z_K p l e R s m args below meth c base D dT jL nL Q k n) vI vI vI oAnd pc (pc + 1) := by
  intro h ρ st x y z hz k1 H locs ls hR hL
  have k2 := k1 H locs ls hR hL
  cases hz
  refine lv_iand C.1 C.2.1 hdg ?_
  simp only [List.map_cons, z_kV, Int32.ofInt_toInt] at k2
  exact k2

theorem z_ior (C : z_Cx p l s m args meth c base cc nL own Ts rt tb) (hdg : decode cc pc = .ok (.ior, 1)) : i2 (z_K p l e R s m args below meth c base D dT jL nL Q k n) vI vI vI oOr pc (pc + 1) := by
  intro h ρ st x y z hz k1 H locs ls hR hL
  have k2 := k1 H locs ls hR hL
  cases hz
  refine lv_ior C.1 C.2.1 hdg ?_
  simp only [List.map_cons, z_kV, Int32.ofInt_toInt] at k2
  exact k2

theorem z_ixor (C : z_Cx p l s m args meth c base cc nL own Ts rt tb) (hdg : decode cc pc = .ok (.ixor, 1)) : i2 (z_K p l e R s m args below meth c base D dT jL nL Q k n) vI vI vI oXor pc (pc + 1) := by
  intro h ρ st x y z hz k1 H locs ls hR hL
  have k2 := k1 H locs ls hR hL
  cases hz
  refine lv_ixor C.1 C.2.1 hdg ?_
  simp only [List.map_cons, z_kV, Int32.ofInt_toInt] at k2
  exact k2

theorem z_ishl (C : z_Cx p l s m args meth c base cc nL own Ts rt tb) (hdg : decode cc pc = .ok (.ishl, 1)) : i2 (z_K p l e R s m args below meth c base D dT jL nL Q k n) vI vI vI oShl pc (pc + 1) := by
  intro h ρ st x y z hz k1 H locs ls hR hL
  have k2 := k1 H locs ls hR hL
  cases hz
  refine lv_ishl C.1 C.2.1 hdg ?_
  simp only [List.map_cons, z_kV, Int32.ofInt_toInt] at k2
  exact k2

theorem z_ishr (C : z_Cx p l s m args meth c base cc nL own Ts rt tb) (hdg : decode cc pc = .ok (.ishr, 1)) : i2 (z_K p l e R s m args below meth c base D dT jL nL Q k n) vI vI vI oShr pc (pc + 1) := by
  intro h ρ st x y z hz k1 H locs ls hR hL
  have k2 := k1 H locs ls hR hL
  cases hz
  refine lv_ishr C.1 C.2.1 hdg ?_
  simp only [List.map_cons, z_kV, Int32.ofInt_toInt] at k2
  exact k2

theorem z_iushr (C : z_Cx p l s m args meth c base cc nL own Ts rt tb) (hdg : decode cc pc = .ok (.iushr, 1)) : i2 (z_K p l e R s m args below meth c base D dT jL nL Q k n) vI vI vI oUshr pc (pc + 1) := by
  intro h ρ st x y z hz k1 H locs ls hR hL
  have k2 := k1 H locs ls hR hL
  cases hz
  refine lv_iushr C.1 C.2.1 hdg rfl ?_
  simp only [List.map_cons, z_kV, Int32.ofInt_toInt] at k2
  exact k2

theorem z_idiv (C : z_Cx p l s m args meth c base cc nL own Ts rt tb) (hdg : decode cc pc = .ok (.idiv, 1)) : i2 (z_K p l e R s m args below meth c base D dT jL nL Q k n) vI vI vI oDiv pc (pc + 1) := by
  intro h ρ st x y z hz k1 H locs ls hR hL
  have k2 := k1 H locs ls hR hL
  unfold oDiv at hz
  split at hz
  · next hc =>
    cases hz
    simp only [Bool.and_eq_true, decide_eq_true_eq] at hc
    refine lv_idiv C.1 C.2.1 hdg (fun q => hc.2 ((z_eq (y := 0) (by rw [hc.1.2]; rfl)).mp q)) ?_
    rw [z_div hc.1.1 hc.1.2]
    exact k2
  · cases hz

theorem z_irem (C : z_Cx p l s m args meth c base cc nL own Ts rt tb) (hdg : decode cc pc = .ok (.irem, 1)) : i2 (z_K p l e R s m args below meth c base D dT jL nL Q k n) vI vI vI oRem pc (pc + 1) := by
  intro h ρ st x y z hz k1 H locs ls hR hL
  have k2 := k1 H locs ls hR hL
  unfold oRem at hz
  split at hz
  · next hc =>
    cases hz
    simp only [Bool.and_eq_true, decide_eq_true_eq] at hc
    refine lv_irem C.1 C.2.1 hdg (fun q => hc.2 ((z_eq (y := 0) (by rw [hc.1.2]; rfl)).mp q)) ?_
    rw [z_rem hc.1.1 hc.1.2]
    exact k2
  · cases hz

theorem z_ineg (C : z_Cx p l s m args meth c base cc nL own Ts rt tb) (hdg : decode cc pc = .ok (.ineg, 1)) : i1 (z_K p l e R s m args below meth c base D dT jL nL Q k n) vI vI oNeg pc (pc + 1) := by
  intro h ρ st x z hz k1 H locs ls hR hL
  have k2 := k1 H locs ls hR hL
  cases hz
  refine lv_ineg C.1 C.2.1 hdg ?_
  rw [← Int32.ofInt_neg]
  exact k2

theorem z_lneg (C : z_Cx p l s m args meth c base cc nL own Ts rt tb) (hdg : decode cc pc = .ok (.lneg, 1)) : i1 (z_K p l e R s m args below meth c base D dT jL nL Q k n) vJ vJ oNeg pc (pc + 1) := by
  intro h ρ st x z hz k1 H locs ls hR hL
  have k2 := k1 H locs ls hR hL
  cases hz
  refine lv_lneg C.1 C.2.1 hdg ?_
  rw [← Int64.ofInt_neg]
  exact k2

theorem z_i2l (C : z_Cx p l s m args meth c base cc nL own Ts rt tb) (hdg : decode cc pc = .ok (.i2l, 1)) : i1 (z_K p l e R s m args below meth c base D dT jL nL Q k n) vI vJ oI2L pc (pc + 1) := by
  intro h ρ st x z hz k1 H locs ls hR hL
  have k2 := k1 H locs ls hR hL
  unfold oI2L at hz
  split at hz
  · next hc =>
    cases hz
    exact lv_i2l C.1 C.2.1 hdg (z_i2lv hc) k2
  · cases hz

theorem z_l2i (C : z_Cx p l s m args meth c base cc nL own Ts rt tb) (hdg : decode cc pc = .ok (.l2i, 1)) : i1 (z_K p l e R s m args below meth c base D dT jL nL Q k n) vJ vI oL2I pc (pc + 1) := by
  intro h ρ st x z hz k1 H locs ls hR hL
  have k2 := k1 H locs ls hR hL
  cases hz
  exact lv_l2i C.1 C.2.1 hdg z_l2iv k2

theorem z_icmp_eq (C : z_Cx p l s m args meth c base cc nL own Ts rt tb) {off : Int} {tgt : Nat} (hdg : decode cc pc = .ok (.if_icmp .eq off, 3)) (ht : (pc : Int) + off = (tgt : Int)) : j2 (z_K p l e R s m args below meth c base D dT jL nL Q k n) cEq pc tgt (pc + 3) := by
  intro h ρ st x y hz kt kf H locs ls hR hL
  refine lv_icmp_eq C.1 C.2.1 hdg ht (fun q => ?_) (fun q => ?_)
  · rw [z_eq hz] at q
    exact kt (by simp only [cEq, decide_eq_true_eq, decide_eq_false_iff_not]; omega) H locs ls hR hL
  · rw [z_eq hz] at q
    exact kf (by simp only [cEq, decide_eq_true_eq, decide_eq_false_iff_not]; omega) H locs ls hR hL

theorem z_if_eq (C : z_Cx p l s m args meth c base cc nL own Ts rt tb) {off : Int} {tgt : Nat} (hdg : decode cc pc = .ok (.ifCond .eq off, 3)) (ht : (pc : Int) + off = (tgt : Int)) : j1 (z_K p l e R s m args below meth c base D dT jL nL Q k n) cEq 0 pc tgt (pc + 3) := by
  intro h ρ st x hz kt kf H locs ls hR hL
  refine lv_if_eq C.1 C.2.1 hdg ht (fun q => ?_) (fun q => ?_)
  · rw [show (0 : Int32) = Int32.ofInt 0 from rfl, z_eq (y := 0) (by rw [hz]; rfl)] at q
    exact kt (by simp only [cEq, decide_eq_true_eq, decide_eq_false_iff_not]; omega) H locs ls hR hL
  · rw [show (0 : Int32) = Int32.ofInt 0 from rfl, z_eq (y := 0) (by rw [hz]; rfl)] at q
    exact kf (by simp only [cEq, decide_eq_true_eq, decide_eq_false_iff_not]; omega) H locs ls hR hL

theorem z_icmp_eqN (C : z_Cx p l s m args meth c base cc nL own Ts rt tb) {off : Int} {tgt : Nat} (hdg : decode cc pc = .ok (.if_icmp .eq off, 3)) (ht : (pc : Int) + off = (tgt : Int)) : j2 (z_K p l e R s m args below meth c base D dT jL nL Q k n) cNe pc (pc + 3) tgt := by
  intro h ρ st x y hz kt kf H locs ls hR hL
  refine lv_icmp_eq C.1 C.2.1 hdg ht (fun q => ?_) (fun q => ?_)
  · rw [z_eq hz] at q
    exact kf (by simp only [cNe, decide_eq_true_eq, decide_eq_false_iff_not]; omega) H locs ls hR hL
  · rw [z_eq hz] at q
    exact kt (by simp only [cNe, decide_eq_true_eq, decide_eq_false_iff_not]; omega) H locs ls hR hL

theorem z_if_eqN (C : z_Cx p l s m args meth c base cc nL own Ts rt tb) {off : Int} {tgt : Nat} (hdg : decode cc pc = .ok (.ifCond .eq off, 3)) (ht : (pc : Int) + off = (tgt : Int)) : j1 (z_K p l e R s m args below meth c base D dT jL nL Q k n) cNe 0 pc (pc + 3) tgt := by
  intro h ρ st x hz kt kf H locs ls hR hL
  refine lv_if_eq C.1 C.2.1 hdg ht (fun q => ?_) (fun q => ?_)
  · rw [show (0 : Int32) = Int32.ofInt 0 from rfl, z_eq (y := 0) (by rw [hz]; rfl)] at q
    exact kf (by simp only [cNe, decide_eq_true_eq, decide_eq_false_iff_not]; omega) H locs ls hR hL
  · rw [show (0 : Int32) = Int32.ofInt 0 from rfl, z_eq (y := 0) (by rw [hz]; rfl)] at q
    exact kt (by simp only [cNe, decide_eq_true_eq, decide_eq_false_iff_not]; omega) H locs ls hR hL

theorem z_icmp_ne (C : z_Cx p l s m args meth c base cc nL own Ts rt tb) {off : Int} {tgt : Nat} (hdg : decode cc pc = .ok (.if_icmp .ne off, 3)) (ht : (pc : Int) + off = (tgt : Int)) : j2 (z_K p l e R s m args below meth c base D dT jL nL Q k n) cNe pc tgt (pc + 3) := by
  intro h ρ st x y hz kt kf H locs ls hR hL
  refine lv_icmp_ne C.1 C.2.1 hdg ht (fun q => ?_) (fun q => ?_)
  · rw [z_eq hz] at q
    exact kt (by simp only [cNe, decide_eq_true_eq, decide_eq_false_iff_not]; omega) H locs ls hR hL
  · rw [z_eq hz] at q
    exact kf (by simp only [cNe, decide_eq_true_eq, decide_eq_false_iff_not]; omega) H locs ls hR hL

theorem z_if_ne (C : z_Cx p l s m args meth c base cc nL own Ts rt tb) {off : Int} {tgt : Nat} (hdg : decode cc pc = .ok (.ifCond .ne off, 3)) (ht : (pc : Int) + off = (tgt : Int)) : j1 (z_K p l e R s m args below meth c base D dT jL nL Q k n) cNe 0 pc tgt (pc + 3) := by
  intro h ρ st x hz kt kf H locs ls hR hL
  refine lv_if_ne C.1 C.2.1 hdg ht (fun q => ?_) (fun q => ?_)
  · rw [show (0 : Int32) = Int32.ofInt 0 from rfl, z_eq (y := 0) (by rw [hz]; rfl)] at q
    exact kt (by simp only [cNe, decide_eq_true_eq, decide_eq_false_iff_not]; omega) H locs ls hR hL
  · rw [show (0 : Int32) = Int32.ofInt 0 from rfl, z_eq (y := 0) (by rw [hz]; rfl)] at q
    exact kf (by simp only [cNe, decide_eq_true_eq, decide_eq_false_iff_not]; omega) H locs ls hR hL

theorem z_icmp_neN (C : z_Cx p l s m args meth c base cc nL own Ts rt tb) {off : Int} {tgt : Nat} (hdg : decode cc pc = .ok (.if_icmp .ne off, 3)) (ht : (pc : Int) + off = (tgt : Int)) : j2 (z_K p l e R s m args below meth c base D dT jL nL Q k n) cEq pc (pc + 3) tgt := by
  intro h ρ st x y hz kt kf H locs ls hR hL
  refine lv_icmp_ne C.1 C.2.1 hdg ht (fun q => ?_) (fun q => ?_)
  · rw [z_eq hz] at q
    exact kf (by simp only [cEq, decide_eq_true_eq, decide_eq_false_iff_not]; omega) H locs ls hR hL
  · rw [z_eq hz] at q
    exact kt (by simp only [cEq, decide_eq_true_eq, decide_eq_false_iff_not]; omega) H locs ls hR hL

theorem z_if_neN (C : z_Cx p l s m args meth c base cc nL own Ts rt tb) {off : Int} {tgt : Nat} (hdg : decode cc pc = .ok (.ifCond .ne off, 3)) (ht : (pc : Int) + off = (tgt : Int)) : j1 (z_K p l e R s m args below meth c base D dT jL nL Q k n) cEq 0 pc (pc + 3) tgt := by
  intro h ρ st x hz kt kf H locs ls hR hL
  refine lv_if_ne C.1 C.2.1 hdg ht (fun q => ?_) (fun q => ?_)
  · rw [show (0 : Int32) = Int32.ofInt 0 from rfl, z_eq (y := 0) (by rw [hz]; rfl)] at q
    exact kf (by simp only [cEq, decide_eq_true_eq, decide_eq_false_iff_not]; omega) H locs ls hR hL
  · rw [show (0 : Int32) = Int32.ofInt 0 from rfl, z_eq (y := 0) (by rw [hz]; rfl)] at q
    exact kt (by simp only [cEq, decide_eq_true_eq, decide_eq_false_iff_not]; omega) H locs ls hR hL

theorem z_icmp_lt (C : z_Cx p l s m args meth c base cc nL own Ts rt tb) {off : Int} {tgt : Nat} (hdg : decode cc pc = .ok (.if_icmp .lt off, 3)) (ht : (pc : Int) + off = (tgt : Int)) : j2 (z_K p l e R s m args below meth c base D dT jL nL Q k n) cLt pc tgt (pc + 3) := by
  intro h ρ st x y hz kt kf H locs ls hR hL
  refine lv_icmp_lt C.1 C.2.1 hdg ht (fun q => ?_) (fun q => ?_)
  · rw [z_lt hz] at q
    exact kt (by simp only [cLt, decide_eq_true_eq, decide_eq_false_iff_not]; omega) H locs ls hR hL
  · rw [z_lt hz] at q
    exact kf (by simp only [cLt, decide_eq_true_eq, decide_eq_false_iff_not]; omega) H locs ls hR hL

theorem z_if_lt (C : z_Cx p l s m args meth c base cc nL own Ts rt tb) {off : Int} {tgt : Nat} (hdg : decode cc pc = .ok (.ifCond .lt off, 3)) (ht : (pc : Int) + off = (tgt : Int)) : j1 (z_K p l e R s m args below meth c base D dT jL nL Q k n) cLt 0 pc tgt (pc + 3) := by
  intro h ρ st x hz kt kf H locs ls hR hL
  refine lv_if_lt C.1 C.2.1 hdg ht (fun q => ?_) (fun q => ?_)
  · rw [show (0 : Int32) = Int32.ofInt 0 from rfl, z_lt (y := 0) (by rw [hz]; rfl)] at q
    exact kt (by simp only [cLt, decide_eq_true_eq, decide_eq_false_iff_not]; omega) H locs ls hR hL
  · rw [show (0 : Int32) = Int32.ofInt 0 from rfl, z_lt (y := 0) (by rw [hz]; rfl)] at q
    exact kf (by simp only [cLt, decide_eq_true_eq, decide_eq_false_iff_not]; omega) H locs ls hR hL

theorem z_icmp_ltN (C : z_Cx p l s m args meth c base cc nL own Ts rt tb) {off : Int} {tgt : Nat} (hdg : decode cc pc = .ok (.if_icmp .lt off, 3)) (ht : (pc : Int) + off = (tgt : Int)) : j2 (z_K p l e R s m args below meth c base D dT jL nL Q k n) cGe pc (pc + 3) tgt := by
  intro h ρ st x y hz kt kf H locs ls hR hL
  refine lv_icmp_lt C.1 C.2.1 hdg ht (fun q => ?_) (fun q => ?_)
  · rw [z_lt hz] at q
    exact kf (by simp only [cGe, decide_eq_true_eq, decide_eq_false_iff_not]; omega) H locs ls hR hL
  · rw [z_lt hz] at q
    exact kt (by simp only [cGe, decide_eq_true_eq, decide_eq_false_iff_not]; omega) H locs ls hR hL

theorem z_if_ltN (C : z_Cx p l s m args meth c base cc nL own Ts rt tb) {off : Int} {tgt : Nat} (hdg : decode cc pc = .ok (.ifCond .lt off, 3)) (ht : (pc : Int) + off = (tgt : Int)) : j1 (z_K p l e R s m args below meth c base D dT jL nL Q k n) cGe 0 pc (pc + 3) tgt := by
  intro h ρ st x hz kt kf H locs ls hR hL
  refine lv_if_lt C.1 C.2.1 hdg ht (fun q => ?_) (fun q => ?_)
  · rw [show (0 : Int32) = Int32.ofInt 0 from rfl, z_lt (y := 0) (by rw [hz]; rfl)] at q
    exact kf (by simp only [cGe, decide_eq_true_eq, decide_eq_false_iff_not]; omega) H locs ls hR hL
  · rw [show (0 : Int32) = Int32.ofInt 0 from rfl, z_lt (y := 0) (by rw [hz]; rfl)] at q
    exact kt (by simp only [cGe, decide_eq_true_eq, decide_eq_false_iff_not]; omega) H locs ls hR hL

theorem z_icmp_ge (C : z_Cx p l s m args meth c base cc nL own Ts rt tb) {off : Int} {tgt : Nat} (hdg : decode cc pc = .ok (.if_icmp .ge off, 3)) (ht : (pc : Int) + off = (tgt : Int)) : j2 (z_K p l e R s m args below meth c base D dT jL nL Q k n) cGe pc tgt (pc + 3) := by
  intro h ρ st x y hz kt kf H locs ls hR hL
  refine lv_icmp_ge C.1 C.2.1 hdg ht (fun q => ?_) (fun q => ?_)
  · rw [z_le (by rw [Bool.and_comm]; exact hz)] at q
    exact kt (by simp only [cGe, decide_eq_true_eq, decide_eq_false_iff_not]; omega) H locs ls hR hL
  · rw [z_le (by rw [Bool.and_comm]; exact hz)] at q
    exact kf (by simp only [cGe, decide_eq_true_eq, decide_eq_false_iff_not]; omega) H locs ls hR hL

theorem z_if_ge (C : z_Cx p l s m args meth c base cc nL own Ts rt tb) {off : Int} {tgt : Nat} (hdg : decode cc pc = .ok (.ifCond .ge off, 3)) (ht : (pc : Int) + off = (tgt : Int)) : j1 (z_K p l e R s m args below meth c base D dT jL nL Q k n) cGe 0 pc tgt (pc + 3) := by
  intro h ρ st x hz kt kf H locs ls hR hL
  refine lv_if_ge C.1 C.2.1 hdg ht (fun q => ?_) (fun q => ?_)
  · rw [show (0 : Int32) = Int32.ofInt 0 from rfl, z_le (x := 0) (by rw [hz]; rfl)] at q
    exact kt (by simp only [cGe, decide_eq_true_eq, decide_eq_false_iff_not]; omega) H locs ls hR hL
  · rw [show (0 : Int32) = Int32.ofInt 0 from rfl, z_le (x := 0) (by rw [hz]; rfl)] at q
    exact kf (by simp only [cGe, decide_eq_true_eq, decide_eq_false_iff_not]; omega) H locs ls hR hL

theorem z_icmp_geN (C : z_Cx p l s m args meth c base cc nL own Ts rt tb) {off : Int} {tgt : Nat} (hdg : decode cc pc = .ok (.if_icmp .ge off, 3)) (ht : (pc : Int) + off = (tgt : Int)) : j2 (z_K p l e R s m args below meth c base D dT jL nL Q k n) cLt pc (pc + 3) tgt := by
  intro h ρ st x y hz kt kf H locs ls hR hL
  refine lv_icmp_ge C.1 C.2.1 hdg ht (fun q => ?_) (fun q => ?_)
  · rw [z_le (by rw [Bool.and_comm]; exact hz)] at q
    exact kf (by simp only [cLt, decide_eq_true_eq, decide_eq_false_iff_not]; omega) H locs ls hR hL
  · rw [z_le (by rw [Bool.and_comm]; exact hz)] at q
    exact kt (by simp only [cLt, decide_eq_true_eq, decide_eq_false_iff_not]; omega) H locs ls hR hL

theorem z_if_geN (C : z_Cx p l s m args meth c base cc nL own Ts rt tb) {off : Int} {tgt : Nat} (hdg : decode cc pc = .ok (.ifCond .ge off, 3)) (ht : (pc : Int) + off = (tgt : Int)) : j1 (z_K p l e R s m args below meth c base D dT jL nL Q k n) cLt 0 pc (pc + 3) tgt := by
  intro h ρ st x hz kt kf H locs ls hR hL
  refine lv_if_ge C.1 C.2.1 hdg ht (fun q => ?_) (fun q => ?_)
  · rw [show (0 : Int32) = Int32.ofInt 0 from rfl, z_le (x := 0) (by rw [hz]; rfl)] at q
    exact kf (by simp only [cLt, decide_eq_true_eq, decide_eq_false_iff_not]; omega) H locs ls hR hL
  · rw [show (0 : Int32) = Int32.ofInt 0 from rfl, z_le (x := 0) (by rw [hz]; rfl)] at q
    exact kt (by simp only [cLt, decide_eq_true_eq, decide_eq_false_iff_not]; omega) H locs ls hR hL

theorem z_icmp_gt (C : z_Cx p l s m args meth c base cc nL own Ts rt tb) {off : Int} {tgt : Nat} (hdg : decode cc pc = .ok (.if_icmp .gt off, 3)) (ht : (pc : Int) + off = (tgt : Int)) : j2 (z_K p l e R s m args below meth c base D dT jL nL Q k n) cGt pc tgt (pc + 3) := by
  intro h ρ st x y hz kt kf H locs ls hR hL
  refine lv_icmp_gt C.1 C.2.1 hdg ht (fun q => ?_) (fun q => ?_)
  · rw [z_lt (by rw [Bool.and_comm]; exact hz)] at q
    exact kt (by simp only [cGt, decide_eq_true_eq, decide_eq_false_iff_not]; omega) H locs ls hR hL
  · rw [z_lt (by rw [Bool.and_comm]; exact hz)] at q
    exact kf (by simp only [cGt, decide_eq_true_eq, decide_eq_false_iff_not]; omega) H locs ls hR hL

theorem z_if_gt (C : z_Cx p l s m args meth c base cc nL own Ts rt tb) {off : Int} {tgt : Nat} (hdg : decode cc pc = .ok (.ifCond .gt off, 3)) (ht : (pc : Int) + off = (tgt : Int)) : j1 (z_K p l e R s m args below meth c base D dT jL nL Q k n) cGt 0 pc tgt (pc + 3) := by
  intro h ρ st x hz kt kf H locs ls hR hL
  refine lv_if_gt C.1 C.2.1 hdg ht (fun q => ?_) (fun q => ?_)
  · rw [show (0 : Int32) = Int32.ofInt 0 from rfl, z_lt (x := 0) (by rw [hz]; rfl)] at q
    exact kt (by simp only [cGt, decide_eq_true_eq, decide_eq_false_iff_not]; omega) H locs ls hR hL
  · rw [show (0 : Int32) = Int32.ofInt 0 from rfl, z_lt (x := 0) (by rw [hz]; rfl)] at q
    exact kf (by simp only [cGt, decide_eq_true_eq, decide_eq_false_iff_not]; omega) H locs ls hR hL

theorem z_icmp_gtN (C : z_Cx p l s m args meth c base cc nL own Ts rt tb) {off : Int} {tgt : Nat} (hdg : decode cc pc = .ok (.if_icmp .gt off, 3)) (ht : (pc : Int) + off = (tgt : Int)) : j2 (z_K p l e R s m args below meth c base D dT jL nL Q k n) cLe pc (pc + 3) tgt := by
  intro h ρ st x y hz kt kf H locs ls hR hL
  refine lv_icmp_gt C.1 C.2.1 hdg ht (fun q => ?_) (fun q => ?_)
  · rw [z_lt (by rw [Bool.and_comm]; exact hz)] at q
    exact kf (by simp only [cLe, decide_eq_true_eq, decide_eq_false_iff_not]; omega) H locs ls hR hL
  · rw [z_lt (by rw [Bool.and_comm]; exact hz)] at q
    exact kt (by simp only [cLe, decide_eq_true_eq, decide_eq_false_iff_not]; omega) H locs ls hR hL

theorem z_if_gtN (C : z_Cx p l s m args meth c base cc nL own Ts rt tb) {off : Int} {tgt : Nat} (hdg : decode cc pc = .ok (.ifCond .gt off, 3)) (ht : (pc : Int) + off = (tgt : Int)) : j1 (z_K p l e R s m args below meth c base D dT jL nL Q k n) cLe 0 pc (pc + 3) tgt := by
  intro h ρ st x hz kt kf H locs ls hR hL
  refine lv_if_gt C.1 C.2.1 hdg ht (fun q => ?_) (fun q => ?_)
  · rw [show (0 : Int32) = Int32.ofInt 0 from rfl, z_lt (x := 0) (by rw [hz]; rfl)] at q
    exact kf (by simp only [cLe, decide_eq_true_eq, decide_eq_false_iff_not]; omega) H locs ls hR hL
  · rw [show (0 : Int32) = Int32.ofInt 0 from rfl, z_lt (x := 0) (by rw [hz]; rfl)] at q
    exact kt (by simp only [cLe, decide_eq_true_eq, decide_eq_false_iff_not]; omega) H locs ls hR hL

theorem z_icmp_le (C : z_Cx p l s m args meth c base cc nL own Ts rt tb) {off : Int} {tgt : Nat} (hdg : decode cc pc = .ok (.if_icmp .le off, 3)) (ht : (pc : Int) + off = (tgt : Int)) : j2 (z_K p l e R s m args below meth c base D dT jL nL Q k n) cLe pc tgt (pc + 3) := by
  intro h ρ st x y hz kt kf H locs ls hR hL
  refine lv_icmp_le C.1 C.2.1 hdg ht (fun q => ?_) (fun q => ?_)
  · rw [z_le hz] at q
    exact kt (by simp only [cLe, decide_eq_true_eq, decide_eq_false_iff_not]; omega) H locs ls hR hL
  · rw [z_le hz] at q
    exact kf (by simp only [cLe, decide_eq_true_eq, decide_eq_false_iff_not]; omega) H locs ls hR hL

theorem z_if_le (C : z_Cx p l s m args meth c base cc nL own Ts rt tb) {off : Int} {tgt : Nat} (hdg : decode cc pc = .ok (.ifCond .le off, 3)) (ht : (pc : Int) + off = (tgt : Int)) : j1 (z_K p l e R s m args below meth c base D dT jL nL Q k n) cLe 0 pc tgt (pc + 3) := by
  intro h ρ st x hz kt kf H locs ls hR hL
  refine lv_if_le C.1 C.2.1 hdg ht (fun q => ?_) (fun q => ?_)
  · rw [show (0 : Int32) = Int32.ofInt 0 from rfl, z_le (y := 0) (by rw [hz]; rfl)] at q
    exact kt (by simp only [cLe, decide_eq_true_eq, decide_eq_false_iff_not]; omega) H locs ls hR hL
  · rw [show (0 : Int32) = Int32.ofInt 0 from rfl, z_le (y := 0) (by rw [hz]; rfl)] at q
    exact kf (by simp only [cLe, decide_eq_true_eq, decide_eq_false_iff_not]; omega) H locs ls hR hL

theorem z_icmp_leN (C : z_Cx p l s m args meth c base cc nL own Ts rt tb) {off : Int} {tgt : Nat} (hdg : decode cc pc = .ok (.if_icmp .le off, 3)) (ht : (pc : Int) + off = (tgt : Int)) : j2 (z_K p l e R s m args below meth c base D dT jL nL Q k n) cGt pc (pc + 3) tgt := by
  intro h ρ st x y hz kt kf H locs ls hR hL
  refine lv_icmp_le C.1 C.2.1 hdg ht (fun q => ?_) (fun q => ?_)
  · rw [z_le hz] at q
    exact kf (by simp only [cGt, decide_eq_true_eq, decide_eq_false_iff_not]; omega) H locs ls hR hL
  · rw [z_le hz] at q
    exact kt (by simp only [cGt, decide_eq_true_eq, decide_eq_false_iff_not]; omega) H locs ls hR hL

theorem z_if_leN (C : z_Cx p l s m args meth c base cc nL own Ts rt tb) {off : Int} {tgt : Nat} (hdg : decode cc pc = .ok (.ifCond .le off, 3)) (ht : (pc : Int) + off = (tgt : Int)) : j1 (z_K p l e R s m args below meth c base D dT jL nL Q k n) cGt 0 pc (pc + 3) tgt := by
  intro h ρ st x hz kt kf H locs ls hR hL
  refine lv_if_le C.1 C.2.1 hdg ht (fun q => ?_) (fun q => ?_)
  · rw [show (0 : Int32) = Int32.ofInt 0 from rfl, z_le (y := 0) (by rw [hz]; rfl)] at q
    exact kf (by simp only [cGt, decide_eq_true_eq, decide_eq_false_iff_not]; omega) H locs ls hR hL
  · rw [show (0 : Int32) = Int32.ofInt 0 from rfl, z_le (y := 0) (by rw [hz]; rfl)] at q
    exact kt (by simp only [cGt, decide_eq_true_eq, decide_eq_false_iff_not]; omega) H locs ls hR hL

theorem z_b_eq (C : z_Cx p l s m args meth c base cc nL own Ts rt tb) {off : Int} {tgt : Nat} (hdg : decode cc pc = .ok (.ifCond .eq off, 3)) (ht : (pc : Int) + off = (tgt : Int)) : jB (z_K p l e R s m args below meth c base D dT jL nL Q k n) pc (pc + 3) tgt := by
  intro h ρ st b kt kf
  have j := z_if_eqN (R := R) (Q := Q) (k := k) (n := n) (D := D) (dT := dT) (jL := jL) (e := e) (below := below) C hdg ht h ρ st
  cases b
  · exact j 0 rfl (fun q => by cases q) (fun _ => kf rfl)
  · exact j 1 rfl (fun _ => kt rfl) (fun q => by cases q)

theorem z_b_ne (C : z_Cx p l s m args meth c base cc nL own Ts rt tb) {off : Int} {tgt : Nat} (hdg : decode cc pc = .ok (.ifCond .ne off, 3)) (ht : (pc : Int) + off = (tgt : Int)) : jB (z_K p l e R s m args below meth c base D dT jL nL Q k n) pc tgt (pc + 3) := by
  intro h ρ st b kt kf
  have j := z_if_ne (R := R) (Q := Q) (k := k) (n := n) (D := D) (dT := dT) (jL := jL) (e := e) (below := below) C hdg ht h ρ st
  cases b
  · exact j 0 rfl (fun q => by cases q) (fun _ => kf rfl)
  · exact j 1 rfl (fun _ => kt rfl) (fun q => by cases q)

theorem z_goto (C : z_Cx p l s m args meth c base cc nL own Ts rt tb) {off : Int} {tgt : Nat} (hdg : decode cc pc = .ok (.goto off, 3)) (ht : (pc : Int) + off = (tgt : Int)) : jG (z_K p l e R s m args below meth c base D dT jL nL Q k n) pc tgt := fun h ρ st k1 H locs ls hR hL => lv_goto C.1 C.2.1 hdg ht (k1 H locs ls hR hL)

theorem z_istore_n (C : z_Cx p l s m args meth c base cc nL own Ts rt tb) {kk : Fin 4} {i : Nat} (hdg : decode cc pc = .ok (.istore_n kk, 1)) (hi : (kk : Nat) = i) (hn : i < nL) (hj : i ≠ jL + 1) : ∀ h ρ (v : Int), (z_K p l e R s m args below meth c base D dT jL nL Q k n) h (ρ.set i (vI v)) (pc + 1) [] → (z_K p l e R s m args below meth c base D dT jL nL Q k n) h ρ pc [vI v] := by
  intro h ρ v k1 H locs ls hR hL
  obtain ⟨lv, h1, h2, h3⟩ := hL
  refine lv_istore_n C.1 C.2.1 hdg hi h1 hn rfl (fun ls' h4 => ?_)
  exact k1 H locs ls' hR (z_lv_set h4 h2 h3 hj (by intro q; cases q) rfl)

theorem z_istore (C : z_Cx p l s m args meth c base cc nL own Ts rt tb) {i : Nat} (hdg : decode cc pc = .ok (.istore i, 2)) (hn : i < nL) (hj : i ≠ jL + 1) : ∀ h ρ (v : Int), (z_K p l e R s m args below meth c base D dT jL nL Q k n) h (ρ.set i (vI v)) (pc + 2) [] → (z_K p l e R s m args below meth c base D dT jL nL Q k n) h ρ pc [vI v] := by
  intro h ρ v k1 H locs ls hR hL
  obtain ⟨lv, h1, h2, h3⟩ := hL
  refine lv_istore C.1 C.2.1 hdg h1 hn rfl (fun ls' h4 => ?_)
  exact k1 H locs ls' hR (z_lv_set h4 h2 h3 hj (by intro q; cases q) rfl)

theorem z_astore_n (C : z_Cx p l s m args meth c base cc nL own Ts rt tb) {kk : Fin 4} {i : Nat} (hdg : decode cc pc = .ok (.astore_n kk, 1)) (hi : (kk : Nat) = i) (hn : i < nL) (hj : i ≠ jL + 1) : ∀ h ρ (v : Nat), (z_K p l e R s m args below meth c base D dT jL nL Q k n) h (ρ.set i (vR v)) (pc + 1) [] → (z_K p l e R s m args below meth c base D dT jL nL Q k n) h ρ pc [vR v] := by
  intro h ρ v k1 H locs ls hR hL
  obtain ⟨lv, h1, h2, h3⟩ := hL
  refine lv_astore_n C.1 C.2.1 hdg hi h1 hn rfl (fun ls' h4 => ?_)
  exact k1 H locs ls' hR (z_lv_set h4 h2 h3 hj (by intro q; cases q) rfl)

theorem z_astore (C : z_Cx p l s m args meth c base cc nL own Ts rt tb) {i : Nat} (hdg : decode cc pc = .ok (.astore i, 2)) (hn : i < nL) (hj : i ≠ jL + 1) : ∀ h ρ (v : Nat), (z_K p l e R s m args below meth c base D dT jL nL Q k n) h (ρ.set i (vR v)) (pc + 2) [] → (z_K p l e R s m args below meth c base D dT jL nL Q k n) h ρ pc [vR v] := by
  intro h ρ v k1 H locs ls hR hL
  obtain ⟨lv, h1, h2, h3⟩ := hL
  refine lv_astore C.1 C.2.1 hdg h1 hn rfl (fun ls' h4 => ?_)
  exact k1 H locs ls' hR (z_lv_set h4 h2 h3 hj (by intro q; cases q) rfl)

end ZR
