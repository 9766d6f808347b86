/-! THE MACHINE'S SIDE: what a value, a cell, a heap of part 04 is in the machine; the rows that carry each instruction -/
/-- where a world lies: each cell's address, the part of the heap that is its own, the script's cell and ints -/
abbrev z_B : Type := {b : (Nat → Nat) × (Nat → Prop) × Nat × (List Int) // (∀ i j, b.1 i = b.1 j → i = j) ∧ (∀ i, b.2.1 (b.1 i)) ∧ ¬ b.2.1 b.2.2.1}
def z_ad (base : z_B) (i : Nat) : Nat := base.1.1 i
def z_A (base : z_B) : Nat → Prop := base.1.2.1
def z_sa (base : z_B) : Nat := base.1.2.2.1
def z_sc (base : z_B) : List Int := base.1.2.2.2
theorem z_ad_inj {base : z_B} {i j : Nat} (h : z_ad base i = z_ad base j) : i = j := base.2.1 i j h
theorem z_ad_A (base : z_B) (i : Nat) : z_A base (z_ad base i) := base.2.2.1 i
theorem z_sa_A (base : z_B) : ¬ z_A base (z_sa base) := base.2.2.2
/-- all that lies from n on is the world's own -/
def z_ge (base : z_B) (n : Nat) : Prop := ∀ q : Nat, n ≤ q → z_A base q
theorem z_ge.le {base : z_B} {n m : Nat} (h : z_ge base n) (hm : n ≤ m) : z_ge base m := fun q hq => h q (Nat.le_trans hm hq)
def z_kV (base : z_B) : z_V → Value
  | .inl n => .int (Int32.ofInt n)
  | .inr (.inl n) => .long (Int64.ofInt n)
  | .inr (.inr (.inl r)) => .ref (z_ad base r)
  | .inr (.inr (.inr false)) => .null
  | .inr (.inr (.inr true)) => .ref (z_sa base)
def z_kA (base : z_B) (t : Nat) (f : Nat → Int) : (Nat → Int32) ⊕ (Nat → Int64) ⊕ (Nat → UInt32) ⊕ (Nat → UInt64) ⊕ (Nat → Option Nat) := match t with
  | 0 => .inl (fun j => Int32.ofInt (f j))
  | 1 => .inr (.inl (fun j => Int64.ofInt (f j)))
  | _ => .inr (.inr (.inr (.inr (fun j => if f j < 0 then none else some (z_ad base (f j).toNat)))))
def z_kC (base : z_B) (dT : Nat → ClassId) : z_Cl → va_E
  | .inl (ci, fs) => .inr (ci, fs.map (z_kV base))
  | .inr (t, n, f) => .inl (dT t, n, z_kA base t f)
def z_kW (base : z_B) (dT : Nat → ClassId) (h : z_Hp) : va_W := h.mapIdx fun i x => (z_ad base i, z_kC base dT x)
def z_tys (dT : Nat → ClassId) : List (ClassId × FieldType) := [(dT 0, .int), (dT 1, .int), (dT 2, .object "Amoebary$Matrix"), (dT 3, .object "Amoebary$Polynomial"), (dT 4, .array .int)]
theorem z_kW_get {base : z_B} {dT : Nat → ClassId} {h : z_Hp} {i : Nat} {x : z_Cl} (hx : h[i]? = some x) : (z_kW base dT h)[i]? = some (z_ad base i, z_kC base dT x) := by
  simp [z_kW, List.getElem?_mapIdx, hx]
theorem z_kW_set {base : z_B} {dT : Nat → ClassId} {h : z_Hp} {i : Nat} {x : z_Cl} : (z_kW base dT h).set i (z_ad base i, z_kC base dT x) = z_kW base dT (h.set i x) := by
  apply List.ext_getElem?
  intro j
  simp only [z_kW, List.getElem?_set, List.getElem?_mapIdx, List.length_mapIdx]
  by_cases e : i = j
  · subst e
    by_cases hl : i < h.length <;> simp [hl]
  · simp [e]
theorem z_kW_D {base : z_B} {dT : Nat → ClassId} {h : z_Hp} : va_D (z_A base) (z_kW base dT h) := by
  have key : ∀ (i : Nat) (p : Nat × va_E), (z_kW base dT h)[i]? = some p → p.1 = z_ad base i := by
    intro i p hp
    simp only [z_kW, List.getElem?_mapIdx] at hp
    cases hq : h[i]? with
    | none => rw [hq] at hp; cases hp
    | some x => rw [hq] at hp; cases hp; rfl
  refine ⟨fun i j p q hi hj e => ?_, fun k q hk => ?_⟩
  · rw [key i p hi, key j q hj] at e
    exact z_ad_inj e
  · rw [key k q hk]
    exact z_ad_A base k
/-- the words that no list of words holds: links to private members of the nest, casts of an exception to itself -/
def z_xw : List Cond := [
  .fieldLinkNest "Amoebary" 100 "Amoebary$Fraction" "below" "I" "Amoebary", .fieldLinkNest "Amoebary" 141 "Amoebary$Matrix" "rows" "I" "Amoebary", .fieldLinkNest "Amoebary" 150 "Amoebary$Matrix" "entries" "[[I" "Amoebary",
  .fieldLinkNest "Amoebary" 229 "Amoebary$Net" "between" "[[I" "Amoebary", .fieldLinkNest "Amoebary" 232 "Amoebary$Net" "chips" "[I" "Amoebary", .fieldLinkNest "Amoebary" 75 "Amoebary$Polynomial" "coefficients" "[I" "Amoebary",
  .fieldLinkNest "Amoebary" 96 "Amoebary$Fraction" "above" "I" "Amoebary", .fieldLinkNest "Amoebary$Choices" 22 "Amoebary$Matrix" "rows" "I" "Amoebary", .fieldLinkNest "Amoebary$Choices" 29 "Amoebary$Matrix" "entries" "[[I" "Amoebary",
  .methodLinkNest "Amoebary" 28 yX3_init "Amoebary", .methodLinkNest "Amoebary" 52 yX1_init "Amoebary", .methodLinkNest "Amoebary" 59 yX0_init "Amoebary",
  .methodLinkNest "Amoebary$Polynomial" 51 yX5_together "Amoebary", .methodLinkNest "Amoebary$Polynomial" 54 yX5_isBeyond "Amoebary", .methodLinkNest "Amoebary$Matrix" 46 yX5_together "Amoebary", .methodLinkNest "Amoebary$Matrix" 42 yX5_isBeyond "Amoebary",
  .methodLinkNest "Amoebary$Choices" 43 yX5_together "Amoebary", .methodLinkNest "Amoebary$Net" 53 yX5_isBeyond "Amoebary",
  .castable "java/lang/IllegalArgumentException" "java/lang/IllegalArgumentException", .castable "java/lang/IllegalStateException" "java/lang/IllegalStateException", .castable "java/lang/IndexOutOfBoundsException" "java/lang/IndexOutOfBoundsException",
  .declares (Bundle.initS "java/lang/RuntimeException"), .declares (Bundle.initS "java/lang/Exception"), .declares (Bundle.initS Bundle.tN)]
theorem z_xw_tab : ∀ w ∈ z_xw, w.onTables = true := by decide +kernel
theorem z_xw_warm {s U : State} (hW : s.WarmedH U.vm) (h : ∀ w ∈ z_xw, va_Nw w s) : ∀ w ∈ z_xw, va_Nw w U := by
  intro w hw
  have h1 := h w hw
  simp only [z_xw, List.mem_cons, List.not_mem_nil, or_false] at hw
  rcases hw with rfl | rfl | rfl | rfl | rfl | rfl | rfl | rfl | rfl | rfl | rfl | rfl | rfl | rfl | rfl | rfl | rfl | rfl | rfl | rfl | rfl | rfl | rfl | rfl
  all_goals first | exact va_Nw.warmF hW h1 | exact va_Nw.warmM hW h1 | exact va_Nw.warmC hW h1 | exact va_Nw.warmD hW h1
/-- the texts of the exceptions -/
def z_strs : List (String × Nat × String) := [("Amoebary", 296, "there is no such one"), ("Amoebary", 299, "an argument is out of range"), ("Amoebary", 127, "a coefficient above 8 would be a number"), ("Amoebary", 139, "a coefficient would be out of range"), ("Amoebary", 153, "both have not as many rows"),
  ("Amoebary", 314, "an entry would be out of range"), ("Amoebary", 170, "a way from a row to itself is below 0"), ("Amoebary", 186, "a part that matters is INFINITE"), ("Amoebary", 307, "a part would be out of range"), ("Amoebary", 209, "an entry or a part that matters is INFINITE"), ("Amoebary", 226, "both are one"),
  ("Amoebary", 249, "a vertex would have too few or too many chips"), ("Amoebary", 254, "a vertex is not of the graph"), ("Amoebary", 309, "the graph is not connected"), ("Amoebary", 311, "the degree is too high")]
def z_ncs (U : State) : Prop := va_Nc "java/lang/IllegalArgumentException" "java/lang/IndexOutOfBoundsException" U ∧ va_Nc "java/lang/IllegalStateException" "java/lang/IndexOutOfBoundsException" U
theorem z_ncs.moved {u U : State} (hvm : u.vm.Alike U.vm) (h : z_ncs u) : z_ncs U := ⟨va_Nc.moved hvm h.1, va_Nc.moved hvm h.2⟩
/-- the script lies where it lay -/
def z_scr (base : z_B) (U : State) : Prop := va_X (z_sa base) (z_sc base).length (fun j => Int32.ofInt ((z_sc base).getD j 0)) U U.heap ∧ z_sa base < U.heap.size
/-- what stays as it is of the start: two statics of Throwable, those words, those texts -/
def z_sw (base : z_B) (U : State) : Prop := vx_Zq Bundle.tN "UNASSIGNED_STACK" Bundle.steD (z_A base) U U.heap ∧ vx_Zq Bundle.tN "SUPPRESSED_SENTINEL" Bundle.listD (z_A base) U U.heap ∧ (∀ w ∈ z_xw, va_Nw w U) ∧ (∀ q ∈ z_strs, ∃ sa, vk_R q.1 q.2.1 q.2.2 sa U) ∧ z_ncs U ∧ z_scr base U
theorem z_scr.to {base : z_B} {s U : State} (hW : s.WarmedH U.vm) (hz : s.heap.size ≤ U.heap.size) (hq : ∀ a : Nat, a < s.heap.size → ¬ z_A base a → U.heap[a]? = s.heap[a]?) (h : z_scr base s) : z_scr base U :=
  ⟨va_X.kept (va_X.moved hW.alike h.1) (hq _ h.2 (z_sa_A base)), Nat.lt_of_lt_of_le h.2 hz⟩
theorem z_sw.to {base : z_B} {s U : State} (hW : s.WarmedH U.vm) (hz : s.heap.size ≤ U.heap.size) (hq : ∀ a : Nat, a < s.heap.size → ¬ z_A base a → U.heap[a]? = s.heap[a]?) (h : z_sw base s) : z_sw base U :=
  ⟨vx_Zq.kept (vx_Zq.moved hW.alike h.1) hq, vx_Zq.kept (vx_Zq.moved hW.alike h.2.1) hq, z_xw_warm hW h.2.2.1, (fun q hm => by obtain ⟨sa, h1⟩ := h.2.2.2.1 q hm; exact ⟨sa, vk_R.warm hW h1⟩), z_ncs.moved hW.alike h.2.2.2.2.1, z_scr.to hW hz hq h.2.2.2.2.2⟩
/-- a state in which the world is h -/
def z_U (base : z_B) (D : va_G) (dT : Nat → ClassId) (fr : Bool) (h : z_Hp) (U : State) : Prop := va_P D vwCl (z_kW base dT h) U.heap ∧ va_K D vwCl (z_tys dT) U ∧ z_ge base U.heap.size ∧ (fr = true → U.heap.size = z_ad base h.length) ∧ z_sw base U
def z_mc (mc : Nat) (o : Option z_V ⊕ String) : Nat := match o with
  | .inl _ => mc
  | .inr _ => 1
def z_ms (ms : Nat) (o : Option z_V ⊕ String) : Nat := match o with
  | .inl _ => ms
  | .inr _ => 6
def z_R (F L mc ms : Nat) (o : Option z_V ⊕ String) : Room := { frames := F, cells := z_mc mc o, slots := z_ms ms o, locals := L }
def z_Q (base : z_B) (D : va_G) (dT : Nat → ClassId) (o : Option z_V ⊕ String) (hf : z_Hp) : Array Value → State → Outcome → State → Prop := fun _ st oc t => (∃ r, o = .inl r ∧ oc = .returned (r.map (z_kV base))) ∧ va_P D vwCl (z_kW base dT hf) t.heap ∧ va_F (z_A base) st t
def z_X (base : z_B) (D : va_G) (dT : Nat → ClassId) (o : Option z_V ⊕ String) (hf : z_Hp) : String → State → State → Prop := fun E st t => o = .inr E ∧ va_P D vwCl (z_kW base dT hf) t.heap ∧ va_F (z_A base) st t
/-- A METHOD DOES WHAT f SAYS: wherever f has an outcome, the method comes to it (F frames, L words of locals, mc cells of ms slots at most) -/
def z_CT (l : Launch) (y : MethodName) (ws : List Cond) (nA F L mc ms : Nat) (fr : Bool) (f : z_Mt) : Prop :=
  ∀ (base : z_B) (D : va_G) (dT : Nat → ClassId) (As : List z_V) (h : z_Hp) (o : Option z_V ⊕ String) (hf : z_Hp), As.length = nA → z_wt As = nA → f As h = some (o, hf) →
    vx_Met l y ws (z_R F L mc ms o) (va_Pc (As.map (z_kV base)) (z_U base D dT fr h)) (z_Q base D dT o hf) (z_X base D dT o hf) (z_mc mc o) (z_ms ms o) (z_A base)
theorem z_U_blind {base : z_B} {D : va_G} {dT : Nat → ClassId} {fr : Bool} {h : z_Hp} {av : List Value} : FrameBlind (va_Pc av (z_U base D dT fr h)) := by
  intro a U g mk q
  obtain ⟨q0, q1, q2, q3, q4, q5⟩ := q
  exact ⟨q0, q1, va_K.moved (u := U) (U := U.calling g mk a) (Vm.Alike.refl U.vm) q2, q3, q4, z_sw.to (s := U) (U := U.calling g mk a) (State.WarmedH.refl U) (Nat.le_refl _) (fun _ _ _ => rfl) q5⟩
/-- the method's own constants: the machine, the code, its words, its table of exceptions, what stays of the start -/
def z_Cx (p : Program) (l : Launch) (s : State) (m : MethodId) (args : Array Value) (meth : Method) (c : Code) (base : z_B) (cc : ByteArray) (nL : Nat) (own : String) (Ts : List Cond) (rt : Option FieldType) (tb : List ExceptionTableEntry) : Prop :=
  p.tables.exec = Jvm.exec ∧ c.code = cc ∧ c.maxLocals = nL ∧ s.vm.findClass own = some m.cls ∧ (∀ w ∈ Ts, w.before args s = true) ∧ meth.locks = false ∧ l.stackTraces = false ∧ z_ge base s.heap.size ∧ z_sw base s ∧ c.exceptionTable.toList = tb ∧ meth.sig.returnType = rt
def z_Rl (base : z_B) (D : va_G) (dT : Nat → ClassId) (s : State) (h : z_Hp) (H : Heap) (locs : List Loc) : Prop := va_P D vwCl (z_kW base dT h) H ∧ va_K D vwCl (z_tys dT) s ∧ va_S (z_A base) s.heap H locs
/-- the locals: jL is the one place that may hold a long -/
def z_lv (base : z_B) (jL nL : Nat) (ls : Array Slot) (ρ : List z_V) : Prop := ∃ lv, lv_has ls nL lv ∧ (∀ q ∈ lv, q.2.category = 1 ∨ q.1 = jL) ∧ ∀ (i : Nat) (v : z_V), ρ[i]? = some v → v ≠ vU → (i, z_kV base v) ∈ lv
theorem z_lv.at {base : z_B} {jL nL : Nat} {ls : Array Slot} {ρ : List z_V} (h : z_lv base jL nL ls ρ) {i : Nat} {v : z_V} (hv : ρ[i]? = some v) (hn : v ≠ vU) : ls[i]? = some (.val (z_kV base v)) := by
  obtain ⟨lv, h1, -, h3⟩ := h
  exact h1.2.2 _ (h3 i v hv hn)
theorem z_lv.sz {base : z_B} {jL nL : Nat} {ls : Array Slot} {ρ : List z_V} (h : z_lv base jL nL ls ρ) : ls.size = nL := by
  obtain ⟨lv, h1, -, -⟩ := h
  exact h1.1
/-- K: from here (the world h, the locals ρ, the operands st) the method comes to Q -/
def z_K (p : Program) (l : Launch) (e : Env) (R : Room) (s : State) (m : MethodId) (args : Array Value) (below : List Frame) (meth : Method) (c : Code) (base : z_B) (D : va_G) (dT : Nat → ClassId) (jL nL : Nat) (Q : State → Prop) (k n : Nat) (h : z_Hp) (ρ : List z_V) (pc : Nat) (st : List z_V) : Prop :=
  ∀ (H : Heap) (locs : List Loc) (ls : Array Slot), z_Rl base D dT s h H locs → z_lv base jL nL ls ρ → W p l e R s m args below meth c H locs k n Q (F0 m pc ls (st.map (z_kV base)))
/-- what a method owes at its end: the outcome o, the world hf -/
def z_Qm (below : List Frame) (base : z_B) (D : va_G) (dT : Nat → ClassId) (o : Option z_V ⊕ String) (hf : z_Hp) (args : Array Value) (s : State) (mc ms : Nat) : State → Prop := vx_MQ below (z_Q base D dT o hf) (z_X base D dT o hf) args s (z_mc mc o) (z_ms ms o) (z_A base)
theorem z_U.rl {base : z_B} {D : va_G} {dT : Nat → ClassId} {fr : Bool} {h : z_Hp} {s : State} (q : z_U base D dT fr h s) : z_Rl base D dT s h s.heap [] := ⟨q.1, q.2.1, va_S.rf⟩
/-- the world, seen by a callee at its start -/
theorem z_Rl.u {base : z_B} {D : va_G} {dT : Nat → ClassId} {fr : Bool} {h : z_Hp} {s U : State} {H : Heap} {locs : List Loc} (q : z_Rl base D dT s h H locs) (hb : z_ge base s.heap.size) (hs : z_sw base s) (hU : U.heap = H) (hW : s.WarmedH U.vm) (hfr : fr = true → H.size = z_ad base h.length) : z_U base D dT fr h U := by
  obtain ⟨q1, q2, q3⟩ := q
  subst hU
  exact ⟨q1, va_K.moved hW.alike q2, hb.le q3.1, hfr, z_sw.to hW q3.1 q3.2.1 hs⟩
-- numbers
theorem z_toInt {x : Int} (h : z_in x = true) : (Int32.ofInt x).toInt = x := by
  simp only [z_in, Bool.and_eq_true, decide_eq_true_eq] at h
  rw [Int32.toInt_ofInt]
  exact Int.bmod_eq_of_le (by simp; omega) (by simp; omega)
theorem z_toIntJ {x : Int} (h : z_inJ x = true) : (Int64.ofInt x).toInt = x := by
  simp only [z_inJ, Bool.and_eq_true, decide_eq_true_eq] at h
  rw [Int64.toInt_ofInt]
  exact Int.bmod_eq_of_le (by simp; omega) (by simp; omega)
theorem z_lt {x y : Int} (h : (z_in x && z_in y) = true) : Int32.ofInt x < Int32.ofInt y ↔ x < y := by
  obtain ⟨h1, h2⟩ := Bool.and_eq_true_iff.mp h
  rw [Int32.lt_iff_toInt_lt, z_toInt h1, z_toInt h2]
theorem z_le {x y : Int} (h : (z_in x && z_in y) = true) : Int32.ofInt x ≤ Int32.ofInt y ↔ x ≤ y := by
  obtain ⟨h1, h2⟩ := Bool.and_eq_true_iff.mp h
  rw [Int32.le_iff_toInt_le, z_toInt h1, z_toInt h2]
theorem z_eq {x y : Int} (h : (z_in x && z_in y) = true) : Int32.ofInt x = Int32.ofInt y ↔ x = y := by
  obtain ⟨h1, h2⟩ := Bool.and_eq_true_iff.mp h
  rw [← Int32.toInt_inj, z_toInt h1, z_toInt h2]
