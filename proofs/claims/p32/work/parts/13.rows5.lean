/-! what the printed walks want besides -/
section ZG
variable {K : z_Hp → List z_V → Nat → List z_V → Prop} {KX : String → z_Hp → Prop} {KR : Option z_V → z_Hp → Prop} {α : Type}
theorem xE_to {w : α → z_V} {d : Nat} {x : z_Ev α} {pc p1 p2 : Nat} (X : xE K KX w d x pc p1) (G : jG K p1 p2) : xE K KX w d x pc p2 := fun ρ h st hd => ⟨fun v h' e k => (X ρ h st hd).1 v h' e (G _ _ _ k), (X ρ h st hd).2⟩
theorem xB_if {d : Nat} {b x y : z_Ev Bool} {pc p1 p2 px pt pf : Nat} (B : xB K KX d b pc p1 p2) (X : xB K KX d x p1 px pf) (G : jG K px pt) (Y : xB K KX d y p2 pt pf) : xB K KX d (eIf b x y) pc pt pf :=
  xB.of fun ρ h st hd r h' e kt kf kx => B.use hd e kx (fun h1 e2 => by
    rw [if_pos rfl] at e2
    match r, e2 with
    | .inl true, e2 => exact (X ρ h1 st hd).1 _ e2 (G _ _ _ (kt rfl))
    | .inl false, e2 => exact (X ρ h1 st hd).2.1 _ e2 (kf rfl)
    | .inr E, e2 => exact (X ρ h1 st hd).2.2 _ _ e2 (kx _ rfl)) (fun h1 e2 => by
    rw [if_neg (by decide)] at e2
    match r, e2 with
    | .inl true, e2 => exact (Y ρ h1 st hd).1 _ e2 (kt rfl)
    | .inl false, e2 => exact (Y ρ h1 st hd).2.1 _ e2 (kf rfl)
    | .inr E, e2 => exact (Y ρ h1 st hd).2.2 _ _ e2 (kx _ rfl))
theorem xS_lp {b : z_Ev Bool} {s u : z_St} {N pc pt ps pu pe pb : Nat} (B : xB K KX 0 b pc pt pe) (S : xS K KX KR s pt ps pe) (U : xS K KX KR u ps pu pb) (G : jG K pu pc) : xS K KX KR (sLoop b s u N) pc pe pb := xS_loop B S U G N
end ZG
theorem z_tsE {offs : Array Int} {ps : Nat → Nat} {pc nC : Nat} (h : (List.range nC).all (fun i => match offs[i]? with | some off => decide ((pc : Int) + off = (ps i : Int)) | none => false) = true) : ∀ i, i < nC → ∃ off, offs[i]? = some off ∧ (pc : Int) + off = (ps i : Int) := by
  intro i hi
  have h1 := List.all_eq_true.mp h i (List.mem_range.mpr hi)
  cases ho : offs[i]? with
  | none => simp [ho] at h1
  | some off =>
    simp only [ho, decide_eq_true_eq] at h1
    exact ⟨off, rfl, h1⟩
section ZH
variable {p : Program} {l : Launch} {e : Env} {s : State} {m : MethodId} {args : Array Value} {below : List Frame} {meth : Method} {c : Code} {base : z_B} {D : va_G} {dT : Nat → ClassId} {R : Room} {Q : State → Prop} {tb : List ExceptionTableEntry} {jL nL F L mc ms k n : Nat} {o : Option z_V ⊕ String} {hf : z_Hp} {cc : ByteArray} {own : String} {Ts : List Cond} {rt : Option FieldType} {pc : Nat} {d : Nat}
theorem z_push (C : z_Cx p l s m args meth c base cc nL own Ts rt tb) {x : Int} (hdg : decode cc pc = .ok (.iconst x, 1)) : ∀ h ρ st, z_K p l e R s m args below meth c base D dT jL nL Q k n h ρ (pc + 1) (vI x :: st) → z_K p l e R s m args below meth c base D dT jL nL Q k n h ρ pc st :=
  fun h ρ st k1 H locs ls hR hL => lv_iconst C.1 C.2.1 hdg rfl (k1 H locs ls hR hL)
theorem z_thrW (C : z_Cx p l s m args meth c base cc nL own Ts rt []) {cls text : String} {ik is ic : Nat} (hcls : Bundle.fit cls = true) (hk1 : Cond.classLink own ik cls ∈ Ts) (hini : Cond.initialized cls ∈ Ts) (hstr : (own, is, text) ∈ z_strs)
    (hat : ∀ w ∈ (vx_atS own ic cls ["java/lang/RuntimeException", "java/lang/Exception"]).filter goodWord, w ∈ Ts) (hat2 : ∀ w ∈ (vx_atS own ic cls ["java/lang/RuntimeException", "java/lang/Exception"]).filter (fun w => !goodWord w), w ∈ z_xw)
    (hgood : ∀ w ∈ Cond.classLink own ik cls :: Cond.initialized cls :: vx_atS own ic cls ["java/lang/RuntimeException", "java/lang/Exception"], vx_ot w = true)
    (d0 : decode cc pc = .ok (.new ik, 3)) (d3 : decode cc (pc + 3) = .ok (.dup, 1)) (d4 : decode cc (pc + 4) = .ok (.ldc_w is, 3)) (d6 : decode cc (pc + 7) = .ok (.invokespecial ic, 3)) (d9 : decode cc (pc + 10) = .ok (.athrow, 1)) (hRm : 5 < F ∧ 82 ≤ L) :
    ∀ h ρ, z_KX o hf cls h → z_K p l e (z_R F L mc ms o) s m args below meth c base D dT jL nL (z_Qm below base D dT o hf args s mc ms) 0 0 h ρ pc [] := by
  intro h ρ ⟨ho, hh⟩ H locs ls hR hL
  subst ho
  subst hh
  obtain ⟨sa, hsa⟩ := C.2.2.2.2.2.2.2.2.1.2.2.2.1 _ hstr
  exact vx_throwSW C.1 C.2.1 C.2.2.2.2.2.2.1 C.2.2.2.1 hcls (names := ["java/lang/RuntimeException", "java/lang/Exception"]) (by decide +kernel) (C.2.2.2.2.1 _ hk1) (C.2.2.2.2.1 _ hini) hsa
    (vx_hat (B := z_xw) (fun w hw => C.2.2.2.2.1 _ (hat w hw)) hat2 (fun w hw => va_Nw.use (z_xw_tab w hw) (C.2.2.2.2.2.2.2.2.1.2.2.1 w hw))) hgood C.2.2.2.2.2.2.2.2.1.1 C.2.2.2.2.2.2.2.2.1.2.1 hR.2.2 ((z_lv.sz hL).trans C.2.2.1.symm) d0 d3 d4 d6 d9
    (fun x hx => (by rw [C.2.2.2.2.2.2.2.2.2.1] at hx; cases hx)) hRm.1 (by show (([] : List Value).map fun v => v.category).sum + _ ≤ L; simp; omega) (Nat.le_refl 1) (Nat.le_refl 6) C.2.2.2.2.2.1
    (fun t hvm hz hq => ⟨rfl, va_P.kept hR.1 (fun kx x hx => hq x.1 ((hR.1 kx x hx).lt)), ⟨Nat.le_trans hR.2.2.1 hz, fun q h1 h2 => (hq q (Nat.lt_of_lt_of_le h1 hR.2.2.1)).trans (hR.2.2.2.1 q h1 h2)⟩⟩) hR.2.2.2.2 (Nat.le_refl 1) (Nat.le_refl 6)
end ZH
theorem v_129 : (∀ w ∈ (vx_atS RX5 129 "java/lang/IllegalStateException" ["java/lang/RuntimeException", "java/lang/Exception"]).filter (fun w => !goodWord w), w ∈ z_xw) ∧ (∀ w ∈ Cond.classLink RX5 125 "java/lang/IllegalStateException" :: Cond.initialized "java/lang/IllegalStateException" :: vx_atS RX5 129 "java/lang/IllegalStateException" ["java/lang/RuntimeException", "java/lang/Exception"], vx_ot w = true) := ⟨by decide +kernel, by decide +kernel⟩
theorem v_228 : (∀ w ∈ (vx_atS RX5 228 "java/lang/IllegalArgumentException" ["java/lang/RuntimeException", "java/lang/Exception"]).filter (fun w => !goodWord w), w ∈ z_xw) ∧ (∀ w ∈ Cond.classLink RX5 224 "java/lang/IllegalArgumentException" :: Cond.initialized "java/lang/IllegalArgumentException" :: vx_atS RX5 228 "java/lang/IllegalArgumentException" ["java/lang/RuntimeException", "java/lang/Exception"], vx_ot w = true) := ⟨by decide +kernel, by decide +kernel⟩
theorem v_298 : (∀ w ∈ (vx_atS RX5 298 "java/lang/IndexOutOfBoundsException" ["java/lang/RuntimeException", "java/lang/Exception"]).filter (fun w => !goodWord w), w ∈ z_xw) ∧ (∀ w ∈ Cond.classLink RX5 294 "java/lang/IndexOutOfBoundsException" :: Cond.initialized "java/lang/IndexOutOfBoundsException" :: vx_atS RX5 298 "java/lang/IndexOutOfBoundsException" ["java/lang/RuntimeException", "java/lang/Exception"], vx_ot w = true) := ⟨by decide +kernel, by decide +kernel⟩
