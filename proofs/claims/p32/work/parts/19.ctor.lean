/-! MAKING objects and arrays: the new cell is the world's next one; constructors -/
theorem vr_outer (c : ClassId) (N h0 : Nat) : ∀ i : Nat, Jvm.Free.Multi.outerC c N h0 i = arrV c N (fun j => va_rf (if j < i then some (h0 + 1 + j) else none))
  | 0 => by
    show ({ cls := c, slots := Array.replicate N .null, vm := .none } : Cell) = _
    rw [arrV_new]
    refine congrArg (arrV c N) (funext fun j => ?_)
    simp [va_rf]
  | i + 1 => by
    show (Jvm.Free.Multi.outerC c N h0 i).setSlot i (.ref (h0 + 1 + i)) = _
    rw [vr_outer c N h0 i, arrV_store]
    refine congrArg (arrV c N) (funext fun j => ?_)
    by_cases e : j = i
    · subst e
      simp [updV, va_rf]
    · by_cases h : j < i
      · simp [updV, e, h, Nat.lt_succ_of_lt h]
      · simp [updV, e, h, show ¬ j < i + 1 by omega]
/-- a world in a row, from b on; the script lies ahead of it -/
def bs {b sa : Nat} (h : sa < b) (sc : List Int) : z_B := ⟨(fun i => b + i, fun q => b ≤ q, sa, sc), by
  intro i j e
  have e : b + i = b + j := e
  omega, fun i => Nat.le_add_right b i, by
  show ¬ b ≤ sa
  omega⟩
theorem bs_ad {b0 sa0 : Nat} {hb0 : sa0 < b0} {sc0 : List Int} {i : Nat} : z_ad (bs hb0 sc0) i = b0 + i := rfl
/-- arrays over arrays of ints can be made -/
def z_AOA (U : State) : Prop := (Cond.arrayOver (.array .int)).before #[] U = true
theorem z_AOA.moved {u U : State} (hvm : u.vm.Alike U.vm) (h : z_AOA u) : z_AOA U := by
  obtain ⟨comp, c, k, h1, h2, h3, h4, h5⟩ := arrayOverA_spec h
  obtain ⟨k', hk', he⟩ := hvm.2.2 _ _ h3
  have hi : (U.vm.classes.findIdx? fun (x : Class) => match x.kind with | .array component _ => component == comp | _ => false) = some c := by
    refine (va_idx_bare U.vm comp).symm.trans ?_
    first | rw [hvm.bare_eq] | rw [← hvm.bare_eq]
    exact (va_idx_bare u.vm comp).trans h2
  have hkind : k'.kind = .array comp (.array .int) := by rw [he]; exact h4
  have f1 : U.vm.findClass (FieldType.array .int).toString = some comp := by rw [hvm.findClass]; exact h1
  have f2 : U.vm.findClass ("[" ++ (FieldType.array .int).toString) = some c := by rw [hvm.findClass]; exact h5
  unfold z_AOA Cond.before Cond.holds
  simp only [Cond.value]
  rw [f1, Option.bind_some]
  refine (congrArg (fun o : Option Nat => (o.bind (fun c => (U.vm.classes[c]?).map fun (k : Class) => match k.kind with | .array _ ty => decide (ty = FieldType.array .int) && decide (U.vm.findClass ("[" ++ (FieldType.array .int).toString) = some c) | _ => false) == some true)) hi).trans ?_
  simp [hk', hkind, f2]
def z_ao (U : State) : Prop := va_AO "Amoebary$Matrix" U ∧ va_AO "Amoebary$Polynomial" U ∧ z_AOA U
theorem z_ao.moved {u U : State} (hvm : u.vm.Alike U.vm) (h : z_ao u) : z_ao U := ⟨va_AO.moved hvm h.1, va_AO.moved hvm h.2.1, z_AOA.moved hvm h.2.2⟩
theorem z_kW_app {b0 sa0 : Nat} {hb0 : sa0 < b0} {sc0 : List Int} {dT : Nat → ClassId} {h : z_Hp} {x : z_Cl} : z_kW (bs hb0 sc0) dT (h ++ [x]) = z_kW (bs hb0 sc0) dT h ++ [(b0 + h.length, z_kC (bs hb0 sc0) dT x)] := by
  simp [z_kW, List.mapIdx_concat, bs_ad]
section ZK
variable {p : Program} {l : Launch} {e : Env} {s : State} {m : MethodId} {args : Array Value} {below : List Frame} {meth : Method} {c : Code} {b0 sa0 : Nat} {hb0 : sa0 < b0} {sc0 : List Int} {D : va_G} {dT : Nat → ClassId} {R : Room} {Q : State → Prop} {tb : List ExceptionTableEntry} {jL nL F L mc ms k n : Nat} {o : Option z_V ⊕ String} {hf : z_Hp} {cc : ByteArray} {own : String} {Ts : List Cond} {rt : Option FieldType} {pc : Nat} {d : Nat}
theorem z_low {h : z_Hp} {H : Heap} {locs : List Loc} (hb : z_ge (bs hb0 sc0) s.heap.size) (hR : z_Rl (bs hb0 sc0) D dT s h H locs) : b0 + h.length ≤ H.size := by
  have hb : b0 ≤ s.heap.size := hb _ (Nat.le_refl _)
  rcases Nat.eq_zero_or_pos h.length with h0 | h0
  · rw [h0]; exact Nat.le_trans hb hR.2.2.1
  · have hx : h[h.length - 1]? = some (h[h.length - 1]'(by omega)) := List.getElem?_eq_getElem (by omega)
    have := (hR.1 _ _ (z_kW_get (base := (bs hb0 sc0)) (dT := dT) hx)).lt
    have e1 : z_ad (bs hb0 sc0) (h.length - 1) = b0 + (h.length - 1) := rfl
    omega
theorem z_top {h : z_Hp} {H : Heap} {locs : List Loc} (hb : z_ge (bs hb0 sc0) s.heap.size) (hfr : s.heap.size + k = b0 + h.length) (hR : z_Rl (bs hb0 sc0) D dT s h H locs) {T : State} (hT : T.heap = H) (X : Stand p l e R s m args below meth c T locs k n) : H.size = b0 + h.length := by
  have h1 := X.heapSize
  rw [hT] at h1
  have h2 := z_low hb hR
  omega
theorem z_Rl_push {h : z_Hp} {H H1 : Heap} {locs : List Loc} {x : z_Cl} (hR : z_Rl (bs hb0 sc0) D dT s h H locs) (hsz : H.size = b0 + h.length) (z1 : H.size ≤ H1.size) (o1 : ∀ q, q < b0 + h.length → H1[q]? = H[q]?) (hat : va_at D vwCl (b0 + h.length, z_kC (bs hb0 sc0) dT x) H1) : z_Rl (bs hb0 sc0) D dT s (h ++ [x]) H1 locs := by
  refine ⟨?_, hR.2.1, ⟨Nat.le_trans hR.2.2.1 z1, fun q h1 h2 => (o1 q (by have := hR.2.2.1; omega)).trans (hR.2.2.2.1 q h1 h2), hR.2.2.2.2⟩⟩
  rw [z_kW_app]
  refine va_P.app (va_P.kept hR.1 (fun i q hq => o1 q.1 (by have := (hR.1 i q hq).lt; omega))) (fun i q hq => ?_)
  have hz : i < 1 := (List.getElem?_eq_some_iff.mp hq).1
  rw [show i = 0 by omega] at hq
  cases hq
  exact hat
theorem zk_newai (C : z_Cx p l s m args meth c (bs hb0 sc0) cc nL own Ts rt tb) {h : z_Hp} {ρ st : List z_V} {N : Nat} (hN : N < 1000) (hfr : s.heap.size + k = b0 + h.length) (hc : k + 1 ≤ R.cells) (hs : n + N ≤ R.slots) (harr : Cond.arrayClass .int ∈ Ts) (hdg : decode cc pc = .ok (.newarray .int, 2))
    (kk : z_K p l e R s m args below meth c (bs hb0 sc0) D dT jL nL Q (k + 1) (n + N) (h ++ [.inr (0, N, fun _ => 0)]) ρ (pc + 2) (vR h.length :: st)) : z_K p l e R s m args below meth c (bs hb0 sc0) D dT jL nL Q k n h ρ pc (vI (N : Int) :: st) := by
  intro H locs ls hR hL
  have key : H.size = b0 + h.length → W p l e R s m args below meth c H locs k n Q (F0 m pc ls ((vI (N : Int) :: st).map (z_kV (bs hb0 sc0)))) := by
    intro hsz
    obtain ⟨g1, g2⟩ := z_clamp0 (x := (N : Int)) (n := N) (by omega) (by omega) (by omega)
    refine va_newaK C.1 C.2.1 (atype := .int) (C.2.2.2.2.1 _ harr) rfl hdg rfl g2 (g1.trans (Int.toNat_natCast N)) (Nat.le_trans (Nat.mul_le_mul_right _ (Nat.le_of_lt hN)) (Nat.le_of_ble_eq_true rfl)) hc hs hsz (fun H1 cA e1 z1 o1 hAr hNm => ?_)
    have hcA : cA = dT 0 := Option.some.inj (hNm.symm.trans ((hR.2.1.2 0 _ rfl).2))
    subst hcA
    exact kk H1 locs ls (z_Rl_push hR hsz (by omega) o1 e1) hL
  exact fun T hT X => key (z_top C.2.2.2.2.2.2.2.1 hfr hR hT X) T hT X
theorem zk_anew (C : z_Cx p l s m args meth c (bs hb0 sc0) cc nL own Ts rt tb) {h : z_Hp} {ρ st : List z_V} {N t ix : Nat} {CC : String} (ht : (z_tys dT)[t + 2]? = some (dT (t + 2), .object CC)) (hao : va_AO CC s) (hN : N < 1000) (hfr : s.heap.size + k = b0 + h.length) (hc : k + 1 ≤ R.cells) (hs : n + N ≤ R.slots) (hlink : Cond.classLink own ix CC ∈ Ts) (hdg : decode cc pc = .ok (.anewarray ix, 3))
    (kk : z_K p l e R s m args below meth c (bs hb0 sc0) D dT jL nL Q (k + 1) (n + N) (h ++ [.inr (t + 2, N, fun _ => -1)]) ρ (pc + 3) (vR h.length :: st)) : z_K p l e R s m args below meth c (bs hb0 sc0) D dT jL nL Q k n h ρ pc (vI (N : Int) :: st) := by
  intro H locs ls hR hL
  have key : H.size = b0 + h.length → W p l e R s m args below meth c H locs k n Q (F0 m pc ls ((vI (N : Int) :: st).map (z_kV (bs hb0 sc0)))) := by
    intro hsz
    obtain ⟨g1, g2⟩ := z_clamp0 (x := (N : Int)) (n := N) (by omega) (by omega) (by omega)
    have g3 : (Int32.ofInt (N : Int)).toNatClampNeg = N := by rw [g1]; simp
    refine W.anew C.1 C.2.1 C.2.2.2.1 (C.2.2.2.2.1 _ hlink) hao.use rfl hdg rfl g2 (by rw [g3]; omega) hc (by rw [g3]; exact hs) (fun cA kA comp e1 e2 e3 e4 => ?_)
    obtain ⟨_, _, _, _, _, hNm⟩ := (hR.2.1.2 _ _ ht).2
    have hcA : cA = dT (t + 2) := Option.some.inj (e1.symm.trans hNm)
    subst hcA
    rw [g3, hsz]
    refine kk _ locs ls (z_Rl_push hR hsz (by simp) (fun q hq => ?_) ?_) hL
    · rw [Array.getElem?_push, if_neg (by omega)]
    · show (H.push _)[b0 + h.length]? = some (vp_cell (dT (t + 2)) (N, .inr (.inr (.inr (.inr (fun j => if (-1 : Int) < 0 then none else some (b0 + (-1 : Int).toNat)))))))
      rw [Array.getElem?_push, if_pos hsz.symm, vp_cell_q, arrV_new]
      rfl
  exact fun T hT X => key (z_top C.2.2.2.2.2.2.2.1 hfr hR hT X) T hT X
theorem zk_new (C : z_Cx p l s m args meth c (bs hb0 sc0) cc nL own Ts rt tb) {h : z_Hp} {ρ st : List z_V} {N ci ix : Nat} {CC : String} {TT : u_T} {fs : List z_V} (hin : ∀ w ∈ u_ws CC TT N, w ∈ Ts) (ty0 : Nat → FieldType) (hty : ∀ k, k < N → parseFieldDescriptor (TT k).2.2.1 = some (ty0 k)) (hcl : vwCl[ci]? = some (CC, TT, N)) (hfs : ∀ j, j < N → defaultValue (ty0 j) = vp_V (fs.map (z_kV (bs hb0 sc0))) j)
    (hfr : s.heap.size + k = b0 + h.length) (hc : k + 1 ≤ R.cells) (hs : n + N ≤ R.slots) (hlink : Cond.classLink own ix CC ∈ Ts) (hins : Cond.instantiable CC N ∈ Ts) (hini : Cond.initialized CC ∈ Ts) (hdg : decode cc pc = .ok (.new ix, 3))
    (kk : z_K p l e R s m args below meth c (bs hb0 sc0) D dT jL nL Q (k + 1) (n + N) (h ++ [.inl (ci, fs)]) ρ (pc + 3) (vR h.length :: st)) : z_K p l e R s m args below meth c (bs hb0 sc0) D dT jL nL Q k n h ρ pc st := by
  intro H locs ls hR hL
  have key : H.size = b0 + h.length → W p l e R s m args below meth c H locs k n Q (F0 m pc ls (st.map (z_kV (bs hb0 sc0)))) := by
    intro hsz
    have hKn := hR.2.1.1 ci _ hcl
    refine W.newcK C.1 C.2.1 C.2.2.2.1 (C.2.2.2.2.1 _ hlink) (C.2.2.2.2.1 _ hins) (C.2.2.2.2.1 _ hini) rfl hdg hc hs hKn.2.1 hsz (fun H1 kC hkC e1 z1 o1 => ?_)
    exact kk H1 locs ls (z_Rl_push hR hsz (by omega) o1 ⟨_, hcl, (u_born ty0 C.2.2.2.2.1 hin hKn hkC e1 hty).to hfs⟩) hL
  exact fun T hT X => key (z_top C.2.2.2.2.2.2.2.1 hfr hR hT X) T hT X
theorem z_kW_app2 {h a : z_Hp} : z_kW (bs hb0 sc0) dT (h ++ a) = z_kW (bs hb0 sc0) dT h ++ a.mapIdx (fun i x => (b0 + (h.length + i), z_kC (bs hb0 sc0) dT x)) := by
  unfold z_kW
  rw [List.mapIdx_append]
  congr 1
  apply List.ext_getElem?
  intro i
  simp only [List.getElem?_mapIdx]
  congr 1
  funext x
  rw [show i + h.length = h.length + i by omega]
  rfl
theorem zk_multi (C : z_Cx p l s m args meth c (bs hb0 sc0) cc nL own Ts rt tb) {h : z_Hp} {ρ st : List z_V} {N M ix : Nat} (hao : z_AOA s) (hN : N < 1000) (hM : M < 1000) (hfr : s.heap.size + k = b0 + h.length) (hc : k + (1 + N) ≤ R.cells) (hs : n + (N + N * M) ≤ R.slots) (hlink : Cond.classLink own ix "[[I" ∈ Ts) (harr : Cond.arrayClass .int ∈ Ts) (hdg : decode cc pc = .ok (.multianewarray ix 2, 4))
    (kk : z_K p l e R s m args below meth c (bs hb0 sc0) D dT jL nL Q (k + 1 + N) (n + N + N * M) (h ++ (.inr (4, N, fun i => if i < N then ((h.length + 1 + i : Nat) : Int) else -1) :: List.replicate N (.inr (0, M, fun _ => 0)))) ρ (pc + 4) (vR h.length :: st)) : z_K p l e R s m args below meth c (bs hb0 sc0) D dT jL nL Q k n h ρ pc (vI (M : Int) :: vI (N : Int) :: st) := by
  intro H locs ls hR hL T hT X
  have hsz := z_top C.2.2.2.2.2.2.2.1 hfr hR hT X
  obtain ⟨g1, g2⟩ := z_clamp0 (x := (N : Int)) (n := N) (by omega) (by omega) (by omega)
  obtain ⟨g3, g4⟩ := z_clamp0 (x := (M : Int)) (n := M) (by omega) (by omega) (by omega)
  have g1 : (Int32.ofInt (N : Int)).toNatClampNeg = N := by rw [g1]; simp
  have g3 : (Int32.ofInt (M : Int)).toNatClampNeg = M := by rw [g3]; simp
  obtain ⟨vm₁, cA, comp, -, fA, fC, hO, -, X', step⟩ := X.multianewarray2F C.1 (ty := .int) C.2.2.2.1 (C.2.2.2.2.1 _ hlink) hao (C.2.2.2.2.1 _ harr) (g := F0 m pc ls (.int (Int32.ofInt (M : Int)) :: .int (Int32.ofInt (N : Int)) :: st.map (z_kV (bs hb0 sc0)))) rfl (by rw [C.2.1]; exact hdg) rfl g2 g4 (by rw [g1]; omega) (by rw [g3]; show M * 4 ≤ _; omega) (by rw [g3]; omega) rfl rfl (by rw [g1]; exact hc) (by rw [g1, g3]; exact hs)
  rw [g1, g3] at X' step
  have e0 : comp = dT 0 := Option.some.inj (fC.symm.trans ((hR.2.1.2 0 _ rfl).2))
  have e4 : cA = dT 4 := Option.some.inj (fA.symm.trans ((hR.2.1.2 4 _ rfl).2))
  subst e0
  subst e4
  generalize hF : Jvm.Free.Multi.fill (T.setVm vm₁) (dT 4) (dT 0) N M (defaultValue .int) N = Fl at X' step
  have hTh : (T.setVm vm₁).heap = H := hT
  obtain ⟨f1, f2, -, -⟩ := Jvm.Free.Multi.fill_facts (T.setVm vm₁) (dT 4) (dT 0) N M (defaultValue .int) N
  rw [hF, hTh] at f1 f2
  have hold : ∀ x : Nat, x < H.size → Fl.heap[x]? = H[x]? := fun x hx => by
    have := Jvm.Free.Multi.fill_old (T.setVm vm₁) (dT 4) (dT 0) N M (defaultValue .int) (a := x) (by rw [hTh]; exact hx) N
    rw [hF, hTh] at this
    exact this
  have hrow : ∀ j : Nat, j < N → Fl.heap[H.size + 1 + j]? = some (arrV (dT 0) M (fun _ => defaultValue .int)) := fun j hj => by
    have := Jvm.Free.Multi.fill_inner (T.setVm vm₁) (dT 4) (dT 0) N M (defaultValue .int) N j hj
    rw [hF, hTh] at this
    rw [this, ← arrV_new]
    rfl
  rw [vr_outer] at f2
  have hRl : z_Rl (bs hb0 sc0) D dT s (h ++ (.inr (4, N, fun i => if i < N then ((h.length + 1 + i : Nat) : Int) else -1) :: List.replicate N (.inr (0, M, fun _ => 0)))) Fl.heap locs := by
    refine ⟨?_, hR.2.1, ⟨Nat.le_trans hR.2.2.1 (by omega), fun q h1 h2 => (hold q (by have := hR.2.2.1; omega)).trans (hR.2.2.2.1 q h1 h2), hR.2.2.2.2⟩⟩
    rw [z_kW_app2]
    refine va_P.app (va_P.kept hR.1 (fun i q hq => hold q.1 ((hR.1 i q hq).lt))) (fun i q hq => ?_)
    rw [List.getElem?_mapIdx] at hq
    cases i with
    | zero =>
      simp only [List.getElem?_cons_zero, Option.map_some, Option.some.injEq, Nat.add_zero] at hq
      subst hq
      show Fl.heap[b0 + h.length]? = some (vp_cell (dT 4) (N, .inr (.inr (.inr (.inr _)))))
      rw [← hsz, f2, vp_cell_q]
      congr 1
      refine congrArg (arrV (dT 4) N) (funext fun j => ?_)
      by_cases hj : j < N
      · simp only [if_pos hj]
        rw [if_neg (show ¬ (((h.length + 1 + j : Nat) : Int) < 0) by omega), Int.toNat_natCast, hsz]
        simp only [va_rf, bs_ad, Nat.add_assoc]
      · simp only [if_neg hj]
        rfl
    | succ i =>
      simp only [List.getElem?_cons_succ, List.getElem?_replicate] at hq
      split at hq
      · next hi =>
        simp only [Option.map_some, Option.some.injEq] at hq
        subst hq
        show Fl.heap[b0 + (h.length + (i + 1))]? = some (arrV (dT 0) M (fun j => .int (Int32.ofInt 0)))
        rw [show b0 + (h.length + (i + 1)) = H.size + 1 + i by omega]
        exact hrow i hi
      · cases hq
  obtain ⟨t, a1, b1⟩ := kk Fl.heap locs ls hRl hL Fl rfl X'
  refine ⟨t, step t ?_, b1⟩
  rw [hT, hsz]
  exact a1
theorem zk_putR (C : z_Cx p l s m args meth c (bs hb0 sc0) cc nL own Ts rt tb) {h : z_Hp} {ρ st : List z_V} {CC ref : String} {TT : u_T} {N ix ci r v : Nat} {fs : List z_V} (kf : Nat) (hin : ∀ w ∈ u_ws CC TT N, w ∈ Ts) (ty0 : Nat → FieldType) (hty : ∀ k, k < N → parseFieldDescriptor (TT k).2.2.1 = some (ty0 k)) (hnm : ∀ a, a < N → ∀ b, b < N → a ≠ b → (TT a).2.1 ≠ (TT b).2.1) (hc : vwCl[ci]? = some (CC, TT, N)) (hk : kf < N) (hlink : Cond.fieldLink own ix ref (TT kf).2.1 (TT kf).2.2.1 ∈ Ts) (href : ref = (TT kf).1) (hfin : (TT kf).2.2.2 = true) (hin2 : meth.name = "<init>") (hdecl : (TT kf).1 = own)
    {ty : FieldType} (hd : parseFieldDescriptor (TT kf).2.2.1 = some ty) (hn : ∀ a, narrow ty (.ref a) = .ref a) (hfit : ∀ a, fits ty (.ref a) = true) (ho : h[r]? = some (.inl (ci, fs))) (hl : kf < fs.length) (hdg : decode cc pc = .ok (.putfield ix, 3))
    (kk : z_K p l e R s m args below meth c (bs hb0 sc0) D dT jL nL Q k n (h.set r (.inl (ci, fs.set kf (vR v)))) ρ (pc + 3) st) : z_K p l e R s m args below meth c (bs hb0 sc0) D dT jL nL Q k n h ρ pc (vR v :: vR r :: st) := by
  intro H locs ls hR hL
  refine va_putF (fs := fs.map (z_kV (bs hb0 sc0))) (ty := ty) (v := .ref (b0 + v)) C.1 C.2.1 C.2.2.2.2.1 hin ty0 hty hnm C.2.2.2.1 hR.2.1 hR.1 z_kW_D hR.2.2 r (z_kW_get ho) hc kf hk (C.2.2.2.2.1 _ hlink) (fun x hx => by rw [href]; exact hx) hfin hin2 hdecl hd (hn _) (hfit _) (by rw [List.length_map]; exact hl) hdg (fun H1 locs1 hP _ hS => ?_)
  refine kk H1 locs1 ls ⟨?_, hR.2.1, hS⟩ hL
  rw [← z_kW_set]
  show va_P D vwCl ((z_kW (bs hb0 sc0) dT h).set r (b0 + r, .inr (ci, (fs.set kf (vR v)).map (z_kV (bs hb0 sc0))))) H1
  rw [List.map_set]
  exact hP
theorem zk_aast (C : z_Cx p l s m args meth c (bs hb0 sc0) cc nL own Ts rt tb) {h : z_Hp} {ρ st : List z_V} {t r v n' ci : Nat} {j : Int} {f : Nat → Int} {q : vw_C} {vs : List z_V} (ht : (z_tys dT)[t + 2]? = some (dT (t + 2), .object q.1)) (ha : h[r]? = some (.inr (t + 2, n', f))) (hn : n' < 2147483648) (h0 : 0 ≤ j) (h1 : j < (n' : Int)) (hv : h[v]? = some (.inl (ci, vs))) (hc : vwCl[ci]? = some q) (hdg : decode cc pc = .ok (.aastore, 1))
    (kk : z_K p l e R s m args below meth c (bs hb0 sc0) D dT jL nL Q k n (h.set r (.inr (t + 2, n', z_up f j.toNat (v : Int)))) ρ (pc + 1) st) : z_K p l e R s m args below meth c (bs hb0 sc0) D dT jL nL Q k n h ρ pc (vR v :: vI j :: vR r :: st) := by
  intro H locs ls hR hL
  obtain ⟨c1, c2⟩ := z_clamp h0 h1 hn
  refine va_astq C.1 C.2.1 hR.2.1 hR.1 z_kW_D hR.2.2 r (t + 2) v ci (cA := dT (t + 2)) (n := n') (v := b0 + v) (vs := vs.map (z_kV (bs hb0 sc0))) (f := fun i => if f i < 0 then none else some (b0 + (f i).toNat)) (z_kW_get ha) ht (z_kW_get hv) hc c2 hdg (fun H1 locs1 hP _ hS => ?_)
  refine kk H1 locs1 ls ⟨?_, hR.2.1, hS⟩ hL
  have hu : va_up (fun i => if f i < 0 then none else some (b0 + (f i).toNat)) j.toNat (some (b0 + v)) = fun i => if z_up f j.toNat (v : Int) i < 0 then none else some (b0 + (z_up f j.toNat (v : Int) i).toNat) := by
    funext i
    unfold va_up z_up
    by_cases hi : i = j.toNat
    · simp [hi]
    · simp [hi]
  rw [c1, hu] at hP
  rw [← z_kW_set]
  exact hP
theorem zk_obj (C : z_Cx p l s m args meth c (bs hb0 sc0) cc nL own Ts rt tb) {h : z_Hp} {ρ st : List z_V} {r ix : Nat} (hlink : Cond.methodLink own ix Lib.objectInit ∈ Ts) (hinst : Cond.instanceMethod Lib.objectInit ∈ Ts) (hcode : Cond.code Lib.objectInit ⟨#[0xb1]⟩ 1 none ∈ Ts) (hst : z_wt st ≤ 8) (hRm : 1 ≤ R.frames ∧ 20 ≤ R.locals) (hdg : decode cc pc = .ok (.invokespecial ix, 3))
    (kk : z_K p l e R s m args below meth c (bs hb0 sc0) D dT jL nL Q k n h ρ (pc + 3) st) : z_K p l e R s m args below meth c (bs hb0 sc0) D dT jL nL Q k n h ρ pc (vR r :: st) := by
  intro H locs ls hR hL
  exact W.objInit C.1 C.2.1 C.2.2.2.1 (C.2.2.2.2.1 _ hlink) (C.2.2.2.2.1 _ hinst) (C.2.2.2.2.1 _ hcode) rfl ((z_lv.sz hL).trans C.2.2.1.symm) rfl hdg hRm.1 (by rw [z_cat_sum]; show 2 * 0 + z_wt st + 12 ≤ _; omega) (kk H locs ls hR hL)
/-- a constructor's contract: its start is a world whose last cell is the heap's -/
def z_CTC (l : Launch) (y : MethodName) (ws : List Cond) (F L mc ms : Nat) (f : z_Hp → Nat → Option z_Hp) : Prop :=
  ∀ (b0 sa0 : Nat) (hb0 : sa0 < b0) (sc0 : List Int) (D : va_G) (dT : Nat → ClassId) (r : Nat) (h hf : z_Hp), f h r = some hf →
    vx_Met l y ws (z_R F L mc ms (.inl none)) (va_Pc [.ref (b0 + r)] (fun U => z_U (bs hb0 sc0) D dT true h U ∧ z_ao U)) (z_Q (bs hb0 sc0) D dT (.inl none) hf) (z_X (bs hb0 sc0) D dT (.inl none) hf) mc ms (z_A (bs hb0 sc0))
theorem z_UC_blind {h : z_Hp} {av : List Value} : FrameBlind (va_Pc av (fun U => z_U (bs hb0 sc0) D dT true h U ∧ z_ao U)) := by
  intro a U g mk q
  obtain ⟨q0, q1, q2⟩ := q
  exact ⟨q0, (z_U_blind (av := av) a U g mk ⟨q0, q1⟩).2, z_ao.moved (u := U) (U := U.calling g mk a) (Vm.Alike.refl U.vm) q2⟩
theorem zk_callI (C : z_Cx p l s m args meth c (bs hb0 sc0) cc nL own Ts rt tb) {h hf' : z_Hp} {ρ st : List z_V} {r ix F' L' maxL mc' ms' : Nat} {y : MethodName} {ws ws' : List Cond} {bytes : ByteArray} {f : z_Hp → Nat → Option z_Hp} (hao : z_ao s) (hfr : s.heap.size + k = b0 + h.length) (hM : z_CTC l y ws F' L' mc' ms' f) (hfe : f h r = some hf') (hG : GoodIn Ts ws) (hw : ws = Cond.code y bytes maxL none :: ws') (hini : Cond.initialized y.cls ∈ Ts) (hlk : Cond.methodLink own ix y ∈ Ts) (hins : Cond.instanceMethod y ∈ Ts) (hy1 : y.name = "<init>")
    (hd : y.cls ≠ "java/lang/invoke/MethodHandle" ∧ y.cls ≠ "java/lang/invoke/VarHandle" ∧ (parseMethodDescriptor y.desc).map (fun d => d.parameters.length) = some 0) (hRm : F' + 1 ≤ R.frames ∧ 8 + (maxL + 11) + L' ≤ R.locals) (hc : k + mc' ≤ R.cells ∧ n + ms' ≤ R.slots) (hst : z_wt st ≤ 8) (hdg : decode cc pc = .ok (.invokespecial ix, 3))
    (kk : z_K p l e R s m args below meth c (bs hb0 sc0) D dT jL nL Q (k + mc') (n + ms') hf' ρ (pc + 3) st) : z_K p l e R s m args below meth c (bs hb0 sc0) D dT jL nL Q k n h ρ pc (vR r :: st) := by
  intro H locs ls hR hL T hT X
  have hsz := z_top C.2.2.2.2.2.2.2.1 hfr hR hT X
  exact z_run (mc' := mc') (ms' := ms') (o' := .inl none) hR hL (vx_runI (y := y) (b := b0 + r) (As := []) ⟨C.1, C.2.1, C.2.2.1, C.2.2.2.1, C.2.2.2.2.1⟩ (hM b0 sa0 hb0 sc0 D dT r h hf' hfe) (cwI 0 C.2.2.2.2.1 hG hw rfl rfl (C.2.2.2.2.1 _ hini) (C.2.2.2.2.1 _ hlk) (C.2.2.2.2.1 _ hins) hy1 hd hRm) ⟨z_UC_blind, fun U hU hW => ⟨rfl, hR.u C.2.2.2.2.2.2.2.1 C.2.2.2.2.2.2.2.2.1 hU hW (fun _ => hsz), z_ao.moved hW.alike hao⟩⟩ rfl rfl (z_lv.sz hL) rfl (lv_room (by rw [z_cat_sum]; exact hst)) hdg hc) (fun _ q => by cases q; exact kk) (fun _ q => by cases q) T hT X
theorem zk_callIN (C : z_Cx p l s m args meth c (bs hb0 sc0) cc nL own Ts rt tb) {h hf' : z_Hp} {ρ st : List z_V} {r ix F' L' maxL mc' ms' : Nat} {host : String} {y : MethodName} {ws ws' : List Cond} {bytes : ByteArray} {f : z_Hp → Nat → Option z_Hp} (hao : z_ao s) (hfr : s.heap.size + k = b0 + h.length) (hM : z_CTC l y ws F' L' mc' ms' f) (hfe : f h r = some hf') (hG : GoodIn Ts ws) (hw : ws = Cond.code y bytes maxL none :: ws') (hini : Cond.initialized y.cls ∈ Ts) (hlk : Cond.methodLinkNest own ix y host ∈ z_xw) (hins : Cond.instanceMethod y ∈ Ts) (hy1 : y.name = "<init>")
    (hd : y.cls ≠ "java/lang/invoke/MethodHandle" ∧ y.cls ≠ "java/lang/invoke/VarHandle" ∧ (parseMethodDescriptor y.desc).map (fun d => d.parameters.length) = some 0) (hRm : F' + 1 ≤ R.frames ∧ 8 + (maxL + 11) + L' ≤ R.locals) (hc : k + mc' ≤ R.cells ∧ n + ms' ≤ R.slots) (hst : z_wt st ≤ 8) (hdg : decode cc pc = .ok (.invokespecial ix, 3))
    (kk : z_K p l e R s m args below meth c (bs hb0 sc0) D dT jL nL Q (k + mc') (n + ms') hf' ρ (pc + 3) st) : z_K p l e R s m args below meth c (bs hb0 sc0) D dT jL nL Q k n h ρ pc (vR r :: st) := by
  intro H locs ls hR hL T hT X
  have hsz := z_top C.2.2.2.2.2.2.2.1 hfr hR hT X
  exact z_run (mc' := mc') (ms' := ms') (o' := .inl none) hR hL (vx_runIN (y := y) (host := host) (b := b0 + r) (As := []) ⟨C.1, C.2.1, C.2.2.1, C.2.2.2.1, C.2.2.2.2.1⟩ (hM b0 sa0 hb0 sc0 D dT r h hf' hfe) ⟨va_cnB 0 C.2.2.2.2.1 hG hw rfl rfl (C.2.2.2.2.2.2.2.2.1.2.2.1 _ hlk) (C.2.2.2.2.1 _ hini) hd hRm, hy1, C.2.2.2.2.1 _ hins⟩ ⟨z_UC_blind, fun U hU hW => ⟨rfl, hR.u C.2.2.2.2.2.2.2.1 C.2.2.2.2.2.2.2.2.1 hU hW (fun _ => hsz), z_ao.moved hW.alike hao⟩⟩ rfl rfl (z_lv.sz hL) rfl (lv_room (by rw [z_cat_sum]; exact hst)) hdg hc) (fun _ q => by cases q; exact kk) (fun _ q => by cases q) T hT X
end ZK
/-- a constructor's contract, out of its walk -/
theorem z_CTC.of {l : Launch} (hfl : l.stackTraces = false) {y : MethodName} {ws ws' : List Cond} {F L mc ms nL jL : Nat} {cc : ByteArray} {f : z_Hp → Nat → Option z_Hp} (hy : plainFor y = true) (hy1 : y.name = "<init>") (hw : ws = Cond.code y cc nL none :: ws') (hnA : 1 ≤ nL)
    (body : ∀ {p : Program} {e : Env} {s : State} {m : MethodId} {args : Array Value} {below : List Frame} {meth : Method} {c : Code} {b0 sa0 : Nat} {hb0 : sa0 < b0} {sc0 : List Int} {D : va_G} {dT : Nat → ClassId} (r : Nat) (h hf : z_Hp), f h r = some hf → z_Cx p l s m args meth c (bs hb0 sc0) cc nL y.cls ws none [] → meth.name = "<init>" → z_ao s → s.heap.size + 0 = b0 + h.length →
      z_K p l e (z_R F L mc ms (.inl none)) s m args below meth c (bs hb0 sc0) D dT jL nL (z_Qm below (bs hb0 sc0) D dT (.inl none) hf args s mc ms) 0 0 h (vR r :: List.replicate (nL - 1) vU) 0 []) : z_CTC l y ws F L mc ms f := by
  intro b0 sa0 hb0 sc0 D dT r h hf he
  refine z_ofWF hy hw ?_
  intro p e s m args below meth c s₁ B hml htab hv
  obtain ⟨rfl, hU, hao⟩ := hv
  have C : z_Cx p l s m _ meth c (bs hb0 sc0) cc nL y.cls ws none [] := ⟨B.exec, B.bytes, hml, findClass_of_methodNamed B.named, atoms_spec (ws := ws) B.pre, B.notSynchronized, hfl, hU.2.2.1, hU.2.2.2.2, List.eq_nil_iff_forall_not_mem.mpr (fun x hx => htab x hx), B.returns⟩
  obtain ⟨a1, a2, a3⟩ := z_lv_args (bs hb0 sc0) [vR r] 0 (fun v hv => by rw [List.mem_singleton.mp hv]; rfl)
  have hl := lv_entry ([vR r].map (z_kV (bs hb0 sc0))) (n := nL) (by rw [a1]; exact hnA)
  rw [show (#[Value.ref (b0 + r)] : Array Value) = ([vR r].map (z_kV (bs hb0 sc0))).toArray from rfl, lg_entry_eq]
  generalize (lg_sl ([vR r].map (z_kV (bs hb0 sc0))) ++ List.replicate (nL - (lg_sl ([vR r].map (z_kV (bs hb0 sc0)))).length) Slot.unset).toArray = ls at hl ⊢
  have hlv : z_lv (bs hb0 sc0) jL nL ls (vR r :: List.replicate (nL - 1) vU) := by
    refine ⟨_, hl, fun q hq => Or.inl (a2 q hq), fun i v hi hne => ?_⟩
    cases i with
    | zero => have := a3 0 v hi; rwa [Nat.zero_add] at this
    | succ i =>
      rw [List.getElem?_cons_succ] at hi
      have := List.mem_of_getElem? hi
      exact absurd (List.eq_of_mem_replicate this) hne
  exact body (p := p) (e := e) (s := s) (m := m) (below := below) (meth := meth) (c := c) (hb0 := hb0) (sc0 := sc0) (D := D) (dT := dT) r h hf he C ((name_of_methodNamed B.named B.method).1.trans hy1) hao (hU.2.2.2.1 rfl) s.heap [] ls (z_U.rl hU) hlv
