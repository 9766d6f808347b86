/-! CONSTRUCTORS, put together: the object x at r, behind the old world h the new cells A -/
def k_sz1 : z_Cl → Nat
  | .inl (_, fs) => fs.length
  | .inr (_, n, _) => n
def k_sz (A : List z_Cl) : Nat := (A.map k_sz1).sum
theorem k_sz_app (A B : List z_Cl) : k_sz (A ++ B) = k_sz A + k_sz B := by simp [k_sz]
theorem k_sz_cons (x : z_Cl) (B : List z_Cl) : k_sz (x :: B) = k_sz1 x + k_sz B := by simp [k_sz]
theorem k_sz_nil : k_sz [] = 0 := rfl
def k_fB (ci : Nat) (fs0 : List z_V) (o1 : Nat → z_Cl) (B : Nat → List z_Cl) : z_Hp → Nat → Option z_Hp := fun h r => match h[r]? with
  | some (.inl (c', f')) => if c' = ci ∧ f' = fs0 then some (h.set r (o1 h.length) ++ B h.length) else none
  | _ => none
theorem k_fB_some {ci : Nat} {fs0 : List z_V} {o1 : Nat → z_Cl} {B : Nat → List z_Cl} {h hf : z_Hp} {r : Nat} (e : k_fB ci fs0 o1 B h r = some hf) : h[r]? = some (.inl (ci, fs0)) ∧ hf = h.set r (o1 h.length) ++ B h.length := by
  unfold k_fB at e
  split at e
  · next c' f' hq =>
    split at e
    · next hc =>
      cases e
      obtain ⟨rfl, rfl⟩ := hc
      exact ⟨hq, rfl⟩
    · cases e
  · cases e
section KM
variable {p : Program} {l : Launch} {e : Env} {s : State} {m : MethodId} {args : Array Value} {below : List Frame} {meth : Method} {c : Code} {b0 sa0 : Nat} {hb0 : sa0 < b0} {sc0 : List Int} {D : va_G} {dT : Nat → ClassId} {R : Room} {Q : State → Prop} {jL nL : Nat} {cc : ByteArray} {own : String} {Ts : List Cond} {rt : Option FieldType} {tb : List ExceptionTableEntry} {pc : Nat} {h : z_Hp} {r ci N0 : Nat} {fs : List z_V} {A : List z_Cl} {ρ : List z_V} {CC : String} {TT : u_T} {ty0 : Nat → FieldType}
/-- inside a constructor -/
def kMk (p : Program) (l : Launch) (e : Env) (R : Room) (s : State) (m : MethodId) (args : Array Value) (below : List Frame) (meth : Method) (c : Code) (base : z_B) (D : va_G) (dT : Nat → ClassId) (jL nL : Nat) (Q : State → Prop) (h : z_Hp) (r : Nat) (x : z_Cl) (A : List z_Cl) (ρ : List z_V) (pc : Nat) (st : List z_V) : Prop :=
  z_K p l e R s m args below meth c base D dT jL nL Q A.length (k_sz A) (h.set r x ++ A) ρ pc st
/-- what a constructor of the kind ci stands on -/
def kMC (p : Program) (l : Launch) (s : State) (m : MethodId) (args : Array Value) (meth : Method) (c : Code) (base : z_B) (cc : ByteArray) (nL : Nat) (own : String) (Ts : List Cond) (rt : Option FieldType) (tb : List ExceptionTableEntry) (R : Room) (h : z_Hp) (r ci : Nat) (CC : String) (TT : u_T) (N0 : Nat) (ty0 : Nat → FieldType) : Prop :=
  z_Cx p l s m args meth c base cc nL own Ts rt tb ∧ meth.name = "<init>" ∧ z_ao s ∧ s.heap.size + 0 = z_ad base 0 + h.length ∧ r < h.length ∧ (∀ w ∈ u_ws CC TT N0, w ∈ Ts) ∧ (∀ k, k < N0 → parseFieldDescriptor (TT k).2.2.1 = some (ty0 k)) ∧ (∀ a, a < N0 → ∀ b, b < N0 → a ≠ b → (TT a).2.1 ≠ (TT b).2.1) ∧ vwCl[ci]? = some (CC, TT, N0)
theorem kMk_set (A : List z_Cl) (x y : z_Cl) (hr : r < h.length) : (h.set r x ++ A).set r y = h.set r y ++ A := by
  rw [List.set_append_left _ _ (by simpa using hr), List.set_set]
theorem kMk_at (A : List z_Cl) (x : z_Cl) (hr : r < h.length) : (h.set r x ++ A)[r]? = some x := by
  rw [List.getElem?_append_left (by simpa using hr)]
  simp [hr]
theorem kMk_len (A : List z_Cl) (x : z_Cl) : (h.set r x ++ A).length = h.length + A.length := by simp
/-- the field kf gets the new cell's number -/
theorem kMk_put (M : kMC p l s m args meth c (bs hb0 sc0) cc nL own Ts rt tb R h r ci CC TT N0 ty0) {v : Nat} (kf : Nat) (hk : kf < N0) {ref : String} {ix : Nat} (hlink : Cond.fieldLink own ix ref (TT kf).2.1 (TT kf).2.2.1 ∈ Ts) (href : ref = (TT kf).1) (hfin : (TT kf).2.2.2 = true) (hdecl : (TT kf).1 = own) (ty : FieldType) (hd : parseFieldDescriptor (TT kf).2.2.1 = some ty) (hn : ∀ a, narrow ty (.ref a) = .ref a) (hfit : ∀ a, fits ty (.ref a) = true) (hl : kf < fs.length) (hdg : decode cc pc = .ok (.putfield ix, 3))
    (kk : kMk p l e R s m args below meth c (bs hb0 sc0) D dT jL nL Q h r (.inl (ci, fs.set kf (vR v))) A ρ (pc + 3) []) : kMk p l e R s m args below meth c (bs hb0 sc0) D dT jL nL Q h r (.inl (ci, fs)) A ρ pc [vR v, vR r] := by
  obtain ⟨C, hin2, -, -, hr, hin, hty, hnm, hc⟩ := M
  refine zk_putR C kf hin ty0 hty hnm hc hk hlink href hfin hin2 hdecl hd hn hfit (kMk_at A _ hr) hl hdg ?_
  unfold kMk at kk
  rw [kMk_set _ _ _ hr]
  exact kk
theorem kMk_this (M : kMC p l s m args meth c (bs hb0 sc0) cc nL own Ts rt tb R h r ci CC TT N0 ty0) {x : z_Cl} (h0 : ρ[0]? = some (vR r)) (hdg : decode cc pc = .ok (.aload_n 0, 1)) (kk : kMk p l e R s m args below meth c (bs hb0 sc0) D dT jL nL Q h r x A ρ (pc + 1) [vR r]) : kMk p l e R s m args below meth c (bs hb0 sc0) D dT jL nL Q h r x A ρ pc [] :=
  (z_aload_n (KX := fun _ _ => True) (d := 0) (i := 0) M.1 hdg rfl ρ _ [] (Nat.zero_le _)).1 r _ (by unfold eLR; rw [h0]) kk
/-- this.f = new int[N] -/
theorem kMk_ai (M : kMC p l s m args meth c (bs hb0 sc0) cc nL own Ts rt tb R h r ci CC TT N0 ty0) (h0 : ρ[0]? = some (vR r)) {N pN : Nat} (hN : N < 1000) (hc : A.length + 1 ≤ R.cells) (hs : k_sz A + N ≤ R.slots) (harr : Cond.arrayClass .int ∈ Ts) (d0 : decode cc pc = .ok (.aload_n 0, 1)) (hcst : xE (z_K p l e R s m args below meth c (bs hb0 sc0) D dT jL nL Q A.length (k_sz A)) (fun _ _ => True) vI 1 (eC (N : Int)) (pc + 1) pN) (d1 : decode cc pN = .ok (.newarray .int, 2))
    (kf : Nat) (hk : kf < N0) {ref : String} {ix : Nat} (hlink : Cond.fieldLink own ix ref (TT kf).2.1 (TT kf).2.2.1 ∈ Ts) (href : ref = (TT kf).1) (hfin : (TT kf).2.2.2 = true) (hdecl : (TT kf).1 = own) (ty : FieldType) (hd : parseFieldDescriptor (TT kf).2.2.1 = some ty) (hn : ∀ a, narrow ty (.ref a) = .ref a) (hfit : ∀ a, fits ty (.ref a) = true) (hl : kf < fs.length) (hdg : decode cc (pN + 2) = .ok (.putfield ix, 3))
    (kk : kMk p l e R s m args below meth c (bs hb0 sc0) D dT jL nL Q h r (.inl (ci, fs.set kf (vR (h.length + A.length)))) (A ++ [.inr (0, N, fun _ => 0)]) ρ (pN + 2 + 3) []) : kMk p l e R s m args below meth c (bs hb0 sc0) D dT jL nL Q h r (.inl (ci, fs)) A ρ pc [] := by
  refine kMk_this M h0 d0 ((hcst ρ _ [vR r] (Nat.le_refl 1)).1 (N : Int) _ rfl ?_)
  have hfr : s.heap.size + 0 = b0 + h.length := M.2.2.2.1
  refine zk_newai M.1 hN (by rw [kMk_len]; omega) hc hs harr d1 ?_
  have k2 := kMk_put (e := e) (D := D) (dT := dT) (Q := Q) (jL := jL) (below := below) (A := A ++ [.inr (0, N, fun _ => 0)]) M kf hk hlink href hfin hdecl ty hd hn hfit hl hdg kk
  unfold kMk at k2
  rw [kMk_len, List.append_assoc]
  rw [List.length_append, k_sz_app] at k2
  exact k2
/-- this.f = new K[N], K a class -/
theorem kMk_an (M : kMC p l s m args meth c (bs hb0 sc0) cc nL own Ts rt tb R h r ci CC TT N0 ty0) (h0 : ρ[0]? = some (vR r)) {N pN t ixA : Nat} {KC : String} (ht : (z_tys dT)[t + 2]? = some (dT (t + 2), .object KC)) (hao : va_AO KC s) (hN : N < 1000) (hc : A.length + 1 ≤ R.cells) (hs : k_sz A + N ≤ R.slots) (hcl : Cond.classLink own ixA KC ∈ Ts) (d0 : decode cc pc = .ok (.aload_n 0, 1)) (hcst : xE (z_K p l e R s m args below meth c (bs hb0 sc0) D dT jL nL Q A.length (k_sz A)) (fun _ _ => True) vI 1 (eC (N : Int)) (pc + 1) pN) (d1 : decode cc pN = .ok (.anewarray ixA, 3))
    (kf : Nat) (hk : kf < N0) {ref : String} {ix : Nat} (hlink : Cond.fieldLink own ix ref (TT kf).2.1 (TT kf).2.2.1 ∈ Ts) (href : ref = (TT kf).1) (hfin : (TT kf).2.2.2 = true) (hdecl : (TT kf).1 = own) (ty : FieldType) (hd : parseFieldDescriptor (TT kf).2.2.1 = some ty) (hn : ∀ a, narrow ty (.ref a) = .ref a) (hfit : ∀ a, fits ty (.ref a) = true) (hl : kf < fs.length) (hdg : decode cc (pN + 3) = .ok (.putfield ix, 3))
    (kk : kMk p l e R s m args below meth c (bs hb0 sc0) D dT jL nL Q h r (.inl (ci, fs.set kf (vR (h.length + A.length)))) (A ++ [.inr (t + 2, N, fun _ => -1)]) ρ (pN + 3 + 3) []) : kMk p l e R s m args below meth c (bs hb0 sc0) D dT jL nL Q h r (.inl (ci, fs)) A ρ pc [] := by
  refine kMk_this M h0 d0 ((hcst ρ _ [vR r] (Nat.le_refl 1)).1 (N : Int) _ rfl ?_)
  have hfr : s.heap.size + 0 = b0 + h.length := M.2.2.2.1
  refine zk_anew M.1 ht hao hN (by rw [kMk_len]; omega) hc hs hcl d1 ?_
  have k2 := kMk_put (e := e) (D := D) (dT := dT) (Q := Q) (jL := jL) (below := below) (A := A ++ [.inr (t + 2, N, fun _ => -1)]) M kf hk hlink href hfin hdecl ty hd hn hfit hl hdg kk
  unfold kMk at k2
  rw [kMk_len, List.append_assoc]
  rw [List.length_append, k_sz_app] at k2
  exact k2
def k_out (a N : Nat) : z_Cl := .inr (4, N, fun j => if j < N then ((a + 1 * j : Nat) : Int) else -1)
theorem k_sz_rep (N : Nat) (x : z_Cl) : k_sz (List.replicate N x) = N * k_sz1 x := by simp [k_sz]
/-- this.f = new int[N][M] -/
theorem kMk_mu (M : kMC p l s m args meth c (bs hb0 sc0) cc nL own Ts rt tb R h r ci CC TT N0 ty0) (h0 : ρ[0]? = some (vR r)) {N M2 p1 pN ixA : Nat} (hN : N < 1000) (hM2 : M2 < 1000) (hc : A.length + (1 + N) ≤ R.cells) (hs : k_sz A + (N + N * M2) ≤ R.slots) (hcl : Cond.classLink own ixA "[[I" ∈ Ts) (harr : Cond.arrayClass .int ∈ Ts) (d0 : decode cc pc = .ok (.aload_n 0, 1)) (hcst : xE (z_K p l e R s m args below meth c (bs hb0 sc0) D dT jL nL Q A.length (k_sz A)) (fun _ _ => True) vI 1 (eC (N : Int)) (pc + 1) p1) (hcst2 : xE (z_K p l e R s m args below meth c (bs hb0 sc0) D dT jL nL Q A.length (k_sz A)) (fun _ _ => True) vI 2 (eC (M2 : Int)) p1 pN) (d1 : decode cc pN = .ok (.multianewarray ixA 2, 4))
    (kf : Nat) (hk : kf < N0) {ref : String} {ix : Nat} (hlink : Cond.fieldLink own ix ref (TT kf).2.1 (TT kf).2.2.1 ∈ Ts) (href : ref = (TT kf).1) (hfin : (TT kf).2.2.2 = true) (hdecl : (TT kf).1 = own) (ty : FieldType) (hd : parseFieldDescriptor (TT kf).2.2.1 = some ty) (hn : ∀ a, narrow ty (.ref a) = .ref a) (hfit : ∀ a, fits ty (.ref a) = true) (hl : kf < fs.length) (hdg : decode cc (pN + 4) = .ok (.putfield ix, 3))
    (kk : kMk p l e R s m args below meth c (bs hb0 sc0) D dT jL nL Q h r (.inl (ci, fs.set kf (vR (h.length + A.length)))) (A ++ k_out (h.length + A.length + 1) N :: List.replicate N (.inr (0, M2, fun _ => 0))) ρ (pN + 4 + 3) []) : kMk p l e R s m args below meth c (bs hb0 sc0) D dT jL nL Q h r (.inl (ci, fs)) A ρ pc [] := by
  refine kMk_this M h0 d0 ((hcst ρ _ [vR r] (Nat.le_refl 1)).1 (N : Int) _ rfl ((hcst2 ρ _ [vI (N : Int), vR r] (Nat.le_refl 2)).1 (M2 : Int) _ rfl ?_))
  have hfr : s.heap.size + 0 = b0 + h.length := M.2.2.2.1
  refine zk_multi M.1 M.2.2.1.2.2 hN hM2 (by rw [kMk_len]; omega) hc hs hcl harr d1 ?_
  have k2 := kMk_put (e := e) (D := D) (dT := dT) (Q := Q) (jL := jL) (below := below) (A := A ++ k_out (h.length + A.length + 1) N :: List.replicate N (.inr (0, M2, fun _ => 0))) M kf hk hlink href hfin hdecl ty hd hn hfit hl hdg kk
  unfold kMk at k2
  rw [kMk_len, List.append_assoc]
  rw [List.length_append, List.length_cons, List.length_replicate, k_sz_app, k_sz_cons, k_sz_rep] at k2
  have e1 : (fun i => if i < N then ((h.length + A.length + 1 + i : Nat) : Int) else -1) = fun j => if j < N then ((h.length + A.length + 1 + 1 * j : Nat) : Int) else -1 := by
    funext i
    rw [Nat.one_mul]
  rw [e1]
  have e2 : A.length + 1 + N = A.length + (N + 1) := by omega
  have e3 : k_sz A + N + N * M2 = k_sz A + (k_sz1 (k_out (h.length + A.length + 1) N) + N * k_sz1 (.inr (0, M2, fun _ => 0))) := by
    show _ = k_sz A + (N + N * M2)
    omega
  rw [e2, e3]
  exact k2
theorem kMk_obj (M : kMC p l s m args meth c (bs hb0 sc0) cc nL own Ts rt tb R h r ci CC TT N0 ty0) {x : z_Cl} {ix : Nat} (h0 : ρ[0]? = some (vR r)) (hlink : Cond.methodLink own ix Lib.objectInit ∈ Ts) (hinst : Cond.instanceMethod Lib.objectInit ∈ Ts) (hcode : Cond.code Lib.objectInit ⟨#[0xb1]⟩ 1 none ∈ Ts) (hRm : 1 ≤ R.frames ∧ 20 ≤ R.locals) (d0 : decode cc pc = .ok (.aload_n 0, 1)) (hdg : decode cc (pc + 1) = .ok (.invokespecial ix, 3)) (kk : kMk p l e R s m args below meth c (bs hb0 sc0) D dT jL nL Q h r x A ρ (pc + 1 + 3) []) : kMk p l e R s m args below meth c (bs hb0 sc0) D dT jL nL Q h r x A ρ pc [] :=
  kMk_this M h0 d0 (zk_obj M.1 hlink hinst hcode (by decide) hRm hdg kk)
end KM
/-- a constructor's contract, out of its walk -/
theorem kMk_of {l : Launch} (hfl : l.stackTraces = false) {y : MethodName} {ws ws' : List Cond} {F L nL ci N0 nB sB : Nat} {cc : ByteArray} {CC : String} {TT : u_T} {ty0 : Nat → FieldType} {fs0 : List z_V} {o1 : Nat → z_Cl} {B : Nat → List z_Cl} (hy : plainFor y = true) (hy1 : y.name = "<init>") (hw : ws = Cond.code y cc nL none :: ws') (hnA : 1 ≤ nL) (hin : ∀ w ∈ u_ws CC TT N0, w ∈ ws) (hty : ∀ k, k < N0 → parseFieldDescriptor (TT k).2.2.1 = some (ty0 k)) (hnm : ∀ a, a < N0 → ∀ b, b < N0 → a ≠ b → (TT a).2.1 ≠ (TT b).2.1) (hc : vwCl[ci]? = some (CC, TT, N0))
    (body : ∀ {p : Program} {e : Env} {s : State} {m : MethodId} {args : Array Value} {below : List Frame} {meth : Method} {c : Code} {b0 sa0 : Nat} {hb0 : sa0 < b0} {sc0 : List Int} {D : va_G} {dT : Nat → ClassId} (r : Nat) (h : z_Hp), h[r]? = some (.inl (ci, fs0)) → kMC p l s m args meth c (bs hb0 sc0) cc nL y.cls ws none [] (z_R F L nB sB (.inl none)) h r ci CC TT N0 ty0 →
      kMk p l e (z_R F L nB sB (.inl none)) s m args below meth c (bs hb0 sc0) D dT 99 nL (z_Qm below (bs hb0 sc0) D dT (.inl none) (h.set r (o1 h.length) ++ B h.length) args s nB sB) h r (.inl (ci, fs0)) [] (vR r :: List.replicate (nL - 1) vU) 0 []) : z_CTC l y ws F L nB sB (k_fB ci fs0 o1 B) := by
  refine z_CTC.of hfl (jL := 99) hy hy1 hw hnA ?_
  intro p e s m args below meth c b0 sa0 hb0 sc0 D dT r h hf he C hn hao hsz
  obtain ⟨h1, rfl⟩ := k_fB_some he
  have hr : r < h.length := (List.getElem?_eq_some_iff.mp h1).1
  have X := body (p := p) (e := e) (s := s) (m := m) (args := args) (below := below) (meth := meth) (c := c) (hb0 := hb0) (sc0 := sc0) (D := D) (dT := dT) r h h1 ⟨C, hn, hao, hsz, hr, hin, hty, hnm, hc⟩
  unfold kMk at X
  have e1 : h.set r (.inl (ci, fs0)) = h := List.ext_getElem? fun q => by
    rw [List.getElem?_set]
    split
    · next q1 => rw [← q1, h1]
    · rfl
  rw [e1, List.append_nil] at X
  exact X
section KM2
variable {p : Program} {l : Launch} {e : Env} {s : State} {m : MethodId} {args : Array Value} {below : List Frame} {meth : Method} {c : Code} {b0 sa0 : Nat} {hb0 : sa0 < b0} {sc0 : List Int} {D : va_G} {dT : Nat → ClassId} {F9 L9 nB9 sB9 : Nat} {Q : State → Prop} {jL nL : Nat} {cc : ByteArray} {own : String} {Ts : List Cond} {rt : Option FieldType} {tb : List ExceptionTableEntry} {pc : Nat} {h : z_Hp} {r ci N0 : Nat} {fs : List z_V} {A : List z_Cl} {ρ : List z_V} {CC : String} {TT : u_T} {ty0 : Nat → FieldType}
theorem kMk_dup (C : z_Cx p l s m args meth c (bs hb0 sc0) cc nL own Ts rt tb) {R : Room} {k n : Nat} {H : z_Hp} {v : Nat} {st : List z_V} (hdg : decode cc pc = .ok (.dup, 1)) (kk : z_K p l e R s m args below meth c (bs hb0 sc0) D dT jL nL Q k n H ρ (pc + 1) (vR v :: vR v :: st)) : z_K p l e R s m args below meth c (bs hb0 sc0) D dT jL nL Q k n H ρ pc (vR v :: st) := fun H1 locs ls hR hL => lv_dup C.1 C.2.1 hdg rfl (kk H1 locs ls hR hL)
/-- new K(): the object and its own cells behind A -/
theorem kMk_mk (M : kMC p l s m args meth c (bs hb0 sc0) cc nL own Ts rt tb (z_R F9 L9 nB9 sB9 (.inl none)) h r ci CC TT N0 ty0) {x : z_Cl} {st : List z_V} (hst : z_wt st ≤ 6) {N' ci' ixN : Nat} {CC' : String} {TT' : u_T} {fs' : List z_V} (hin' : ∀ w ∈ u_ws CC' TT' N', w ∈ Ts) (ty' : Nat → FieldType) (hty' : ∀ k, k < N' → parseFieldDescriptor (TT' k).2.2.1 = some (ty' k)) (hcl' : vwCl[ci']? = some (CC', TT', N')) (hfs : ∀ j, j < N' → defaultValue (ty' j) = vp_V (fs'.map (z_kV (bs hb0 sc0))) j) (hlinkN : Cond.classLink own ixN CC' ∈ Ts) (hins : Cond.instantiable CC' N' ∈ Ts) (hini : Cond.initialized CC' ∈ Ts)
    {ix F' L' maxL nB' sB' : Nat} {y : MethodName} {ws ws' : List Cond} {bytes : ByteArray} {o1 : Nat → z_Cl} {B : Nat → List z_Cl} (hM : z_CTC l y ws F' L' nB' sB' (k_fB ci' fs' o1 B)) (hB : ∀ n, (B n).length = nB' ∧ k_sz (B n) = sB' ∧ k_sz1 (o1 n) = N') (hG : GoodIn Ts ws) (hw : ws = Cond.code y bytes maxL none :: ws') (hini2 : Cond.initialized y.cls ∈ Ts) (hlk : (∃ host, Cond.methodLinkNest own ix y host ∈ z_xw) ∨ Cond.methodLink own ix y ∈ Ts) (hins2 : Cond.instanceMethod y ∈ Ts) (hy1 : y.name = "<init>")
    (hd : y.cls ≠ "java/lang/invoke/MethodHandle" ∧ y.cls ≠ "java/lang/invoke/VarHandle" ∧ (parseMethodDescriptor y.desc).map (fun d => d.parameters.length) = some 0) (hRm : F' + 1 ≤ F9 ∧ 8 + (maxL + 11) + L' ≤ L9) (hc : A.length + 1 + nB' ≤ nB9) (hs : k_sz A + N' + sB' ≤ sB9) (d1 : decode cc pc = .ok (.new ixN, 3)) (d4 : decode cc (pc + 3) = .ok (.dup, 1)) (d5 : decode cc (pc + 3 + 1) = .ok (.invokespecial ix, 3))
    (kk : kMk p l e (z_R F9 L9 nB9 sB9 (.inl none)) s m args below meth c (bs hb0 sc0) D dT jL nL Q h r x (A ++ o1 (h.length + A.length + 1) :: B (h.length + A.length + 1)) ρ (pc + 3 + 1 + 3) (vR (h.length + A.length) :: st)) : kMk p l e (z_R F9 L9 nB9 sB9 (.inl none)) s m args below meth c (bs hb0 sc0) D dT jL nL Q h r x A ρ pc st := by
  have hfr : s.heap.size + 0 = b0 + h.length := M.2.2.2.1
  have hr := M.2.2.2.2.1
  refine zk_new M.1 hin' ty' hty' hcl' hfs (by rw [kMk_len]; omega) (show A.length + 1 ≤ nB9 by omega) (show k_sz A + N' ≤ sB9 by omega) hlinkN hins hini d1 ?_
  rw [kMk_len, List.append_assoc]
  refine kMk_dup M.1 d4 ?_
  obtain ⟨b1, b2, b3⟩ := hB (h.length + A.length + 1)
  have hlen : (h.set r x ++ (A ++ [(Sum.inl (ci', fs') : z_Cl)])).length = h.length + A.length + 1 := by
    simp [Nat.add_assoc]
  have hset : (h.set r x ++ (A ++ [(Sum.inl (ci', fs') : z_Cl)])).set (h.length + A.length) (o1 (h.length + A.length + 1)) ++ B (h.length + A.length + 1) = h.set r x ++ (A ++ o1 (h.length + A.length + 1) :: B (h.length + A.length + 1)) := by
    rw [List.set_append_right _ _ (by simp)]
    simp
  have hfe : k_fB ci' fs' o1 B (h.set r x ++ (A ++ [.inl (ci', fs')])) (h.length + A.length) = some (h.set r x ++ (A ++ o1 (h.length + A.length + 1) :: B (h.length + A.length + 1))) := by
    have hat : (h.set r x ++ (A ++ [(Sum.inl (ci', fs') : z_Cl)]))[h.length + A.length]? = some (.inl (ci', fs')) := by
      rw [List.getElem?_append_right (by simp)]
      simp
    unfold k_fB
    rw [hat]
    simp only [and_self, if_true]
    rw [hlen, hset]
  have kk' : z_K p l e (z_R F9 L9 nB9 sB9 (.inl none)) s m args below meth c (bs hb0 sc0) D dT jL nL Q (A.length + 1 + nB') (k_sz A + N' + sB') (h.set r x ++ (A ++ o1 (h.length + A.length + 1) :: B (h.length + A.length + 1))) ρ (pc + 3 + 1 + 3) (vR (h.length + A.length) :: st) := by
    unfold kMk at kk
    rw [List.length_append, List.length_cons, b1, k_sz_app, k_sz_cons, b2, b3] at kk
    rw [show A.length + 1 + nB' = A.length + (nB' + 1) by omega, show k_sz A + N' + sB' = k_sz A + (N' + sB') by omega]
    exact kk
  have hst2 : z_wt (vR (h.length + A.length) :: st) ≤ 8 := by rw [z_wt_cons]; simp only [z_cat]; omega
  rcases hlk with ⟨host, hlk⟩ | hlk
  · exact zk_callIN M.1 M.2.2.1 (by rw [hlen]; omega) hM hfe hG hw hini2 hlk hins2 hy1 hd hRm ⟨hc, hs⟩ hst2 d5 kk'
  · exact zk_callI M.1 M.2.2.1 (by rw [hlen]; omega) hM hfe hG hw hini2 hlk hins2 hy1 hd hRm ⟨hc, hs⟩ hst2 d5 kk'
theorem kMk_setA {x y : z_Cl} {ia : Nat} : (h.set r x ++ A).set (h.length + ia) y = h.set r x ++ A.set ia y := by
  rw [List.set_append_right _ _ (by simp)]
  simp
theorem kMk_atA {x : z_Cl} {ia : Nat} : (h.set r x ++ A)[h.length + ia]? = A[ia]? := by
  rw [List.getElem?_append_right (by simp)]
  simp
theorem k_sz_set {y y0 : z_Cl} : ∀ {A : List z_Cl} {ia : Nat}, A[ia]? = some y0 → k_sz1 y = k_sz1 y0 → k_sz (A.set ia y) = k_sz A
  | [], ia, h0, _ => by simp at h0
  | a :: A, 0, h0, h1 => by
    simp at h0
    subst h0
    rw [List.set_cons_zero, k_sz_cons, k_sz_cons, h1]
  | a :: A, ia + 1, h0, h1 => by
    rw [List.set_cons_succ, k_sz_cons, k_sz_cons, k_sz_set (by simpa using h0) h1]
/-- a[j] = the object v, a the new cell ia -/
theorem kMk_ast (M : kMC p l s m args meth c (bs hb0 sc0) cc nL own Ts rt tb (z_R F9 L9 nB9 sB9 (.inl none)) h r ci CC TT N0 ty0) {x : z_Cl} {t ia iv n' ci' : Nat} {j : Nat} {f : Nat → Int} {q : vw_C} {vs : List z_V} {a v : Nat} (ea : a = h.length + ia) (ev : v = h.length + iv) (ht : (z_tys dT)[t + 2]? = some (dT (t + 2), .object q.1)) (ha : A[ia]? = some (.inr (t + 2, n', f))) (hn : n' < 2147483648) (hj : j < n') (hv : A[iv]? = some (.inl (ci', vs))) (hc : vwCl[ci']? = some q) (hdg : decode cc pc = .ok (.aastore, 1))
    (kk : kMk p l e (z_R F9 L9 nB9 sB9 (.inl none)) s m args below meth c (bs hb0 sc0) D dT jL nL Q h r x (A.set ia (.inr (t + 2, n', z_up f j (v : Int)))) ρ (pc + 1) []) : kMk p l e (z_R F9 L9 nB9 sB9 (.inl none)) s m args below meth c (bs hb0 sc0) D dT jL nL Q h r x A ρ pc [vR v, vI (j : Int), vR a] := by
  subst ea ev
  refine zk_aast M.1 ht (by rw [kMk_atA]; exact ha) hn (by omega) (by omega) (by rw [kMk_atA]; exact hv) hc hdg ?_
  unfold kMk at kk
  rw [List.length_set, k_sz_set (y := .inr (t + 2, n', z_up f j ((h.length + iv : Nat) : Int))) ha rfl] at kk
  rw [kMk_setA, Int.toNat_natCast]
  exact kk
end KM2
/-- filling one array of an object -/
noncomputable def st_fl (kf : Nat) (N c : Int) : z_St := sSeq (sSet vI 1 (eC 0)) (sLoop (bCmp cLt (eL 1) (eC N)) (sASt 0 (eFR 6 kf (eLR 0)) (eL 1) (eC c)) (sInc 1 1) z_fuel)
theorem ev_fl {h : z_Hp} {o a kf N : Nat} {fs : List z_V} {f : Nat → Int} {c : Int} {x : z_V} (ho : h[o]? = some (.inl (6, fs))) (hk : fs[kf]? = some (vR a)) (ha : h[a]? = some (.inr (0, N, f))) (hN : N < 1000) (hoa : o ≠ a) : st_fl kf N c [vR o, x] h = some (oN [vR o, vI N], h.set a (.inr (0, N, fun k => if k < N then c else f k))) := by
  have key : qS (st_fl kf N c) [vR o, x] h (fun oc h1 => oc = oN [vR o, vI N] ∧ h1 = h.set a (.inr (0, N, fun k => if k < N then c else f k))) := by
    unfold st_fl
    simp only [qS_nop, qS_seq, qS_set, qS_setJ, qS_if, qS_brk, qS_ret, qS_retV, qS_throw, qS_inc, qS_cl, qS_ast, qS_aop, qS_fst, qS_fop, qS_sw, qT_eC, qT_eCB, qT_eL, qT_eLJ, qT_eLR, qT_eLB, qT_e1, qT_e2, qT_bCmp, qT_bCmpJ, qT_bAnd, qT_bOr, qT_bNot, qT_eBI, qT_eIf, qT_eLd, qT_eLdR, qT_eLen, qT_eF, qT_eFR, qT_aN, qT_aS, qT_eCl, qT_eClR, qT_eClB, qT_some, qT_x, z_nx_N, z_nx_B, z_nx_R, z_nx_X, z_bk_N, z_bk_B, z_bk_R, z_bk_X, oAdd, oSub, oMul, oNeg, cLt, cLe, cGt, cGe, cEq, cNe, Option.some.injEq, Sum.inl.injEq, Sum.inr.injEq, Prod.mk.injEq, exists_eq_left, exists_eq_left', exists_eq_right, exists_and_left, reduceCtorEq, and_true, true_and, and_false, false_and, List.getElem?_cons_zero, List.getElem?_cons_succ, List.set_cons_zero, List.set_cons_succ, List.replicate, List.length_cons, List.length_nil, List.cons_append, List.nil_append, Nat.reduceAdd, Nat.reduceSub, decide_eq_true_eq, decide_eq_false_iff_not, Bool.true_eq_false, Bool.false_eq_true, true_implies, false_implies, implies_true, Nat.reduceLT, exists_const, z_vB_inj, and_assoc, z_in_iff, oI2L, oL2I, Int.toNat_natCast, z_toNat0, Bool.not_eq_true', Bool.not_eq_false', ne_eq, Bool.not_true, Bool.not_false, Nat.add_zero, Int.add_zero, z_sl_s]
    refine qS_loop (fun i ρ h' => ρ = [vR o, vI (i : Int)] ∧ h' = h.set a (.inr (0, N, fun k => if k < i then c else f k))) N ?_ ?_ N 0 z_fuel _ _ ?_ ?_ ?_
    · rintro i _ _ hi ⟨rfl, rfl⟩
      have ho2 : (h.set a (.inr (0, N, fun k => if k < i then c else f k)))[o]? = some (.inl (6, fs)) := by rw [z_set_ne (fun q => hoa q.symm)]; exact ho
      simp only [q_obj ho2, hk, q_arr (z_set_get ha) (show N < 2147483648 by omega), qS_nop, qS_seq, qS_set, qS_setJ, qS_if, qS_brk, qS_ret, qS_retV, qS_throw, qS_inc, qS_cl, qS_ast, qS_aop, qS_fst, qS_fop, qS_sw, qT_eC, qT_eCB, qT_eL, qT_eLJ, qT_eLR, qT_eLB, qT_e1, qT_e2, qT_bCmp, qT_bCmpJ, qT_bAnd, qT_bOr, qT_bNot, qT_eBI, qT_eIf, qT_eLd, qT_eLdR, qT_eLen, qT_eF, qT_eFR, qT_aN, qT_aS, qT_eCl, qT_eClR, qT_eClB, qT_some, qT_x, z_nx_N, z_nx_B, z_nx_R, z_nx_X, z_bk_N, z_bk_B, z_bk_R, z_bk_X, oAdd, oSub, oMul, oNeg, cLt, cLe, cGt, cGe, cEq, cNe, Option.some.injEq, Sum.inl.injEq, Sum.inr.injEq, Prod.mk.injEq, exists_eq_left, exists_eq_left', exists_eq_right, exists_and_left, reduceCtorEq, and_true, true_and, and_false, false_and, List.getElem?_cons_zero, List.getElem?_cons_succ, List.set_cons_zero, List.set_cons_succ, List.replicate, List.length_cons, List.length_nil, List.cons_append, List.nil_append, Nat.reduceAdd, Nat.reduceSub, decide_eq_true_eq, decide_eq_false_iff_not, Bool.true_eq_false, Bool.false_eq_true, true_implies, false_implies, implies_true, Nat.reduceLT, exists_const, z_vB_inj, and_assoc, z_in_iff, oI2L, oL2I, Int.toNat_natCast, z_toNat0, Bool.not_eq_true', Bool.not_eq_false', ne_eq, Bool.not_true, Bool.not_false, Nat.add_zero, Int.add_zero, z_sl_s]
      refine ⟨by omega, by omega, by omega, by omega, by omega, by omega, by omega, by simp, ?_⟩
      rw [List.set_set, z_upto f (fun _ => c)]
    · rintro _ _ ⟨rfl, rfl⟩
      simp only [qS_nop, qS_seq, qS_set, qS_setJ, qS_if, qS_brk, qS_ret, qS_retV, qS_throw, qS_inc, qS_cl, qS_ast, qS_aop, qS_fst, qS_fop, qS_sw, qT_eC, qT_eCB, qT_eL, qT_eLJ, qT_eLR, qT_eLB, qT_e1, qT_e2, qT_bCmp, qT_bCmpJ, qT_bAnd, qT_bOr, qT_bNot, qT_eBI, qT_eIf, qT_eLd, qT_eLdR, qT_eLen, qT_eF, qT_eFR, qT_aN, qT_aS, qT_eCl, qT_eClR, qT_eClB, qT_some, qT_x, z_nx_N, z_nx_B, z_nx_R, z_nx_X, z_bk_N, z_bk_B, z_bk_R, z_bk_X, oAdd, oSub, oMul, oNeg, cLt, cLe, cGt, cGe, cEq, cNe, Option.some.injEq, Sum.inl.injEq, Sum.inr.injEq, Prod.mk.injEq, exists_eq_left, exists_eq_left', exists_eq_right, exists_and_left, reduceCtorEq, and_true, true_and, and_false, false_and, List.getElem?_cons_zero, List.getElem?_cons_succ, List.set_cons_zero, List.set_cons_succ, List.replicate, List.length_cons, List.length_nil, List.cons_append, List.nil_append, Nat.reduceAdd, Nat.reduceSub, decide_eq_true_eq, decide_eq_false_iff_not, Bool.true_eq_false, Bool.false_eq_true, true_implies, false_implies, implies_true, Nat.reduceLT, exists_const, z_vB_inj, and_assoc, z_in_iff, oI2L, oL2I, Int.toNat_natCast, z_toNat0, Bool.not_eq_true', Bool.not_eq_false', ne_eq, Bool.not_true, Bool.not_false, Nat.add_zero, Int.add_zero, z_sl_s]
      refine ⟨by omega, by omega, by omega⟩
    · omega
    · exact z_fuel_lt (by omega)
    · refine ⟨rfl, ?_⟩
      simp only [Nat.not_lt_zero, if_false]
      rw [z_set_id ha]
  unfold qS qO at key
  split at key
  · next oc h1 hs =>
    rw [hs, key.1, key.2]
  · exact key.elim
