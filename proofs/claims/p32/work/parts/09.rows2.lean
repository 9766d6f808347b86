/-! ROWS of arrays, fields, calls, ends -/
def z_KX (o : Option z_V ⊕ String) (hf : z_Hp) : String → z_Hp → Prop := fun E h => o = .inr E ∧ hf = h
def z_KR (o : Option z_V ⊕ String) (hf : z_Hp) : Option z_V → z_Hp → Prop := fun r h => o = .inl r ∧ hf = h
theorem z_arr_some {h : z_Hp} {r t n : Nat} {f : Nat → Int} (e : z_arr h r t = some (n, f)) : h[r]? = some (.inr (t, n, f)) ∧ n < 2147483648 := by
  unfold z_arr at e
  split at e
  · next t' n' f' hq =>
    split at e
    · next hc =>
      cases e
      obtain ⟨rfl, h2⟩ := hc
      exact ⟨hq, h2⟩
    · cases e
  · cases e
theorem z_obj_some {h : z_Hp} {r ci : Nat} {fs : List z_V} (e : z_obj h r ci = some fs) : h[r]? = some (.inl (ci, fs)) := by
  unfold z_obj at e
  split at e
  · next ci' fs' hq =>
    split at e
    · next hc =>
      cases e
      subst hc
      exact hq
    · cases e
  · cases e
theorem z_clamp {j : Int} {n : Nat} (h0 : 0 ≤ j) (h1 : j < (n : Int)) (hn : n < 2147483648) : (Int32.ofInt j).toNatClampNeg = j.toNat ∧ vp_in (Int32.ofInt j) n := by
  have hz : z_in j = true := by
    simp only [z_in, Bool.and_eq_true, decide_eq_true_eq]
    omega
  have hc : (Int32.ofInt j).toNatClampNeg = j.toNat := by
    show (Int32.ofInt j).toInt.toNat = j.toNat
    rw [z_toInt hz]
  refine ⟨hc, ?_⟩
  intro q
  rcases q with q | q
  · rw [Int32.lt_iff_toInt_lt, z_toInt hz, Int32.toInt_zero] at q
    omega
  · rw [hc] at q
    omega
theorem z_cat_kV (base : z_B) (v : z_V) : (z_kV base v).category = z_cat v := by
  rcases v with n | n | r | u
  · rfl
  · rfl
  · rfl
  · cases u <;> rfl
theorem z_cat_sum (base : z_B) (st : List z_V) : ((st.map (z_kV base)).map fun v => v.category).sum = z_wt st := by
  rw [List.map_map]
  unfold z_wt
  congr 1
  apply List.map_congr_left
  intro v _
  exact z_cat_kV base v
section ZS
variable {p : Program} {l : Launch} {e : Env} {s : State} {m : MethodId} {args : Array Value} {below : List Frame} {meth : Method} {c : Code} {base : z_B} {D : va_G} {dT : Nat → ClassId} {R : Room} {Q : State → Prop} {tb : List ExceptionTableEntry} {jL nL F L mc ms k n : Nat} {o : Option z_V ⊕ String} {hf : z_Hp} {cc : ByteArray} {own : String} {Ts : List Cond} {rt : Option FieldType} {pc : Nat} {d : Nat}
theorem z_iald (C : z_Cx p l s m args meth c base cc nL own Ts rt tb) (hdg : decode cc pc = .ok (.iaload, 1)) : ∀ h ρ st r j n' f, z_arr h r 0 = some (n', f) → 0 ≤ j → j < (n' : Int) → z_K p l e R s m args below meth c base D dT jL nL Q k n h ρ (pc + 1) (vI (f j.toNat) :: st) → z_K p l e R s m args below meth c base D dT jL nL Q k n h ρ pc (vI j :: vR r :: st) := by
  intro h ρ st r j n' f ha h0 h1 k1 H locs ls hR hL
  obtain ⟨e1, e2⟩ := z_arr_some ha
  obtain ⟨c1, c2⟩ := z_clamp h0 h1 e2
  refine va_iald C.1 C.2.1 hR.2.1 hR.1 r 0 (cA := dT 0) (n := n') (f := fun j => Int32.ofInt (f j)) (z_kW_get e1) rfl c2 hdg ?_
  rw [c1]
  exact k1 H locs ls hR hL
theorem z_aald (C : z_Cx p l s m args meth c base cc nL own Ts rt tb) {t : Nat} {ty : FieldType} (ht : (z_tys dT)[t + 2]? = some (dT (t + 2), ty)) (hty : ty.isReference = true) (hdg : decode cc pc = .ok (.aaload, 1)) : ∀ h ρ st r j n' f, z_arr h r (t + 2) = some (n', f) → 0 ≤ j → j < (n' : Int) → 0 ≤ f j.toNat → z_K p l e R s m args below meth c base D dT jL nL Q k n h ρ (pc + 1) (vR (f j.toNat).toNat :: st) → z_K p l e R s m args below meth c base D dT jL nL Q k n h ρ pc (vI j :: vR r :: st) := by
  intro h ρ st r j n' f ha h0 h1 hz k1 H locs ls hR hL
  obtain ⟨e1, e2⟩ := z_arr_some ha
  obtain ⟨c1, c2⟩ := z_clamp h0 h1 e2
  have hcell : H[z_ad base r]? = some (arrV (dT (t + 2)) n' (fun j => va_rf (if f j < 0 then none else some (z_ad base (f j).toNat)))) := hR.1 r _ (z_kW_get e1)
  refine W.aald (v := .ref (z_ad base (f j.toNat).toNat)) (ty := ty) C.1 C.2.1 hcell ((hR.2.1.2 (t + 2) _ ht).1 n' _) hty (fun q => by cases q) (by rw [arrV_size]; exact c2) ?_ rfl rfl hdg (k1 H locs ls hR hL)
  rw [c1, arrV_read _ _ (by omega)]
  simp only [va_rf, if_neg (show ¬ f j.toNat < 0 by omega)]
theorem z_alen (C : z_Cx p l s m args meth c base cc nL own Ts rt tb) (hdg : decode cc pc = .ok (.arraylength, 1)) : ∀ h ρ st r n' f, z_arr h r 0 = some (n', f) → z_K p l e R s m args below meth c base D dT jL nL Q k n h ρ (pc + 1) (vI (n' : Int) :: st) → z_K p l e R s m args below meth c base D dT jL nL Q k n h ρ pc (vR r :: st) := by
  intro h ρ st r n' f ha k1 H locs ls hR hL
  obtain ⟨e1, e2⟩ := z_arr_some ha
  exact va_alen C.1 C.2.1 hR.2.1 hR.1 r 0 (cA := dT 0) (x := (n', .inl (fun j => Int32.ofInt (f j)))) (z_kW_get e1) rfl (v := Int32.ofInt (n' : Int)) rfl hdg (k1 H locs ls hR hL)
theorem z_iast (C : z_Cx p l s m args meth c base cc nL own Ts rt tb) (hdg : decode cc pc = .ok (.iastore, 1)) : iASt (z_K p l e R s m args below meth c base D dT jL nL Q k n) 0 vI pc (pc + 1) := by
  intro h ρ st r j n' f v ha h0 h1 k1 H locs ls hR hL
  obtain ⟨e1, e2⟩ := z_arr_some ha
  obtain ⟨c1, c2⟩ := z_clamp h0 h1 e2
  refine va_iast C.1 C.2.1 hR.2.1 hR.1 z_kW_D hR.2.2 r 0 (cA := dT 0) (n := n') (f := fun j => Int32.ofInt (f j)) (z_kW_get e1) rfl c2 hdg (fun H1 locs1 hP _ hS => ?_)
  refine k1 H1 locs1 ls ⟨?_, hR.2.1, hS⟩ hL
  have hu : upd (fun j => Int32.ofInt (f j)) j.toNat (Int32.ofInt v) = fun i => Int32.ofInt (z_up f j.toNat v i) := by
    funext i
    unfold upd z_up
    split <;> rfl
  rw [c1, hu] at hP
  rw [← z_kW_set]
  exact hP
theorem z_dup (C : z_Cx p l s m args meth c base cc nL own Ts rt tb) (hdg : decode cc pc = .ok (.dup, 1)) : ∀ h ρ r, z_K p l e R s m args below meth c base D dT jL nL Q k n h ρ (pc + 1) [vR r, vR r] → z_K p l e R s m args below meth c base D dT jL nL Q k n h ρ pc [vR r] :=
  fun h ρ r k1 H locs ls hR hL => lv_dup C.1 C.2.1 hdg rfl (k1 H locs ls hR hL)
theorem z_dup2 (C : z_Cx p l s m args meth c base cc nL own Ts rt tb) (hdg : decode cc pc = .ok (.dup2, 1)) : ∀ h ρ r j, z_K p l e R s m args below meth c base D dT jL nL Q k n h ρ (pc + 1) [vI j, vR r, vI j, vR r] → z_K p l e R s m args below meth c base D dT jL nL Q k n h ρ pc [vI j, vR r] :=
  fun h ρ r j k1 H locs ls hR hL => lv_dup2_11 C.1 C.2.1 hdg rfl rfl (k1 H locs ls hR hL)
theorem z_inc (C : z_Cx p l s m args meth c base cc nL own Ts rt tb) {i : Nat} {x : Int} (hdg : decode cc pc = .ok (.iinc i x, 3)) (hn : i < nL) (hj : i ≠ jL + 1) : ∀ h ρ (y : Int), ρ[i]? = some (vI y) → z_K p l e R s m args below meth c base D dT jL nL Q k n h (ρ.set i (vI (y + x))) (pc + 3) [] → z_K p l e R s m args below meth c base D dT jL nL Q k n h ρ pc [] := by
  intro h ρ y hy k1 H locs ls hR hL
  obtain ⟨lv, h1, h2, h3⟩ := hL
  obtain ⟨kk, hkk⟩ := List.getElem?_of_mem (h3 i _ hy (fun q => by cases q))
  refine lv_iinc C.1 C.2.1 hdg h1 (k := kk) (x := Int32.ofInt y) hkk (v := Int32.ofInt (y + x)) (Int32.ofInt_add y x).symm hn rfl (fun ls' h4 => ?_)
  exact k1 H locs ls' hR (z_lv_set h4 h2 h3 hj (by intro q; cases q) rfl)
-- fields
theorem z_get (C : z_Cx p l s m args meth c base cc nL own Ts rt tb) {CC ref : String} {TT : u_T} {N ix ci : Nat} (kf : Nat) (hin : ∀ w ∈ u_ws CC TT N, w ∈ Ts) (hc : vwCl[ci]? = some (CC, TT, N)) (hk : kf < N) (hlink : Cond.fieldLink own ix ref (TT kf).2.1 (TT kf).2.2.1 ∈ Ts) (href : ref = (TT kf).1) (hdg : decode cc pc = .ok (.getfield ix, 3)) : iF (z_K p l e R s m args below meth c base D dT jL nL Q k n) ci kf pc (pc + 3) := by
  intro h ρ st r fs v ho hv hn k1 H locs ls hR hL
  exact va_get (fs := fs.map (z_kV base)) C.1 C.2.1 C.2.2.2.2.1 hin C.2.2.2.1 hR.2.1 hR.1 r (z_kW_get (z_obj_some ho)) hc kf hk (C.2.2.2.2.1 _ hlink) (fun x hx => by rw [href]; exact hx) (v := z_kV base v) (by rw [List.getElem?_map, hv]; rfl) hdg (k1 H locs ls hR hL)
theorem z_getN (C : z_Cx p l s m args meth c base cc nL own Ts rt tb) {CC ref host : String} {TT : u_T} {N ix ci : Nat} (kf : Nat) (hin : ∀ w ∈ u_ws CC TT N, w ∈ Ts) (hc : vwCl[ci]? = some (CC, TT, N)) (hk : kf < N) (hlink : Cond.fieldLinkNest own ix ref (TT kf).2.1 (TT kf).2.2.1 host ∈ z_xw) (href : ref = (TT kf).1) (hdg : decode cc pc = .ok (.getfield ix, 3)) : iF (z_K p l e R s m args below meth c base D dT jL nL Q k n) ci kf pc (pc + 3) := by
  intro h ρ st r fs v ho hv hn k1 H locs ls hR hL
  exact va_getN (fs := fs.map (z_kV base)) C.1 C.2.1 C.2.2.2.2.1 hin C.2.2.2.1 hR.2.1 hR.1 r (z_kW_get (z_obj_some ho)) hc kf hk (va_Nw.use rfl (C.2.2.2.2.2.2.2.2.1.2.2.1 _ hlink)) (fun x hx => by rw [href]; exact hx) (v := z_kV base v) (by rw [List.getElem?_map, hv]; rfl) hdg (k1 H locs ls hR hL)
theorem z_put (C : z_Cx p l s m args meth c base cc nL own Ts rt tb) {CC ref : String} {TT : u_T} {N ix ci : Nat} (kf : Nat) (hin : ∀ w ∈ u_ws CC TT N, w ∈ Ts) (ty0 : Nat → FieldType) (hty : ∀ k, k < N → parseFieldDescriptor (TT k).2.2.1 = some (ty0 k)) (hnm : ∀ a, a < N → ∀ b, b < N → a ≠ b → (TT a).2.1 ≠ (TT b).2.1) (hc : vwCl[ci]? = some (CC, TT, N)) (hk : kf < N) (hlink : Cond.fieldLink own ix ref (TT kf).2.1 (TT kf).2.2.1 ∈ Ts) (href : ref = (TT kf).1) (hfin : (TT kf).2.2.2 = false) (hd : parseFieldDescriptor (TT kf).2.2.1 = some .int) (hdg : decode cc pc = .ok (.putfield ix, 3)) : iFSt (z_K p l e R s m args below meth c base D dT jL nL Q k n) ci kf vI pc (pc + 3) := by
  intro h ρ st r fs v ho hl k1 H locs ls hR hL
  refine va_put (fs := fs.map (z_kV base)) (ty := .int) (v := .int (Int32.ofInt v)) C.1 C.2.1 C.2.2.2.2.1 hin ty0 hty hnm C.2.2.2.1 hR.2.1 hR.1 z_kW_D hR.2.2 r (z_kW_get (z_obj_some ho)) hc kf hk (C.2.2.2.2.1 _ hlink) (fun x hx => by rw [href]; exact hx) hfin hd rfl rfl (by rw [List.length_map]; exact hl) hdg (fun H1 locs1 hP _ hS => ?_)
  refine k1 H1 locs1 ls ⟨?_, hR.2.1, hS⟩ hL
  rw [← z_kW_set]
  show va_P D vwCl ((z_kW base dT h).set r (z_ad base r, .inr (ci, (fs.set kf (vI v)).map (z_kV base)))) H1
  rw [List.map_set]
  exact hP
end ZS
