/-! THE WHOLE: out of what the Statement gives of the start -/
theorem ws_strs : ∀ q ∈ z_strs, Cond.stringRef q.1 q.2.1 q.2.2 ∈ lw_tbl := by decide +kernel
theorem ws_strx : ∀ q ∈ z_strs, Cond.exactly (.string q.1 q.2.1) "java/lang/String" ∈ flatC (Jvm.Cond.and given_1 narrow_1) := by decide +kernel
theorem ws_xw : ∀ w ∈ z_xw, w ∈ lw_tbl := by decide +kernel
theorem ws_I {A : Array Value} {s : State} {ty : FieldType} (h : (Cond.arrayClass ty).before A s = true) : ∃ cA : ClassId, ArrOfT s cA ty ∧ s.vm.findClass ("[" ++ ty.toString) = some cA := by
  obtain ⟨c, k, comp, h1, h2, h3⟩ := Cond.arrayClass_spec h
  exact ⟨c, fun n z => ⟨fun k h => (by cases h), k, h2, comp, h3⟩, h1⟩
theorem ws_O {A : Array Value} {s : State} {C : String} (h : (Cond.arrayOver (.object C)).before A s = true) : ∃ cA : ClassId, ArrOfT s cA (.object C) ∧ va_RA s cA (.object C) := by
  obtain ⟨comp, c, k, h1, h2, h3, h4, h5⟩ := Cond.arrayOver_spec h
  exact ⟨c, fun n z => ⟨fun k h => (by cases h), k, h3, comp, h4⟩, k, comp, h3, h4, h1, h5⟩
theorem ws_A {A : Array Value} {s : State} {ty : FieldType} (h : (Cond.arrayOver (.array ty)).before A s = true) : ∃ cA : ClassId, ArrOfT s cA (.array ty) ∧ s.vm.findClass ("[" ++ (FieldType.array ty).toString) = some cA := by
  obtain ⟨comp, c, k, h1, h2, h3, h4, h5⟩ := arrayOverA_spec h
  exact ⟨c, fun n z => ⟨fun k h => (by cases h), k, h3, comp, h4⟩, h5⟩
theorem ws_K {s : State} {args : Array Value} (hts : ∀ w ∈ lw_tbl, w.before args s = true) : ∃ (D : va_G) (dT : Nat → ClassId), va_K D vwCl (z_tys dT) s := by
  obtain ⟨c0, i0, k0⟩ := u_known (C := RX0) (T := TX0) (N := 2) (n := 2) hts wsL_fX0 (hts _ (by decide +kernel))
  obtain ⟨c1, i1, k1⟩ := u_known (C := RX1) (T := TX1) (N := 2) (n := 2) hts wsL_fX1 (hts _ (by decide +kernel))
  obtain ⟨c2, i2, k2⟩ := u_known (C := RX2) (T := TX2) (N := 2) (n := 2) hts wsL_fX2 (hts _ (by decide +kernel))
  obtain ⟨c3, i3, k3⟩ := u_known (C := RX3) (T := TX3) (N := 5) (n := 5) hts wsL_fX3 (hts _ (by decide +kernel))
  obtain ⟨c4, i4, k4⟩ := u_known (C := RX4) (T := TX4) (N := 1) (n := 1) hts wsL_fX4 (hts _ (by decide +kernel))
  obtain ⟨c5, i5, k5⟩ := u_known (C := RX5) (T := TX5) (N := 10) (n := 10) hts wsL_fX5 (hts _ (by decide +kernel))
  obtain ⟨a0, b0, d0⟩ := ws_I (ty := .int) (hts _ (by decide +kernel))
  obtain ⟨a2, b2, d2⟩ := ws_O (C := "Amoebary$Matrix") (hts _ (by decide +kernel))
  obtain ⟨a3, b3, d3⟩ := ws_O (C := "Amoebary$Polynomial") (hts _ (by decide +kernel))
  obtain ⟨a4, b4, d4⟩ := ws_A (ty := .int) (hts _ (by decide +kernel))
  refine ⟨(fun i => [c0, c1, c2, c3, c4, c5].getD i c0, fun i => [i0, i1, i2, i3, i4, i5].getD i i0), fun t => [a0, a0, a2, a3, a4].getD t a0, fun i q hq => ?_, fun i q hq => ?_⟩
  · match i, hq with
    | 0, hq => cases hq; exact k0
    | 1, hq => cases hq; exact k1
    | 2, hq => cases hq; exact k2
    | 3, hq => cases hq; exact k3
    | 4, hq => cases hq; exact k4
    | 5, hq => cases hq; exact k5
    | i + 6, hq => exact absurd (List.getElem?_eq_some_iff.mp hq).1 (by show ¬ i + 6 < 6; omega)
  · match i, hq with
    | 0, hq => cases hq; exact ⟨b0, d0⟩
    | 1, hq => cases hq; exact ⟨b0, d0⟩
    | 2, hq => cases hq; exact ⟨b2, d2⟩
    | 3, hq => cases hq; exact ⟨b3, d3⟩
    | 4, hq => cases hq; exact ⟨b4, d4⟩
    | i + 5, hq => exact absurd (List.getElem?_eq_some_iff.mp hq).1 (by show ¬ i + 5 < 5; omega)
theorem ws_X {b L : Nat} {xs : Nat → Int32} {s : State} (h : va_X b L xs s s.heap) : ∃ sc : List Int, sc.length = L ∧ va_X b sc.length (fun j => Int32.ofInt (sc.getD j 0)) s s.heap := by
  obtain ⟨scr, h1, h2, h3, h4, h5⟩ := h
  refine ⟨(List.range L).map (fun j => (xs j).toInt), by simp, scr, h1, h2, h3, by simpa using h4, fun j hj => ?_⟩
  have hj : j < L := by simpa using hj
  rw [h5 j hj]
  have e : ((List.range L).map (fun j => (xs j).toInt)).getD j 0 = (xs j).toInt := by
    rw [List.getD_eq_getElem?_getD, List.getElem?_map, List.getElem?_range hj]
    rfl
  show some (Value.int (xs j)) = some (Value.int (Int32.ofInt (((List.range L).map (fun j => (xs j).toInt)).getD j 0)))
  rw [e, Int32.ofInt_toInt]
theorem whole_start {p : Program} {e : Env} {s : State} {m : MethodId} {below : List Frame} {meth : Method} {c : Code} (l : Launch) (hflags : l.flags = flags0) {b L : Nat} {xs : Nat → Int32} (hL : L ≤ 260) (C0 : lw_At p s m meth c b L xs) : W p l e room_1 s m #[Value.ref b] below meth c s.heap [] 0 0 (lw_Zr below #[Value.ref b] s) (entryFrame m ([Value.ref b] : List Value).toArray 5) := by
  obtain ⟨c1, c2, c3, c4, c5, c6, c7, c8, c9, c10⟩ := C0
  have hs := flat_of_before _ c10
  have hfl : l.stackTraces = false := by
    unfold Launch.stackTraces
    rw [hflags]
    decide +kernel
  obtain ⟨D, dT, hK⟩ := ws_K c6
  obtain ⟨sc, hsc, hX⟩ := ws_X c7
  have hl : sc.length < 2147483648 := by omega
  have hno : ∀ a : Nat, a < s.heap.size → ¬ z_A (bs c8 sc) a := fun a ha q => absurd ha (Nat.not_lt.mpr q)
  have hnc : z_ncs s := ⟨va_Nc.of (hs _ (by decide +kernel)), va_Nc.of (hs _ (by decide +kernel))⟩
  have hsw : z_sw (bs c8 sc) s := ⟨vx_Zqof (c6 _ (by decide +kernel)) (c6 _ (by decide +kernel)) (hs _ (by decide +kernel)) hno, vx_Zqof (c6 _ (by decide +kernel)) (c6 _ (by decide +kernel)) (hs _ (by decide +kernel)) hno, fun w hw => va_tabs (z_xw_tab w hw) rfl (c6 w (ws_xw w hw)), (fun q hq => by
    obtain ⟨a, -, -, -, ha, -⟩ := Cond.exactly_spec (hs _ (ws_strx q hq))
    exact ⟨a, vk_R.of (c6 _ (ws_strs q hq)) ha⟩), hnc, hX, c8⟩
  have hao : z_ao s := ⟨va_AO.of (c6 _ (by decide +kernel)), va_AO.of (c6 _ (by decide +kernel)), c6 (Cond.arrayOver (.array .int)) (by decide +kernel)⟩
  have C : lC p l s m meth c b c8 sc c.exceptionTable.toList := ⟨c1, c2, c4, c5, c6, c9, hfl, fun q hq => hq, hsw, rfl, c3⟩
  obtain ⟨ls, eF, hlv⟩ := z_entry (base := bs c8 sc) (As := [vS]) (nA := 1) (nL := 5) (jL := 99) (m := m) rfl rfl (by decide)
  have eF2 : entryFrame m ([Value.ref b] : List Value).toArray 5 = F0 m 0 ls [] := eF
  rw [eF2]
  exact lw_begin C hfl hao hl s.heap [] ls ⟨fun k q hq => (by cases hq), hK, va_S.rf⟩ hlv
