/-! ROWS: Math.min, Math.max, System.arraycopy, longs compared and kept, switches -/
theorem z_clamp0 {x : Int} {n : Nat} (h0 : 0 ≤ x) (h1 : x ≤ (n : Int)) (hn : n < 2147483648) : (Int32.ofInt x).toNatClampNeg = x.toNat ∧ ¬ Int32.ofInt x < 0 := by
  have hz : z_in x = true := by
    simp only [z_in, Bool.and_eq_true, decide_eq_true_eq]
    omega
  refine ⟨?_, fun q => ?_⟩
  · show (Int32.ofInt x).toInt.toNat = x.toNat
    rw [z_toInt hz]
  · rw [Int32.lt_iff_toInt_lt, z_toInt hz, Int32.toInt_zero] at q
    omega
section ZT
variable {p : Program} {l : Launch} {e : Env} {s : State} {m : MethodId} {args : Array Value} {below : List Frame} {meth : Method} {c : Code} {base : z_B} {D : va_G} {dT : Nat → ClassId} {R : Room} {Q : State → Prop} {tb : List ExceptionTableEntry} {jL nL F L mc ms k n : Nat} {o : Option z_V ⊕ String} {hf : z_Hp} {cc : ByteArray} {own : String} {Ts : List Cond} {rt : Option FieldType} {pc : Nat} {d : Nat} {KX : String → z_Hp → Prop}
theorem z_cMin (C : z_Cx p l s m args meth c base cc nL own Ts rt tb) (hk0 : k ≤ R.cells ∧ n ≤ R.slots) {ix : Nat} (hlink : Cond.methodLink own ix Lib.Math.min.name ∈ Ts) (hstat : Cond.static Lib.Math.min.name ∈ Ts) (hini : Cond.initialized "java/lang/Math" ∈ Ts) (hcode : Cond.code Lib.Math.min.name Lib.Math.min.code 2 (some .int) ∈ Ts) (hRm : 1 ≤ R.frames ∧ 21 ≤ R.locals) (hd8 : d ≤ 8) (hdg : decode cc pc = .ok (.invokestatic ix, 3)) :
    iC (z_K p l e R s m args below meth c base D dT jL nL Q k n) KX z_mmin 2 d pc (pc + 3) := by
  refine iC.of fun h ρ st Ls q1 q2 q3 o' h' e1 kk kx => ?_
  unfold z_mmin at e1
  split at e1
  · next x y =>
    split at e1
    · next hz =>
      cases e1
      intro H locs ls hR hL
      refine va_mmin C.1 C.2.1 (C.2.2.1.trans (z_lv.sz hL).symm) C.2.2.2.1 (C.2.2.2.2.1 _ hlink) (C.2.2.2.2.1 _ hstat) (C.2.2.2.2.1 _ hini) (C.2.2.2.2.1 _ hcode) hRm.1 (by rw [z_cat_sum]; show z_wt st + 13 ≤ R.locals; omega) hk0.1 hk0.2 hdg ?_
      have k2 := kk _ rfl H locs ls hR hL
      rw [show (if Int32.ofInt y < Int32.ofInt x then Int32.ofInt y else Int32.ofInt x) = Int32.ofInt (if y < x then y else x) by
        by_cases hc : y < x
        · rw [if_pos hc, if_pos ((z_lt (by rw [Bool.and_comm]; exact hz)).mpr hc)]
        · rw [if_neg hc, if_neg (fun q => hc ((z_lt (by rw [Bool.and_comm]; exact hz)).mp q))]]
      exact k2
    · cases e1
  · cases e1
theorem z_cMax (C : z_Cx p l s m args meth c base cc nL own Ts rt tb) (hk0 : k ≤ R.cells ∧ n ≤ R.slots) {ix : Nat} (hlink : Cond.methodLink own ix Lib.Math.max.name ∈ Ts) (hstat : Cond.static Lib.Math.max.name ∈ Ts) (hini : Cond.initialized "java/lang/Math" ∈ Ts) (hcode : Cond.code Lib.Math.max.name Lib.Math.max.code 2 (some .int) ∈ Ts) (hRm : 1 ≤ R.frames ∧ 21 ≤ R.locals) (hd8 : d ≤ 8) (hdg : decode cc pc = .ok (.invokestatic ix, 3)) :
    iC (z_K p l e R s m args below meth c base D dT jL nL Q k n) KX z_mmax 2 d pc (pc + 3) := by
  refine iC.of fun h ρ st Ls q1 q2 q3 o' h' e1 kk kx => ?_
  unfold z_mmax at e1
  split at e1
  · next x y =>
    split at e1
    · next hz =>
      cases e1
      intro H locs ls hR hL
      refine va_mmax C.1 C.2.1 (C.2.2.1.trans (z_lv.sz hL).symm) C.2.2.2.1 (C.2.2.2.2.1 _ hlink) (C.2.2.2.2.1 _ hstat) (C.2.2.2.2.1 _ hini) (C.2.2.2.2.1 _ hcode) hRm.1 (by rw [z_cat_sum]; show z_wt st + 13 ≤ R.locals; omega) hk0.1 hk0.2 hdg ?_
      have k2 := kk _ rfl H locs ls hR hL
      rw [show (if Int32.ofInt x < Int32.ofInt y then Int32.ofInt y else Int32.ofInt x) = Int32.ofInt (if x < y then y else x) by
        by_cases hc : x < y
        · rw [if_pos hc, if_pos ((z_lt hz).mpr hc)]
        · rw [if_neg hc, if_neg (fun q => hc ((z_lt hz).mp q))]]
      exact k2
    · cases e1
  · cases e1
theorem z_cCopy (C : z_Cx p l s m args meth c base cc nL own Ts rt tb) {ix : Nat} (hlink : Cond.methodLink own ix arraycopyName ∈ Ts) (hnat : Cond.native arraycopyName ∈ Ts) (hstat : Cond.static arraycopyName ∈ Ts) (hini : Cond.initialized "java/lang/System" ∈ Ts) (hRm : 1 ≤ R.frames ∧ 8 + (nativeFrameWords "java/lang/System" "arraycopy" 5 + 11) ≤ R.locals) (hd8 : d ≤ 8) (hdg : decode cc pc = .ok (.invokestatic ix, 3)) :
    iC (z_K p l e R s m args below meth c base D dT jL nL Q k n) KX z_acopy 5 d pc (pc + 3) := by
  refine iC.of fun h ρ st Ls q1 q2 q3 o' h' e1 kk kx => ?_
  unfold z_acopy at e1
  split at e1
  · next a sp b dp nn =>
    split at e1
    · next n0 f n1 g ha hb =>
      split at e1
      · next hc =>
        cases e1
        obtain ⟨h1, h2, h3, h4, h5⟩ := hc
        obtain ⟨ea, la⟩ := z_arr_some ha
        obtain ⟨eb, lb⟩ := z_arr_some hb
        obtain ⟨c1, g1⟩ := z_clamp0 h1 (show sp ≤ (n0 : Int) by omega) la
        obtain ⟨c2, g2⟩ := z_clamp0 h2 (show dp ≤ (n1 : Int) by omega) lb
        obtain ⟨c3, g3⟩ := z_clamp0 h3 (show nn ≤ (n0 : Int) by omega) la
        intro H locs ls hR hL
        refine va_copyi C.1 C.2.1 (C.2.2.1.trans (z_lv.sz hL).symm) C.2.2.2.1 (C.2.2.2.2.1 _ hlink) (C.2.2.2.2.1 _ hnat) (C.2.2.2.2.1 _ hstat) (C.2.2.2.2.1 _ hini) hR.2.1 hR.1 z_kW_D hR.2.2 a b 0 0 (a0 := z_ad base a) (c0 := dT 0) (c1 := dT 0) (n0 := n0) (n1 := n1) (f := fun j => Int32.ofInt (f j)) (g := fun j => Int32.ofInt (g j)) (ty := .int) (z_kW_get ea) (z_kW_get eb) rfl rfl rfl g1 g2 g3 (by rw [c1, c3]; omega) (by rw [c2, c3]; omega) (fun _ _ => rfl) hRm.1 (by rw [z_cat_sum]; show z_wt st + _ ≤ R.locals; omega) hdg (fun H1 locs1 hP _ hS => ?_)
        refine kk _ rfl H1 locs1 ls ⟨?_, hR.2.1, hS⟩ hL
        have hu : va_cpy (fun j => Int32.ofInt (f j)) (fun j => Int32.ofInt (g j)) sp.toNat dp.toNat nn.toNat = fun i => Int32.ofInt (z_cp f g sp.toNat dp.toNat nn.toNat i) := by
          funext i
          unfold va_cpy z_cp
          split <;> rfl
        rw [c1, c2, c3, hu] at hP
        rw [← z_kW_set]
        exact hP
      · cases e1
    · cases e1
  · cases e1
theorem z_lcmp_geN (C : z_Cx p l s m args meth c base cc nL own Ts rt tb) {off : Int} {tgt : Nat} (h1 : decode cc pc = .ok (.lcmp, 1)) (h2 : decode cc (pc + 1) = .ok (.ifCond .ge off, 3)) (ht : ((pc + 1 : Nat) : Int) + off = (tgt : Int)) : jJ (z_K p l e R s m args below meth c base D dT jL nL Q k n) cLt pc (pc + 1 + 3) tgt := by
  intro h ρ st x y hz kt kf H locs ls hR hL
  obtain ⟨z1, z2⟩ := Bool.and_eq_true_iff.mp hz
  refine W.lcmp C.1 C.2.1 h1 ?_
  refine lv_if_ge C.1 C.2.1 h2 ht (fun q => ?_) (fun q => ?_)
  · rw [lg_cmp_ge, Int64.le_iff_toInt_le, z_toIntJ z1, z_toIntJ z2] at q
    exact kf (by simp only [cLt, decide_eq_false_iff_not]; omega) H locs ls hR hL
  · rw [lg_cmp_ge, Int64.le_iff_toInt_le, z_toIntJ z1, z_toIntJ z2] at q
    exact kt (by simp only [cLt, decide_eq_true_eq]; omega) H locs ls hR hL
theorem z_lstore (C : z_Cx p l s m args meth c base cc nL own Ts rt tb) {i : Nat} (hdg : decode cc pc = .ok (.lstore i, 2)) (hn : i + 1 < nL) (hj : i = jL) : ∀ h ρ (v : Int), z_K p l e R s m args below meth c base D dT jL nL Q k n h ((ρ.set i (vJ v)).set (i + 1) vU) (pc + 2) [] → z_K p l e R s m args below meth c base D dT jL nL Q k n h ρ pc [vJ v] := by
  intro h ρ v k1 H locs ls hR hL
  obtain ⟨lv, h1, h2, h3⟩ := hL
  refine lv_lstore C.1 C.2.1 hdg h1 hn rfl (fun ls' h4 => k1 H locs ls' hR ⟨_, h4, fun q hq => ?_, fun j u hu hne => ?_⟩)
  · rcases List.mem_cons.mp hq with rfl | hq
    · exact Or.inr hj
    · exact h2 q (List.mem_filter.mp hq).1
  · rw [List.getElem?_set] at hu
    split at hu
    · split at hu
      · cases hu; exact absurd rfl hne
      · cases hu
    · next e1 =>
      rw [List.getElem?_set] at hu
      split at hu
      · next e2 =>
        split at hu
        · cases hu; subst e2; exact List.mem_cons_self
        · cases hu
      · next e2 =>
        refine List.mem_cons_of_mem _ (List.mem_filter.mpr ⟨h3 j u hu hne, ?_⟩)
        have h5 := h2 _ (h3 j u hu hne)
        have h6 : ¬ j = i := fun q => e2 q.symm
        have h7 : ¬ j = i + 1 := fun q => e1 q.symm
        simp only [Bool.and_eq_true, Bool.not_eq_true', beq_eq_false_iff_ne, ne_eq, h6, h7, not_false_eq_true, true_and, Bool.and_eq_false_iff]
        rcases h5 with h5 | h5
        · right
          rw [h5]
          decide
        · exact absurd (h5.trans hj.symm) h6
theorem z_tsIn (C : z_Cx p l s m args meth c base cc nL own Ts rt tb) {dflt hi : Int} {offs : Array Int} {len nC : Nat} {ps : Nat → Nat} (hdg : decode cc pc = .ok (.tableswitch dflt 0 hi offs, len)) (hhi : hi = (nC : Int) - 1) (hn : nC < 1000) (hps : ∀ i, i < nC → ∃ off, offs[i]? = some off ∧ (pc : Int) + off = (ps i : Int)) : ∀ h ρ (v : Int), 0 ≤ v → v < (nC : Int) → z_K p l e R s m args below meth c base D dT jL nL Q k n h ρ (ps v.toNat) [] → z_K p l e R s m args below meth c base D dT jL nL Q k n h ρ pc [vI v] := by
  intro h ρ v h0 h1 k1 H locs ls hR hL
  have hz : z_in v = true := by
    simp only [z_in, Bool.and_eq_true, decide_eq_true_eq]
    omega
  obtain ⟨off, e1, e2⟩ := hps v.toNat (by omega)
  refine lv_tableIn C.1 C.2.1 hdg (by rw [z_toInt hz]; omega) (by rw [z_toInt hz]; omega) (off := off) (tgt := ps v.toNat) ?_ e2 (k1 H locs ls hR hL)
  rw [z_toInt hz, Int.sub_zero]
  exact e1
theorem z_tsOut (C : z_Cx p l s m args meth c base cc nL own Ts rt tb) {dflt hi : Int} {offs : Array Int} {len nC pd : Nat} (hdg : decode cc pc = .ok (.tableswitch dflt 0 hi offs, len)) (hhi : hi = (nC : Int) - 1) (hpd : (pc : Int) + dflt = (pd : Int)) : ∀ h ρ (v : Int), z_in v = true → ¬ (0 ≤ v ∧ v < (nC : Int)) → z_K p l e R s m args below meth c base D dT jL nL Q k n h ρ pd [] → z_K p l e R s m args below meth c base D dT jL nL Q k n h ρ pc [vI v] := by
  intro h ρ v hz h1 k1 H locs ls hR hL
  exact lv_tableOut C.1 C.2.1 hdg (by rw [z_toInt hz]; omega) hpd (k1 H locs ls hR hL)
end ZT
