/-! THE LAW'S START -/
theorem k_dv5 (base : Nat) : ∀ j, j < 10 → defaultValue (tyX5 j) = vp_V (([vU, vU, vU, vU, vU, vU, vU, vU, vU, vU] : List z_V).map (z_kV base)) j := fun j hj => match j, hj with
  | 0, _ => rfl
  | 1, _ => rfl
  | 2, _ => rfl
  | 3, _ => rfl
  | 4, _ => rfl
  | 5, _ => rfl
  | 6, _ => rfl
  | 7, _ => rfl
  | 8, _ => rfl
  | 9, _ => rfl
  | n + 10, h => by omega
theorem k_dv6 (base : Nat) : ∀ j, j < 19 → defaultValue (tyX6 j) = vp_V (([vU, vU, vI 0, vU, vU, vU, vU, vU, vU, vU, vU, vU, vU, vU, vU, vU, vU, vU, vI 0] : List z_V).map (z_kV base)) j := fun j hj => match j, hj with
  | 0, _ => rfl
  | 1, _ => rfl
  | 2, _ => rfl
  | 3, _ => rfl
  | 4, _ => rfl
  | 5, _ => rfl
  | 6, _ => rfl
  | 7, _ => rfl
  | 8, _ => rfl
  | 9, _ => rfl
  | 10, _ => rfl
  | 11, _ => rfl
  | 12, _ => rfl
  | 13, _ => rfl
  | 14, _ => rfl
  | 15, _ => rfl
  | 16, _ => rfl
  | 17, _ => rfl
  | 18, _ => rfl
  | n + 19, h => by omega
def k_B5 (n : Nat) : List z_Cl := .inr (3, 4, z_up (z_up (z_up (z_up (fun _ => -1) 0 ((n + 48 : Nat) : Int)) 1 ((n + 57 : Nat) : Int)) 2 ((n + 66 : Nat) : Int)) 3 ((n + 75 : Nat) : Int)) :: .inr (2, 4, z_up (z_up (z_up (z_up (fun _ => -1) 0 ((n + 50 : Nat) : Int)) 1 ((n + 59 : Nat) : Int)) 2 ((n + 68 : Nat) : Int)) 3 ((n + 77 : Nat) : Int)) :: ((((k5_A2 n ++ k5_rd (n + 48)) ++ k5_rd (n + 57)) ++ k5_rd (n + 66)) ++ k5_rd (n + 75))
def k_o6 (n : Nat) : z_Cl := .inl (6, [vR (n + 0), vR (n + 1), vI 0, vR (n + 2), vR (n + 3), vR (n + 4), vR (n + 5), vR (n + 6), vR (n + 7), vR (n + 8), vR (n + 9), vR (n + 10), vR (n + 11), vR (n + 12), vR (n + 13), vR (n + 14), vR (n + 15), vR (n + 16), vI 0])
def k_B6 (n : Nat) : List z_Cl := [.inr (0, 36, (fun k => if k < 36 then (1000000 : Int) else 0)), .inr (0, 9, fun _ => 0), .inr (0, 17, fun _ => 0), .inr (0, 4, (fun k => if k < 4 then (1 : Int) else 0)), .inr (0, 100, (fun k => if k < 100 then (1000000 : Int) else 0)), .inr (0, 25, fun _ => 0), .inr (0, 25, fun _ => 0), .inr (0, 25, fun _ => 0), .inr (0, 20, fun _ => 0), .inr (0, 5, fun _ => 0), .inr (0, 32, fun _ => 0), .inr (0, 32, fun _ => 0), .inr (0, 25, fun _ => 0), .inr (0, 5, fun _ => 0), .inr (0, 5, fun _ => 0), .inr (0, 5, fun _ => 0), .inr (1, 32, fun _ => 0)]
theorem k_H85 : ([.inl (5, [vU, vU, vU, vU, vU, vU, vU, vU, vU, vU])] : z_Hp).set 0 (k5_o 1) ++ k_B5 1 = k_st85 := by
  have e1 : z_up (z_up (z_up (z_up (fun _ => -1) 0 ((1 + 48 : Nat) : Int)) 1 ((1 + 57 : Nat) : Int)) 2 ((1 + 66 : Nat) : Int)) 3 ((1 + 75 : Nat) : Int) = fun j => if j < 4 then ((49 + 9 * j : Nat) : Int) else -1 := (k_up4 _ _ _ _).trans (k_if4 49).symm
  have e2 : z_up (z_up (z_up (z_up (fun _ => -1) 0 ((1 + 50 : Nat) : Int)) 1 ((1 + 59 : Nat) : Int)) 2 ((1 + 68 : Nat) : Int)) 3 ((1 + 77 : Nat) : Int) = fun j => if j < 4 then ((51 + 9 * j : Nat) : Int) else -1 := (k_up4 _ _ _ _).trans (k_if4 51).symm
  exact (congr (congrArg (fun (f g : Nat → Int) => (k5_o 1 :: .inr (3, 4, f) :: .inr (2, 4, g) :: ((((k5_A2 1 ++ k5_rd (1 + 48)) ++ k5_rd (1 + 57)) ++ k5_rd (1 + 66)) ++ k5_rd (1 + 75)) : z_Hp)) e1) e2).trans rfl
theorem k_f5 : k_fB 5 [vU, vU, vU, vU, vU, vU, vU, vU, vU, vU] k5_o k_B5 [.inl (5, [vU, vU, vU, vU, vU, vU, vU, vU, vU, vU])] 0 = some k_st85 := by
  unfold k_fB
  simp only [List.getElem?_cons_zero, and_self, if_true]
  exact congrArg some k_H85
def k_st103 : z_Hp := k_st85 ++ [.inl (6, [vR 86, vR 87, vI 0, vR 88, vR 89, vR 90, vR 91, vR 92, vR 93, vR 94, vR 95, vR 96, vR 97, vR 98, vR 99, vR 100, vR 101, vR 102, vI 0]),
  .inr (0, 36, fun k => if k < 36 then 1000000 else 0),
  .inr (0, 9, fun _ => 0),
  .inr (0, 17, fun _ => 0),
  .inr (0, 4, fun k => if k < 4 then 1 else 0),
  .inr (0, 100, fun k => if k < 100 then 1000000 else 0),
  .inr (0, 25, fun _ => 0),
  .inr (0, 25, fun _ => 0),
  .inr (0, 25, fun _ => 0),
  .inr (0, 20, fun _ => 0),
  .inr (0, 5, fun _ => 0),
  .inr (0, 32, fun _ => 0),
  .inr (0, 32, fun _ => 0),
  .inr (0, 25, fun _ => 0),
  .inr (0, 5, fun _ => 0),
  .inr (0, 5, fun _ => 0),
  .inr (0, 5, fun _ => 0),
  .inr (1, 32, fun _ => 0)]
theorem k_len85 : k_st85.length = 85 := rfl
theorem k_f6 : k_fB 6 [vU, vU, vI 0, vU, vU, vU, vU, vU, vU, vU, vU, vU, vU, vU, vU, vU, vU, vU, vI 0] k_o6 k_B6 (k_st85 ++ [.inl (6, [vU, vU, vI 0, vU, vU, vU, vU, vU, vU, vU, vU, vU, vU, vU, vU, vU, vU, vU, vI 0])]) 85 = some k_st103 := by
  have e0 : (k_st85 ++ [(.inl (6, [vU, vU, vI 0, vU, vU, vU, vU, vU, vU, vU, vU, vU, vU, vU, vU, vU, vU, vU, vI 0]) : z_Cl)])[85]? = some (.inl (6, [vU, vU, vI 0, vU, vU, vU, vU, vU, vU, vU, vU, vU, vU, vU, vU, vU, vU, vU, vI 0])) := by
    rw [List.getElem?_append_right (Nat.le_of_eq k_len85), k_len85]
    rfl
  unfold k_fB
  rw [e0]
  simp only [and_self, if_true]
  have e1 : (k_st85 ++ [(.inl (6, [vU, vU, vI 0, vU, vU, vU, vU, vU, vU, vU, vU, vU, vU, vU, vU, vU, vU, vU, vI 0]) : z_Cl)]).length = 86 := by rw [List.length_append, k_len85]; rfl
  rw [e1, List.set_append_right _ _ (Nat.le_of_eq k_len85), k_len85, List.append_assoc]
  rfl
section LB
variable {p : Program} {l : Launch} {e : Env} {s : State} {m : MethodId} {below : List Frame} {meth : Method} {c : Code} {b L : Nat} {xs : Nat → Int32} {base : Nat} {D : va_G} {dT : Nat → ClassId} {tb : List ExceptionTableEntry} {k n : Nat} {pc : Nat} {st : List Value} {lv : List (Nat × Value)} {h : z_Hp}
theorem lw_dup (C : lw_C p l s m meth c b L xs base tb) {v : Nat} (hdg : decode cL_law pc = .ok (.dup, 1)) (kk : lwK p l e s m below meth c b base D dT k n h lv (pc + 1) (.ref v :: .ref v :: st)) : lwK p l e s m below meth c b base D dT k n h lv pc (.ref v :: st) := fun H locs ls hR hL => lv_dup C.1.1 C.1.2.1 hdg rfl (kk H locs ls hR hL)
theorem lw_astore (C : lw_C p l s m meth c b L xs base tb) {kk0 : Fin 4} {i a : Nat} {lv' : List (Nat × Value)} (hdg : decode cL_law pc = .ok (.astore_n kk0, 1)) (hi : (kk0 : Nat) = i) (hn : i < 7) (hl : (i, Value.ref a) :: lv.filter (fun q => !(q.1 == i) && !(q.1 + 1 == i && q.2.category == 2)) = lv') (k1 : lwK p l e s m below meth c b base D dT k n h lv' (pc + 1) st) : lwK p l e s m below meth c b base D dT k n h lv pc (.ref a :: st) := fun H locs ls hR hL => lv_astore_n C.1.1 C.1.2.1 hdg hi hL hn hl (fun ls' h4 => k1 H locs ls' hR h4)
theorem lwk_new (C : lw_C p l s m meth c b L xs base tb) {N ci ix : Nat} {CC : String} {TT : u_T} {fs : List z_V} (hin : ∀ w ∈ u_ws CC TT N, w ∈ lw_tbl) (ty0 : Nat → FieldType) (hty : ∀ k, k < N → parseFieldDescriptor (TT k).2.2.1 = some (ty0 k)) (hcl : vwCl[ci]? = some (CC, TT, N)) (hfs : ∀ j, j < N → defaultValue (ty0 j) = vp_V (fs.map (z_kV base)) j)
    (hfr : s.heap.size + k = base + h.length) (hc : k + 1 ≤ 647848) (hs : n + N ≤ 7152561) (hlink : Cond.classLink RL ix CC ∈ lw_tbl) (hins : Cond.instantiable CC N ∈ lw_tbl) (hini : Cond.initialized CC ∈ lw_tbl) (hdg : decode cL_law pc = .ok (.new ix, 3))
    (kk : lwK p l e s m below meth c b base D dT (k + 1) (n + N) (h ++ [.inl (ci, fs)]) lv (pc + 3) (.ref (base + h.length) :: st)) : lwK p l e s m below meth c b base D dT k n h lv pc st := by
  intro H locs ls hR hL
  have C1 := C.1
  have key : H.size = base + h.length → W p l e room_1 s m #[Value.ref b] below meth c H locs k n (lw_Z below #[Value.ref b] s) (F0 m pc ls st) := by
    intro hsz
    have hKn := hR.2.1.1 ci _ hcl
    refine W.newcK C1.1 C1.2.1 C1.2.2.2.1 (C1.2.2.2.2.1 _ hlink) (C1.2.2.2.2.1 _ hins) (C1.2.2.2.2.1 _ hini) rfl hdg hc hs hKn.2.1 hsz (fun H1 kC hkC e1 z1 o1 => ?_)
    exact kk H1 locs ls (z_Rl_push hR hsz (by omega) o1 ⟨_, hcl, (u_born ty0 C1.2.2.2.2.1 hin hKn hkC e1 hty).to hfs⟩) hL
  exact fun T hT X => key (z_top C1.2.2.2.2.2.2.2.1 hfr hR hT X) T hT X
theorem lwk_newaj (C : lw_C p l s m meth c b L xs base tb) {N : Nat} (hN : N < 1000) (hfr : s.heap.size + k = base + h.length) (hc : k + 1 ≤ 647848) (hs : n + N ≤ 7152561) (harr : Cond.arrayClass .long ∈ lw_tbl) (hdg : decode cL_law pc = .ok (.newarray .long, 2))
    (kk : lwK p l e s m below meth c b base D dT (k + 1) (n + N) (h ++ [.inr (1, N, fun _ => 0)]) lv (pc + 2) (.ref (base + h.length) :: st)) : lwK p l e s m below meth c b base D dT k n h lv pc (.int (Int32.ofInt (N : Int)) :: st) := by
  intro H locs ls hR hL
  have C1 := C.1
  have key : H.size = base + h.length → W p l e room_1 s m #[Value.ref b] below meth c H locs k n (lw_Z below #[Value.ref b] s) (F0 m pc ls (.int (Int32.ofInt (N : Int)) :: st)) := by
    intro hsz
    obtain ⟨g1, g2⟩ := z_clamp0 (x := (N : Int)) (n := N) (by omega) (by omega) (by omega)
    refine va_newaK C1.1 C1.2.1 (atype := .long) (C1.2.2.2.2.1 _ harr) rfl hdg rfl g2 (g1.trans (Int.toNat_natCast N)) (Nat.le_trans (Nat.mul_le_mul_right _ (Nat.le_of_lt hN)) (Nat.le_of_ble_eq_true rfl)) hc hs hsz (fun H1 cA e1 z1 o1 hAr hNm => ?_)
    have hcA : cA = dT 1 := Option.some.inj (hNm.symm.trans ((hR.2.1.2 1 _ rfl).2))
    subst hcA
    exact kk H1 locs ls (z_Rl_push hR hsz (by omega) o1 e1) hL
  exact fun T hT X => key (z_top C1.2.2.2.2.2.2.2.1 hfr hR hT X) T hT X
theorem lwk_callI (C : lw_C p l s m meth c b L xs base tb) {hf' : z_Hp} {r ix F' L' maxL mc' ms' a : Nat} {y : MethodName} {ws ws' : List Cond} {bytes : ByteArray} {f : z_Hp → Nat → Option z_Hp} (hao : z_ao s) (hfr : s.heap.size + k = base + h.length) (hM : z_CTC l y ws F' L' mc' ms' f) (hfe : f h r = some hf') (hG : GoodIn lw_tbl ws) (hw : ws = Cond.code y bytes maxL none :: ws') (hini : Cond.initialized y.cls ∈ lw_tbl) (hlk : Cond.methodLink RL ix y ∈ lw_tbl) (hins : Cond.instanceMethod y ∈ lw_tbl) (hy1 : y.name = "<init>")
    (hd : y.cls ≠ "java/lang/invoke/MethodHandle" ∧ y.cls ≠ "java/lang/invoke/VarHandle" ∧ (parseMethodDescriptor y.desc).map (fun d => d.parameters.length) = some 0) (hRm : F' + 1 ≤ 2048 ∧ 8 + (maxL + 11) + L' ≤ 84000) (hc : k + mc' ≤ 647848 ∧ n + ms' ≤ 7152561) (hdg : decode cL_law pc = .ok (.invokespecial ix, 3))
    (kk : lwK p l e s m below meth c b base D dT (k + mc') (n + ms') hf' lv (pc + 3) [.ref a]) : lwK p l e s m below meth c b base D dT k n h lv pc [.ref (base + r), .ref a] := by
  intro H locs ls hR hL T hT X
  have C1 := C.1
  have hsz := z_top C1.2.2.2.2.2.2.2.1 hfr hR hT X
  have hr := vx_runI (p := p) (l := l) (e := e) (R := room_1) (s := s) (m := m) (args := #[Value.ref b]) (below := below) (meth := meth) (c := c) (H := H) (locs := locs) (cells := k) (slots := n) (y := y) (b := base + r) (As := []) (rest := [.ref a]) (g := F0 m pc ls [.ref (base + r), .ref a]) (cc := cL_law) (nL := 7) (own := RL) (Ts := lw_tbl)
    ⟨C1.1, C1.2.1, C1.2.2.1, C1.2.2.2.1, C1.2.2.2.2.1⟩ (hM base D dT r h hf' hfe) (cwI 0 C1.2.2.2.2.1 hG hw rfl rfl (C1.2.2.2.2.1 _ hini) (C1.2.2.2.2.1 _ hlk) (C1.2.2.2.2.1 _ hins) hy1 hd hRm) ⟨z_UC_blind, fun U hU hW => ⟨rfl, hR.u C1.2.2.2.2.2.2.2.1 C1.2.2.2.2.2.2.2.2.1 hU hW (fun _ => hsz), z_ao.moved hW.alike hao⟩⟩ rfl rfl hL.1 rfl (Nat.le_of_ble_eq_true rfl) hdg hc
  rcases hr T hT X with ⟨v, st₀, t, T', Ls9, h0, X', hLs, e1, e2, ⟨⟨r9, ho, hv⟩, hP, hF⟩, stp⟩ | ⟨q, st₀, t, T', Ls9, E, ce, h0, X', hLs, e1, e2, ⟨ho, hP, hF⟩, hce, hcv, hcl, stp⟩
  · obtain ⟨-, -, k3⟩ := vx_keep h0 e1 hR.2.2 (fun _ _ q => q) (fun _ q => q) hLs hF
    cases ho
    cases hv
    obtain ⟨t2, a1, b1⟩ := kk T'.heap (locs ++ Ls9) ls ⟨by rw [e1]; exact hP, hR.2.1, k3⟩ hL T' rfl X'
    exact ⟨t2, stp t2 a1, b1⟩
  · cases ho
set_option maxHeartbeats 4000000 in
theorem lw_begin (C : lw_C p l s m meth c b L xs base tb) (hfl : l.stackTraces = false) (hao : z_ao s) : lwK p l e s m below meth c b base D dT 0 0 [] [(0, .ref b)] 0 [] := by
  have hb := C.2.2.2.2.2
  refine lwk_new C (N := 10) (ci := 5) (CC := RX5) (TT := TX5) (fs := [vU, vU, vU, vU, vU, vU, vU, vU, vU, vU]) wsL_fX5 tyX5 tyX5_ok rfl (k_dv5 base) (by rw [hb]; rfl) (by decide) (by decide) (by decide +kernel) (by decide +kernel) (by decide +kernel) dL_law_0 ?_
  refine lw_dup C dL_law_3 ?_
  refine lwk_callI C (r := 0) hao (by rw [hb]; rfl) (tk_X5 l hfl) k_f5 (gLT gL_law_X5_init) rfl (by decide +kernel) (by decide +kernel) (by decide +kernel) rfl (by decide +kernel) ⟨by decide, by decide⟩ ⟨by decide, by decide⟩ dL_law_4 ?_
  refine lw_astore C dL_law_7 rfl (by decide) (lv' := [(1, .ref (base + 0)), (0, .ref b)]) rfl ?_
  refine lwk_new C (N := 19) (ci := 6) (CC := RX6) (TT := TX6) (fs := [vU, vU, vI 0, vU, vU, vU, vU, vU, vU, vU, vU, vU, vU, vU, vU, vU, vU, vU, vI 0]) wsL_fX6 tyX6 tyX6_ok rfl (k_dv6 base) (by rw [hb, k_len85]) (by decide) (by decide) (by decide +kernel) (by decide +kernel) (by decide +kernel) dL_law_8 ?_
  rw [k_len85]
  refine lw_dup C dL_law_11 ?_
  refine lwk_callI C (r := 85) hao (by rw [hb, List.length_append, k_len85]; rfl) (tk_X6 l hfl) k_f6 (gLT gL_law_X6_init) rfl (by decide +kernel) (by decide +kernel) (by decide +kernel) rfl (by decide +kernel) ⟨by decide, by decide⟩ ⟨by decide, by decide⟩ dL_law_12 ?_
  refine lw_astore C dL_law_15 rfl (by decide) (lv' := [(2, .ref (base + 85)), (1, .ref (base + 0)), (0, .ref b)]) rfl ?_
  have hl103 : k_st103.length = 103 := by unfold k_st103; rw [List.length_append, k_len85]; rfl
  refine lw_iconst C dL_law_16 (lwk_newaj C (N := 1) (by decide) (by rw [hb, hl103]) (by decide) (by decide) (by decide +kernel) dL_law_17 ?_)
  rw [hl103]
  refine lw_astore C dL_law_19 rfl (by decide) (lv' := [(3, .ref (base + 103)), (2, .ref (base + 85)), (1, .ref (base + 0)), (0, .ref b)]) rfl ?_
  refine lw_iconst C dL_law_20 (lw_istore C dL_law_21 (by decide) (lv' := lw5 b base 0) rfl ?_)
  have hst : k_st103 ++ [.inr (1, 1, fun _ => 0)] = k_W k_S0 := by
    rw [k_W_S0]
    unfold k_st103 k_stt
    rw [List.append_assoc]
    rfl
  rw [hst]
  have hL2 := C.2.2.2.2.1
  exact lw_loop C hfl 600 0 _ _ k_S0 k_S0_inv (by omega) (by decide) (by decide) (by decide)
end LB
