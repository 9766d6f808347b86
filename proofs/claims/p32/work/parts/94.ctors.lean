/-! THE CONSTRUCTORS, one by one -/
theorem k_dv0 (base : z_B) : ∀ j, j < 2 → defaultValue (tyX0 j) = vp_V (([vU, vU] : List z_V).map (z_kV base)) j := fun j hj => match j, hj with
  | 0, _ => rfl
  | 1, _ => rfl
  | n + 2, h => by omega
theorem k_dv1 (base : z_B) : ∀ j, j < 2 → defaultValue (tyX1 j) = vp_V (([vI 0, vI 0] : List z_V).map (z_kV base)) j := fun j hj => match j, hj with
  | 0, _ => rfl
  | 1, _ => rfl
  | n + 2, h => by omega
theorem k_dv2 (base : z_B) : ∀ j, j < 2 → defaultValue (tyX2 j) = vp_V (([vU, vI 0] : List z_V).map (z_kV base)) j := fun j hj => match j, hj with
  | 0, _ => rfl
  | 1, _ => rfl
  | n + 2, h => by omega
theorem k_dv3 (base : z_B) : ∀ j, j < 5 → defaultValue (tyX3 j) = vp_V (([vU, vU, vU, vU, vU] : List z_V).map (z_kV base)) j := fun j hj => match j, hj with
  | 0, _ => rfl
  | 1, _ => rfl
  | 2, _ => rfl
  | 3, _ => rfl
  | 4, _ => rfl
  | n + 5, h => by omega
theorem k_dv4 (base : z_B) : ∀ j, j < 1 → defaultValue (tyX4 j) = vp_V (([vU] : List z_V).map (z_kV base)) j := fun j hj => match j, hj with
  | 0, _ => rfl
  | n + 1, h => by omega
set_option maxRecDepth 20000 in
set_option maxHeartbeats 4000000 in
theorem tk_X0 (l : Launch) (hfl : l.stackTraces = false) : z_CTC l yX0_init wsX0_init 1 20 2 64 (k_fB 0 [vU, vU] (fun n => .inl (0, [vR n, vR (n + 1)])) (fun n => [.inr (0, 32, fun _ => 0), .inr (0, 32, fun _ => 0)])) := by
  refine kMk_of hfl (cc := cX0_init) (nL := 1) (by decide +kernel) rfl rfl (by decide) (N0 := 2) (CC := RX0) (TT := TX0) (ty0 := tyX0) (by decide +kernel) tyX0_ok nmX0 rfl ?_
  intro p e s m args below meth c b0 sa0 hb0 sc0 D dT r h hr0 M
  refine kMk_obj (pc := 0) M rfl (by decide +kernel) (by decide +kernel) (by decide +kernel) ⟨by decide, by decide⟩ dX0_init_0 dX0_init_1 ?_
  refine kMk_ai (pc := 4) M rfl (N := 32) (pN := 7) (by decide) (Nat.le_of_ble_eq_true rfl) (Nat.le_of_ble_eq_true rfl) (by decide +kernel) dX0_init_4 (z_bipush (pc := 5) M.1 dX0_init_5 (by decide +kernel)) dX0_init_7 0 (by decide) (ref := "Amoebary$Choices") (by decide +kernel) rfl rfl rfl (.array .int) (by decide +kernel) (fun _ => rfl) (fun _ => rfl) (Nat.le_of_ble_eq_true rfl) dX0_init_9 ?_
  refine kMk_ai (pc := 12) M rfl (N := 32) (pN := 15) (by decide) (Nat.le_of_ble_eq_true rfl) (Nat.le_of_ble_eq_true rfl) (by decide +kernel) dX0_init_12 (z_bipush (pc := 13) M.1 dX0_init_13 (by decide +kernel)) dX0_init_15 1 (by decide) (ref := "Amoebary$Choices") (by decide +kernel) rfl rfl rfl (.array .int) (by decide +kernel) (fun _ => rfl) (fun _ => rfl) (Nat.le_of_ble_eq_true rfl) dX0_init_17 ?_
  exact z_retV (pc := 20) M.1 ⟨(Nat.le_of_ble_eq_true rfl), (Nat.le_of_ble_eq_true rfl)⟩ dX0_init_20 _ _ ⟨rfl, rfl⟩
theorem tk_X1 (l : Launch) (hfl : l.stackTraces = false) : z_CTC l yX1_init wsX1_init 1 20 0 0 (k_fB 1 [vI 0, vI 0] (fun n => .inl (1, [vI 0, vI 0])) (fun n => [])) := by
  refine z_CTC.of hfl (jL := 99) (cc := cX1_init) (nL := 1) (by decide +kernel) rfl rfl (by decide) ?_
  intro p e s m args below meth c b0 sa0 hb0 sc0 D dT r h hf he C hn hao hsz
  obtain ⟨h1, rfl⟩ := k_fB_some he
  have hr : r < h.length := (List.getElem?_eq_some_iff.mp h1).1
  have e1 : h.set r (.inl (1, [vI 0, vI 0])) ++ [] = h := List.ext_getElem? fun q => by
    rw [List.append_nil, List.getElem?_set]
    split
    · next q1 => rw [← q1, h1]
    · rfl
  refine (z_aload_n (KX := fun _ _ => True) (d := 0) (i := 0) (pc := 0) C dX1_init_0 rfl _ h [] (Nat.zero_le _)).1 r _ rfl (zk_obj (pc := 1) C (by decide +kernel) (by decide +kernel) (by decide +kernel) (by decide) ⟨by decide, by decide⟩ dX1_init_1 ?_)
  exact z_retV (pc := 4) C ⟨Nat.le_refl 0, Nat.le_refl 0⟩ dX1_init_4 _ _ ⟨rfl, e1⟩
set_option maxRecDepth 20000 in
set_option maxHeartbeats 4000000 in
theorem tk_X3 (l : Launch) (hfl : l.stackTraces = false) : z_CTC l yX3_init wsX3_init 1 20 19 90 (k_fB 3 [vU, vU, vU, vU, vU] (fun n => .inl (3, [vR n, vR (n + 6), vR (n + 7), vR (n + 8), vR (n + 14)])) (fun n => k_out (n + 1) 5 :: ((List.replicate 5 (.inr (0, 5, fun _ => 0))) ++ .inr (0, 5, fun _ => 0) :: .inr (0, 5, fun _ => 0) :: k_out (n + 9) 5 :: ((List.replicate 5 (.inr (0, 5, fun _ => 0))) ++ k_out (n + 15) 4 :: (List.replicate 4 (.inr (0, 4, fun _ => 0))))))) := by
  refine kMk_of hfl (cc := cX3_init) (nL := 1) (by decide +kernel) rfl rfl (by decide) (N0 := 5) (CC := RX3) (TT := TX3) (ty0 := tyX3) (by decide +kernel) tyX3_ok nmX3 rfl ?_
  intro p e s m args below meth c b0 sa0 hb0 sc0 D dT r h hr0 M
  refine kMk_obj (pc := 0) M rfl (by decide +kernel) (by decide +kernel) (by decide +kernel) ⟨by decide, by decide⟩ dX3_init_0 dX3_init_1 ?_
  refine kMk_mu (pc := 4) M rfl (N := 5) (M2 := 5) (p1 := 6) (pN := 7) (by decide) (by decide) (Nat.le_of_ble_eq_true rfl) (Nat.le_of_ble_eq_true rfl) (by decide +kernel) (by decide +kernel) dX3_init_4 (z_iconst (pc := 5) M.1 dX3_init_5) (z_iconst (pc := 6) M.1 dX3_init_6) dX3_init_7 0 (by decide) (ref := "Amoebary$Net") (by decide +kernel) rfl rfl rfl (.array (.array .int)) (by decide +kernel) (fun _ => rfl) (fun _ => rfl) (Nat.le_of_ble_eq_true rfl) dX3_init_11 ?_
  refine kMk_ai (pc := 14) M rfl (N := 5) (pN := 16) (by decide) (Nat.le_of_ble_eq_true rfl) (Nat.le_of_ble_eq_true rfl) (by decide +kernel) dX3_init_14 (z_iconst (pc := 15) M.1 dX3_init_15) dX3_init_16 1 (by decide) (ref := "Amoebary$Net") (by decide +kernel) rfl rfl rfl (.array .int) (by decide +kernel) (fun _ => rfl) (fun _ => rfl) (Nat.le_of_ble_eq_true rfl) dX3_init_18 ?_
  refine kMk_ai (pc := 21) M rfl (N := 5) (pN := 23) (by decide) (Nat.le_of_ble_eq_true rfl) (Nat.le_of_ble_eq_true rfl) (by decide +kernel) dX3_init_21 (z_iconst (pc := 22) M.1 dX3_init_22) dX3_init_23 2 (by decide) (ref := "Amoebary$Net") (by decide +kernel) rfl rfl rfl (.array .int) (by decide +kernel) (fun _ => rfl) (fun _ => rfl) (Nat.le_of_ble_eq_true rfl) dX3_init_25 ?_
  refine kMk_mu (pc := 28) M rfl (N := 5) (M2 := 5) (p1 := 30) (pN := 31) (by decide) (by decide) (Nat.le_of_ble_eq_true rfl) (Nat.le_of_ble_eq_true rfl) (by decide +kernel) (by decide +kernel) dX3_init_28 (z_iconst (pc := 29) M.1 dX3_init_29) (z_iconst (pc := 30) M.1 dX3_init_30) dX3_init_31 3 (by decide) (ref := "Amoebary$Net") (by decide +kernel) rfl rfl rfl (.array (.array .int)) (by decide +kernel) (fun _ => rfl) (fun _ => rfl) (Nat.le_of_ble_eq_true rfl) dX3_init_35 ?_
  refine kMk_mu (pc := 38) M rfl (N := 4) (M2 := 4) (p1 := 40) (pN := 41) (by decide) (by decide) (Nat.le_of_ble_eq_true rfl) (Nat.le_of_ble_eq_true rfl) (by decide +kernel) (by decide +kernel) dX3_init_38 (z_iconst (pc := 39) M.1 dX3_init_39) (z_iconst (pc := 40) M.1 dX3_init_40) dX3_init_41 4 (by decide) (ref := "Amoebary$Net") (by decide +kernel) rfl rfl rfl (.array (.array .int)) (by decide +kernel) (fun _ => rfl) (fun _ => rfl) (Nat.le_of_ble_eq_true rfl) dX3_init_45 ?_
  exact z_retV (pc := 48) M.1 ⟨(Nat.le_of_ble_eq_true rfl), (Nat.le_of_ble_eq_true rfl)⟩ dX3_init_48 _ _ ⟨rfl, rfl⟩
set_option maxRecDepth 20000 in
set_option maxHeartbeats 4000000 in
theorem tk_X4 (l : Launch) (hfl : l.stackTraces = false) : z_CTC l yX4_init wsX4_init 2 35 1 9 (k_fB 4 [vU] (fun n => .inl (4, [vR (n + 0)])) (fun n => [.inr (0, 9, fun k => if k < 9 then 1000000 else 0)])) := by
  refine kMk_of hfl (cc := cX4_init) (nL := 1) (by decide +kernel) rfl rfl (by decide) (N0 := 1) (CC := RX4) (TT := TX4) (ty0 := tyX4) (by decide +kernel) tyX4_ok nmX4 rfl ?_
  intro p e s m args below meth c b0 sa0 hb0 sc0 D dT r h hr0 M
  refine kMk_obj (pc := 0) M rfl (by decide +kernel) (by decide +kernel) (by decide +kernel) ⟨by decide, by decide⟩ dX4_init_0 dX4_init_1 ?_
  refine kMk_ai (pc := 4) M rfl (N := 9) (pN := 7) (by decide) (Nat.le_of_ble_eq_true rfl) (Nat.le_of_ble_eq_true rfl) (by decide +kernel) dX4_init_4 (z_bipush (pc := 5) M.1 dX4_init_5 (by decide +kernel)) dX4_init_7 0 (by decide) (ref := "Amoebary$Polynomial") (by decide +kernel) rfl rfl rfl (.array .int) (by decide +kernel) (fun _ => rfl) (fun _ => rfl) (Nat.le_of_ble_eq_true rfl) dX4_init_9 ?_
  have hin4 : ∀ w ∈ u_ws RX4 TX4 1, w ∈ wsX4_init := by decide +kernel
  have hf9 : Cond.fieldLink RX4 9 "Amoebary$Polynomial" "coefficients" "[I" ∈ wsX4_init := by decide +kernel
  have hc15 : Cond.constant RX4 15 (Int32.ofInt 1000000) ∈ wsX4_init := by decide +kernel
  have hat : (h.set r ((Sum.inl : _ → z_Cl) (4, [vR (h.length + 0)])) ++ [(Sum.inr : _ → z_Cl) (0, 9, fun _ => 0)])[r]? = some (.inl (4, [vR (h.length + 0)])) := kMk_at _ _ M.2.2.2.2.1
  have hatA : (h.set r ((Sum.inl : _ → z_Cl) (4, [vR (h.length + 0)])) ++ [(Sum.inr : _ → z_Cl) (0, 9, fun _ => 0)])[h.length + 0]? = some (.inr (0, 9, fun _ => 0)) := kMk_atA
  have ev : sCl m_J7_fill_53178 (aS vI (aS vR aN (eFR 4 0 (eLR 0))) (eC 1000000)) [vR r] (h.set r ((Sum.inl : _ → z_Cl) (4, [vR (h.length + 0)])) ++ [(Sum.inr : _ → z_Cl) (0, 9, fun _ => 0)]) = some (oN [vR r], h.set r ((Sum.inl : _ → z_Cl) (4, [vR (h.length + 0)])) ++ [(Sum.inr : _ → z_Cl) (0, 9, fun k => if k < 9 then 1000000 else 0)]) := by
    simp only [sCl, aS, aN, eFR, eLR, eC, z_bindS, z_bind, List.getElem?_cons_zero, q_obj hat, List.nil_append, List.cons_append, s_fill hatA (show 9 < 1000 by decide), kMk_setA, List.set_cons_zero]
  have hz := z_cS (jL := 99) (e := e) (below := below) (D := D) (dT := dT) (o := .inl none) (mc := 1) (ms := 9) (F := 2) (L := 35) (k := 1) (n := 9) (d := 0) (hf := h.set r (Sum.inl (4, [vR (h.length + 0)])) ++ [Sum.inr (0, 9, fun k => if k < 9 then 1000000 else 0)]) (pc := 18) M.1 (fun _ q => by cases q) ⟨Nat.le_refl 1, Nat.le_refl 9⟩ (t_J7_fill_53178 l hfl) gX4_init_J7_fill_53178 rfl q_J7_fill_53178 ⟨by decide, by decide⟩ (by decide) dX4_init_18
  refine ((xS_cl (KR := fun _ _ => True) (pb := 0) (xA_s (fun _ => rfl) (xA_s (fun _ => rfl) (xA_n) (xE_fR (z_aload_n (pc := 12) M.1 dX4_init_12 rfl) (z_get (pc := 13) M.1 (CC := RX4) (TT := TX4) (N := 1) 0 hin4 rfl (by decide) hf9 rfl dX4_init_13))) (z_ldc (x := 1000000) (pc := 16) M.1 hc15 dX4_init_16)) hz) [vR r] _).1 _ _ ev ?_
  exact z_retV (pc := 21) M.1 ⟨(Nat.le_of_ble_eq_true rfl), (Nat.le_of_ble_eq_true rfl)⟩ dX4_init_21 _ _ ⟨rfl, rfl⟩
theorem ev_empty {h : z_Hp} {r : Nat} (hr : r < h.length) : m_X2_becomeEmpty [vR r, vI 1] (h.set r (.inl (2, [vR (h.length + 0), vI 0])) ++ (k_out (h.length + 0 + 1) 5 :: List.replicate 5 (.inr (0, 5, fun _ => 0)))) = some (.inl none, h.set r (.inl (2, [vR (h.length + 0), vI 1])) ++ (k_out (h.length + 0 + 1) 5 :: (List.range 5).map fun i => .inr (0, 5, (fun i j => if i < 5 ∧ j < 5 then INF else 0) i))) := by
  have a0 : mAt (h.set r (.inl (2, [vR (h.length + 0), vI 0])) ++ (k_out (h.length + 0 + 1) 5 :: List.replicate 5 (.inr (0, 5, fun _ => 0)))) r h.length (h.length + 1) 0 (fun _ _ => 0) := by
    refine ⟨kMk_at _ _ hr, ⟨_, kMk_atA (ia := 0), fun i hi => ?_⟩, fun i hi => ?_⟩
    · show (if i < 5 then ((h.length + 0 + 1 + 1 * i : Nat) : Int) else -1) = _
      rw [if_pos hi]
      congr 1
      omega
    · rw [show h.length + 1 + i = h.length + (1 + i) by omega, kMk_atA, show 1 + i = i + 1 by omega, List.getElem?_cons_succ, List.getElem?_replicate, if_pos hi]
  obtain ⟨h', e1, a1, fr⟩ := s_becomeEmpty a0 (m := 1) ⟨by decide, by decide⟩
  refine e1.trans (congrArg (fun x => some (Sum.inl none, x)) (List.ext_getElem? fun q => ?_))
  by_cases h1 : q = r
  · subst h1
    rw [a1.1, kMk_at _ _ hr]
    rfl
  · by_cases h2 : h.length + 1 ≤ q ∧ q < h.length + 1 + 5
    · obtain ⟨i, rfl⟩ : ∃ i, q = h.length + 1 + i := ⟨q - (h.length + 1), by omega⟩
      have hi : i < 5 := by omega
      rw [a1.2.2 i hi, show h.length + 1 + i = h.length + (i + 1) by omega, kMk_atA, List.getElem?_cons_succ, List.getElem?_map, List.getElem?_range hi]
      rfl
    · rw [fr q (fun w => w.elim h1 (fun w => h2 ⟨w.1, by have := w.2; omega⟩))]
      by_cases h3 : q < h.length
      · rw [List.getElem?_append_left (by simpa using h3), List.getElem?_append_left (by simpa using h3), List.getElem?_set_ne (fun w => h1 w.symm), List.getElem?_set_ne (fun w => h1 w.symm)]
      · obtain ⟨i, rfl⟩ : ∃ i, q = h.length + i := ⟨q - h.length, by omega⟩
        rw [kMk_atA, kMk_atA]
        cases i with
        | zero => rfl
        | succ i =>
          rw [List.getElem?_cons_succ, List.getElem?_cons_succ, List.getElem?_replicate, List.getElem?_map, if_neg (by omega), List.getElem?_eq_none (by simp; omega)]
          rfl
set_option maxRecDepth 20000 in
set_option maxHeartbeats 4000000 in
theorem tk_X2 (l : Launch) (hfl : l.stackTraces = false) : z_CTC l yX2_init wsX2_init 3 57 6 30 (k_fB 2 [vU, vI 0] (fun n => .inl (2, [vR (n + 0), vI 1])) (fun n => k_out (n + 0 + 1) 5 :: (List.range 5).map fun i => .inr (0, 5, (fun i j => if i < 5 ∧ j < 5 then INF else 0) i))) := by
  refine kMk_of hfl (cc := cX2_init) (nL := 1) (by decide +kernel) rfl rfl (by decide) (N0 := 2) (CC := RX2) (TT := TX2) (ty0 := tyX2) (by decide +kernel) tyX2_ok nmX2 rfl ?_
  intro p e s m args below meth c b0 sa0 hb0 sc0 D dT r h hr0 M
  refine kMk_obj (pc := 0) M rfl (by decide +kernel) (by decide +kernel) (by decide +kernel) ⟨by decide, by decide⟩ dX2_init_0 dX2_init_1 ?_
  refine kMk_mu (pc := 4) M rfl (N := 5) (M2 := 5) (p1 := 6) (pN := 7) (by decide) (by decide) (Nat.le_of_ble_eq_true rfl) (Nat.le_of_ble_eq_true rfl) (by decide +kernel) (by decide +kernel) dX2_init_4 (z_iconst (pc := 5) M.1 dX2_init_5) (z_iconst (pc := 6) M.1 dX2_init_6) dX2_init_7 0 (by decide) (ref := "Amoebary$Matrix") (by decide +kernel) rfl rfl rfl (.array (.array .int)) (by decide +kernel) (fun _ => rfl) (fun _ => rfl) (Nat.le_of_ble_eq_true rfl) dX2_init_11 ?_
  refine kMk_this (pc := 14) M rfl dX2_init_14 (((z_iconst (KX := fun _ _ => True) (d := 1) (pc := 15) M.1 dX2_init_15) _ _ [vR r] (Nat.le_refl 1)).1 1 _ rfl ?_)
  have hz := z_cV (jL := 99) (e := e) (below := below) (D := D) (dT := dT) (o := .inl none) (mc := 6) (ms := 30) (F := 3) (L := 57) (k := 6) (n := 30) (d := 0) (hf := h.set r (.inl (2, [vR (h.length + 0), vI 1])) ++ (k_out (h.length + 0 + 1) 5 :: (List.range 5).map fun i => .inr (0, 5, (fun i j => if i < 5 ∧ j < 5 then INF else 0) i))) (pc := 16) M.1 (fun _ q => by cases q) ⟨Nat.le_refl 6, Nat.le_refl 30⟩ (t_X2_becomeEmpty l hfl) (ci := 2) (CC := RX2) rfl gX2_init_X2_becomeEmpty rfl q_X2_becomeEmpty ⟨by decide, by decide⟩ (by decide) dX2_init_16
  refine (hz _ _ [] [vR r, vI 1] rfl rfl (Nat.le_refl 0)).1 none _ (ev_empty M.2.2.2.2.1) ?_
  exact z_retV (pc := 19) M.1 ⟨(Nat.le_of_ble_eq_true rfl), (Nat.le_of_ble_eq_true rfl)⟩ dX2_init_19 _ _ ⟨rfl, rfl⟩
