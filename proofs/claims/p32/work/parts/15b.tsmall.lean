/-! printed by wip/p32/gen: that the bytecode does what the functions say -/
theorem q_X4_hasCornersOf : yX4_hasCornersOf.cls = RX4 ∧ yX4_hasCornersOf.cls ≠ "java/lang/invoke/MethodHandle" ∧ yX4_hasCornersOf.cls ≠ "java/lang/invoke/VarHandle" ∧ (parseMethodDescriptor yX4_hasCornersOf.desc).map (fun d => d.parameters.length) = some 1 := by decide +kernel
set_option maxRecDepth 20000 in
set_option maxHeartbeats 4000000 in
theorem t_X4_hasCornersOf (l : Launch) (hfl : l.stackTraces = false) : z_CT l yX4_hasCornersOf wsX4_hasCornersOf 2 4 80 0 0 false m_X4_hasCornersOf := by
  refine z_CT.vm (z_CT.of hfl (jL := 99) (cc := cX4_hasCornersOf) (nL := 3) (rt := (some .boolean)) (by decide +kernel) rfl (by decide) 0 0 ?_)
  intro p e s m args below meth c base D dT o hf C0
  have C : z_Cx p l s m args meth c base cX4_hasCornersOf 3 RX4 wsX4_hasCornersOf (some .boolean) [] := C0
  have hinX4 : ∀ w ∈ u_ws RX4 TX4 1, w ∈ wsX4_hasCornersOf := by decide +kernel
  have hf9 : Cond.fieldLink RX4 9 "Amoebary$Polynomial" "coefficients" "[I" ∈ wsX4_hasCornersOf := by decide +kernel
  exact xS_seq (xS_seq (xS_set (z_iconst (pc := 0) C dX4_hasCornersOf_0) ((z_istore_n (pc := 1) C dX4_hasCornersOf_1 rfl (by decide) (by decide)))) (xS_lp (xB_cmp (z_iload_n (pc := 2) C dX4_hasCornersOf_2 rfl) (z_bipush (pc := 3) C dX4_hasCornersOf_3 (by decide +kernel)) (z_icmp_geN (pc := 5) (tgt := 54) C dX4_hasCornersOf_5 (by decide)))
    (xS_seq (xS_if (xB_cmp (xE_bi (xE_clB (xA_s (fun _ => rfl) (xA_s (fun _ => rfl) (xA_n) (z_aload_n (pc := 8) C dX4_hasCornersOf_8 rfl)) (z_iload_n (pc := 9) C dX4_hasCornersOf_9 rfl)) (z_cV (pc := 10) C (fun _ _ => ⟨rfl, rfl⟩) ⟨Nat.zero_le _, Nat.zero_le _⟩ (t_X4_hasCorner l hfl) (ci := 4) (CC := RX4) rfl gX4_hasCornersOf_X4_hasCorner rfl q_X4_hasCorner ⟨by decide, by decide⟩ (by decide) dX4_hasCornersOf_10))) (xE_bi (xE_clB (xA_s (fun _ => rfl) (xA_s (fun _ => rfl) (xA_n) (z_aload_n (pc := 13) C dX4_hasCornersOf_13 rfl)) (z_iload_n (pc := 14) C dX4_hasCornersOf_14 rfl)) (z_cV (pc := 15) C (fun _ _ => ⟨rfl, rfl⟩) ⟨Nat.zero_le _, Nat.zero_le _⟩ (t_X4_hasCorner l hfl) (ci := 4) (CC := RX4) rfl gX4_hasCornersOf_X4_hasCorner rfl q_X4_hasCorner ⟨by decide, by decide⟩ (by decide) dX4_hasCornersOf_15))) (z_icmp_eqN (pc := 18) (tgt := 23) C dX4_hasCornersOf_18 (by decide))) (xS_ret (z_bconst (b := false) (pc := 21) C rfl dX4_hasCornersOf_21) (z_retB (pc := 22) C ⟨Nat.zero_le _, Nat.zero_le _⟩ dX4_hasCornersOf_22)) jG_id xS_nop)
    (xS_if (xB_and (xB_v (xE_clB (xA_s (fun _ => rfl) (xA_s (fun _ => rfl) (xA_n) (z_aload_n (pc := 23) C dX4_hasCornersOf_23 rfl)) (z_iload_n (pc := 24) C dX4_hasCornersOf_24 rfl)) (z_cV (pc := 25) C (fun _ _ => ⟨rfl, rfl⟩) ⟨Nat.zero_le _, Nat.zero_le _⟩ (t_X4_hasCorner l hfl) (ci := 4) (CC := RX4) rfl gX4_hasCornersOf_X4_hasCorner rfl q_X4_hasCorner ⟨by decide, by decide⟩ (by decide) dX4_hasCornersOf_25)) (z_b_eq (pc := 28) (tgt := 48) C dX4_hasCornersOf_28 (by decide))) (xB_cmp (xE_ld (xE_fR (z_aload_n (pc := 31) C dX4_hasCornersOf_31 rfl) (z_get (pc := 32) C (CC := RX4) (TT := TX4) (N := 1) 0 hinX4 rfl (by decide) hf9 rfl dX4_hasCornersOf_32)) (z_iload_n (pc := 35) C dX4_hasCornersOf_35 rfl) (z_iald (pc := 36) C dX4_hasCornersOf_36)) (xE_ld (xE_fR (z_aload_n (pc := 37) C dX4_hasCornersOf_37 rfl) (z_get (pc := 38) C (CC := RX4) (TT := TX4) (N := 1) 0 hinX4 rfl (by decide) hf9 rfl dX4_hasCornersOf_38)) (z_iload_n (pc := 41) C dX4_hasCornersOf_41 rfl) (z_iald (pc := 42) C dX4_hasCornersOf_42)) (z_icmp_eqN (pc := 43) (tgt := 48) C dX4_hasCornersOf_43 (by decide)))) (xS_ret (z_bconst (b := false) (pc := 46) C rfl dX4_hasCornersOf_46) (z_retB (pc := 47) C ⟨Nat.zero_le _, Nat.zero_le _⟩ dX4_hasCornersOf_47)) jG_id xS_nop))
    (xS_inc (z_inc (pc := 48) C dX4_hasCornersOf_48 (by decide) (by decide))) (z_goto (pc := 51) (tgt := 2) C dX4_hasCornersOf_51 (by decide))))
    (xS_ret (z_bconst (b := true) (pc := 54) C rfl dX4_hasCornersOf_54) (z_retB (pc := 55) C ⟨Nat.zero_le _, Nat.zero_le _⟩ dX4_hasCornersOf_55))
theorem q_X4_becomeCopy : yX4_becomeCopy.cls = RX4 ∧ yX4_becomeCopy.cls ≠ "java/lang/invoke/MethodHandle" ∧ yX4_becomeCopy.cls ≠ "java/lang/invoke/VarHandle" ∧ (parseMethodDescriptor yX4_becomeCopy.desc).map (fun d => d.parameters.length) = some 1 := by decide +kernel
set_option maxRecDepth 20000 in
set_option maxHeartbeats 4000000 in
theorem t_X4_becomeCopy (l : Launch) (hfl : l.stackTraces = false) : z_CT l yX4_becomeCopy wsX4_becomeCopy 2 1 26 0 0 false m_X4_becomeCopy := by
  refine z_CT.vm (z_CT.of hfl (jL := 99) (cc := cX4_becomeCopy) (nL := 2) (rt := none) (by decide +kernel) rfl (by decide) 0 0 ?_)
  intro p e s m args below meth c base D dT o hf C0
  have C : z_Cx p l s m args meth c base cX4_becomeCopy 2 RX4 wsX4_becomeCopy none [] := C0
  have hinX4 : ∀ w ∈ u_ws RX4 TX4 1, w ∈ wsX4_becomeCopy := by decide +kernel
  have hf9 : Cond.fieldLink RX4 9 "Amoebary$Polynomial" "coefficients" "[I" ∈ wsX4_becomeCopy := by decide +kernel
  have hac0 : Cond.methodLink RX4 45 arraycopyName ∈ wsX4_becomeCopy := by decide +kernel
  have hac1 : Cond.native arraycopyName ∈ wsX4_becomeCopy := by decide +kernel
  have hac2 : Cond.static arraycopyName ∈ wsX4_becomeCopy := by decide +kernel
  have hac3 : Cond.initialized "java/lang/System" ∈ wsX4_becomeCopy := by decide +kernel
  exact xS_seq (xS_cl (xA_s (fun _ => rfl) (xA_s (fun _ => rfl) (xA_s (fun _ => rfl) (xA_s (fun _ => rfl) (xA_s (fun _ => rfl) (xA_n) (xE_fR (z_aload_n (pc := 0) C dX4_becomeCopy_0 rfl) (z_get (pc := 1) C (CC := RX4) (TT := TX4) (N := 1) 0 hinX4 rfl (by decide) hf9 rfl dX4_becomeCopy_1))) (z_iconst (pc := 4) C dX4_becomeCopy_4)) (xE_fR (z_aload_n (pc := 5) C dX4_becomeCopy_5 rfl) (z_get (pc := 6) C (CC := RX4) (TT := TX4) (N := 1) 0 hinX4 rfl (by decide) hf9 rfl dX4_becomeCopy_6))) (z_iconst (pc := 9) C dX4_becomeCopy_9)) (z_bipush (pc := 10) C dX4_becomeCopy_10 (by decide +kernel))) (z_cCopy (pc := 12) C hac0 hac1 hac2 hac3 ⟨Nat.le_of_ble_eq_true rfl, Nat.le_of_ble_eq_true rfl⟩ (by decide) dX4_becomeCopy_12))
    (xS_retV (z_retV (pc := 15) C ⟨Nat.zero_le _, Nat.zero_le _⟩ dX4_becomeCopy_15))
theorem q_X4_becomeLesser : yX4_becomeLesser.cls = RX4 ∧ yX4_becomeLesser.cls ≠ "java/lang/invoke/MethodHandle" ∧ yX4_becomeLesser.cls ≠ "java/lang/invoke/VarHandle" ∧ (parseMethodDescriptor yX4_becomeLesser.desc).map (fun d => d.parameters.length) = some 2 := by decide +kernel
set_option maxRecDepth 20000 in
set_option maxHeartbeats 4000000 in
theorem t_X4_becomeLesser (l : Launch) (hfl : l.stackTraces = false) : z_CT l yX4_becomeLesser wsX4_becomeLesser 3 1 21 0 0 false m_X4_becomeLesser := by
  refine z_CT.vm (z_CT.of hfl (jL := 99) (cc := cX4_becomeLesser) (nL := 4) (rt := none) (by decide +kernel) rfl (by decide) 0 0 ?_)
  intro p e s m args below meth c base D dT o hf C0
  have C : z_Cx p l s m args meth c base cX4_becomeLesser 4 RX4 wsX4_becomeLesser none [] := C0
  have hinX4 : ∀ w ∈ u_ws RX4 TX4 1, w ∈ wsX4_becomeLesser := by decide +kernel
  have hf9 : Cond.fieldLink RX4 9 "Amoebary$Polynomial" "coefficients" "[I" ∈ wsX4_becomeLesser := by decide +kernel
  have hmmin0 : Cond.methodLink RX4 26 Lib.Math.min.name ∈ wsX4_becomeLesser := by decide +kernel
  have hmmin1 : Cond.static Lib.Math.min.name ∈ wsX4_becomeLesser := by decide +kernel
  have hmmin2 : Cond.initialized "java/lang/Math" ∈ wsX4_becomeLesser := by decide +kernel
  have hmmin3 : Cond.code Lib.Math.min.name Lib.Math.min.code 2 (some .int) ∈ wsX4_becomeLesser := by decide +kernel
  exact xS_seq (xS_seq (xS_set (z_iconst (pc := 0) C dX4_becomeLesser_0) ((z_istore_n (pc := 1) C dX4_becomeLesser_1 rfl (by decide) (by decide)))) (xS_lp (xB_cmp (z_iload_n (pc := 2) C dX4_becomeLesser_2 rfl) (z_bipush (pc := 3) C dX4_becomeLesser_3 (by decide +kernel)) (z_icmp_geN (pc := 5) (tgt := 35) C dX4_becomeLesser_5 (by decide)))
    (xS_ast (xE_fR (z_aload_n (pc := 8) C dX4_becomeLesser_8 rfl) (z_get (pc := 9) C (CC := RX4) (TT := TX4) (N := 1) 0 hinX4 rfl (by decide) hf9 rfl dX4_becomeLesser_9)) (z_iload_n (pc := 12) C dX4_becomeLesser_12 rfl) (xE_cl (xA_s (fun _ => rfl) (xA_s (fun _ => rfl) (xA_n) (xE_ld (xE_fR (z_aload_n (pc := 13) C dX4_becomeLesser_13 rfl) (z_get (pc := 14) C (CC := RX4) (TT := TX4) (N := 1) 0 hinX4 rfl (by decide) hf9 rfl dX4_becomeLesser_14)) (z_iload_n (pc := 17) C dX4_becomeLesser_17 rfl) (z_iald (pc := 18) C dX4_becomeLesser_18))) (xE_ld (xE_fR (z_aload_n (pc := 19) C dX4_becomeLesser_19 rfl) (z_get (pc := 20) C (CC := RX4) (TT := TX4) (N := 1) 0 hinX4 rfl (by decide) hf9 rfl dX4_becomeLesser_20)) (z_iload_n (pc := 23) C dX4_becomeLesser_23 rfl) (z_iald (pc := 24) C dX4_becomeLesser_24))) (z_cMin (pc := 25) C ⟨Nat.zero_le _, Nat.zero_le _⟩ hmmin0 hmmin1 hmmin2 hmmin3 ⟨Nat.le_of_ble_eq_true rfl, Nat.le_of_ble_eq_true rfl⟩ (by decide) dX4_becomeLesser_25)) (z_iast (pc := 28) C dX4_becomeLesser_28))
    (xS_inc (z_inc (pc := 29) C dX4_becomeLesser_29 (by decide) (by decide))) (z_goto (pc := 32) (tgt := 2) C dX4_becomeLesser_32 (by decide))))
    (xS_retV (z_retV (pc := 35) C ⟨Nat.zero_le _, Nat.zero_le _⟩ dX4_becomeLesser_35))
theorem q_X4_fitsWith : yX4_fitsWith.cls = RX4 ∧ yX4_fitsWith.cls ≠ "java/lang/invoke/MethodHandle" ∧ yX4_fitsWith.cls ≠ "java/lang/invoke/VarHandle" ∧ (parseMethodDescriptor yX4_fitsWith.desc).map (fun d => d.parameters.length) = some 1 := by decide +kernel
set_option maxRecDepth 20000 in
set_option maxHeartbeats 4000000 in
theorem t_X4_fitsWith (l : Launch) (hfl : l.stackTraces = false) : z_CT l yX4_fitsWith wsX4_fitsWith 2 2 33 0 0 false m_X4_fitsWith := by
  refine z_CT.vm (z_CT.of hfl (jL := 99) (cc := cX4_fitsWith) (nL := 4) (rt := (some .boolean)) (by decide +kernel) rfl (by decide) 0 0 ?_)
  intro p e s m args below meth c base D dT o hf C0
  have C : z_Cx p l s m args meth c base cX4_fitsWith 4 RX4 wsX4_fitsWith (some .boolean) [] := C0
  exact xS_seq (xS_seq (xS_set (z_iconst (pc := 0) C dX4_fitsWith_0) ((z_istore_n (pc := 1) C dX4_fitsWith_1 rfl (by decide) (by decide)))) (xS_lp (xB_cmp (z_iload_n (pc := 2) C dX4_fitsWith_2 rfl) (z_bipush (pc := 3) C dX4_fitsWith_3 (by decide +kernel)) (z_icmp_geN (pc := 5) (tgt := 49) C dX4_fitsWith_5 (by decide)))
    (xS_seq (xS_set (xE_e2 (n := 1) (z_bipush (pc := 8) C dX4_fitsWith_8 (by decide +kernel)) (fun _ => Nat.le_refl 1) (z_iload_n (pc := 10) C dX4_fitsWith_10 rfl) (z_isub (pc := 11) C dX4_fitsWith_11)) ((z_istore_n (pc := 12) C dX4_fitsWith_12 rfl (by decide) (by decide)))) (xS_lp (xB_cmp (z_iload_n (pc := 13) C dX4_fitsWith_13 rfl) (z_bipush (pc := 14) C dX4_fitsWith_14 (by decide +kernel)) (z_icmp_geN (pc := 16) (tgt := 43) C dX4_fitsWith_16 (by decide)))
    (xS_if (xB_and (xB_v (xE_clB (xA_s (fun _ => rfl) (xA_s (fun _ => rfl) (xA_n) (z_aload_n (pc := 19) C dX4_fitsWith_19 rfl)) (z_iload_n (pc := 20) C dX4_fitsWith_20 rfl)) (z_cV (pc := 21) C (fun _ _ => ⟨rfl, rfl⟩) ⟨Nat.zero_le _, Nat.zero_le _⟩ (t_X4_hasTerm l hfl) (ci := 4) (CC := RX4) rfl gX4_fitsWith_X4_hasTerm rfl q_X4_hasTerm ⟨by decide, by decide⟩ (by decide) dX4_fitsWith_21)) (z_b_eq (pc := 24) (tgt := 37) C dX4_fitsWith_24 (by decide))) (xB_v (xE_clB (xA_s (fun _ => rfl) (xA_s (fun _ => rfl) (xA_n) (z_aload_n (pc := 27) C dX4_fitsWith_27 rfl)) (z_iload_n (pc := 28) C dX4_fitsWith_28 rfl)) (z_cV (pc := 29) C (fun _ _ => ⟨rfl, rfl⟩) ⟨Nat.zero_le _, Nat.zero_le _⟩ (t_X4_hasTerm l hfl) (ci := 4) (CC := RX4) rfl gX4_fitsWith_X4_hasTerm rfl q_X4_hasTerm ⟨by decide, by decide⟩ (by decide) dX4_fitsWith_29)) (z_b_eq (pc := 32) (tgt := 37) C dX4_fitsWith_32 (by decide)))) (xS_ret (z_bconst (b := false) (pc := 35) C rfl dX4_fitsWith_35) (z_retB (pc := 36) C ⟨Nat.zero_le _, Nat.zero_le _⟩ dX4_fitsWith_36)) jG_id xS_nop)
    (xS_inc (z_inc (pc := 37) C dX4_fitsWith_37 (by decide) (by decide))) (z_goto (pc := 40) (tgt := 13) C dX4_fitsWith_40 (by decide))))
    (xS_inc (z_inc (pc := 43) C dX4_fitsWith_43 (by decide) (by decide))) (z_goto (pc := 46) (tgt := 2) C dX4_fitsWith_46 (by decide))))
    (xS_ret (z_bconst (b := true) (pc := 49) C rfl dX4_fitsWith_49) (z_retB (pc := 50) C ⟨Nat.zero_le _, Nat.zero_le _⟩ dX4_fitsWith_50))
theorem q_X4_becomeProduct : yX4_becomeProduct.cls = RX4 ∧ yX4_becomeProduct.cls ≠ "java/lang/invoke/MethodHandle" ∧ yX4_becomeProduct.cls ≠ "java/lang/invoke/VarHandle" ∧ (parseMethodDescriptor yX4_becomeProduct.desc).map (fun d => d.parameters.length) = some 2 := by decide +kernel
set_option maxRecDepth 20000 in
set_option maxHeartbeats 4000000 in
theorem t_X4_becomeProduct (l : Launch) (hfl : l.stackTraces = false) : z_CT l yX4_becomeProduct wsX4_becomeProduct 3 2 33 0 0 false m_X4_becomeProduct := by
  refine z_CT.vm (z_CT.of hfl (jL := 99) (cc := cX4_becomeProduct) (nL := 6) (rt := none) (by decide +kernel) rfl (by decide) 0 0 ?_)
  intro p e s m args below meth c base D dT o hf C0
  have C : z_Cx p l s m args meth c base cX4_becomeProduct 6 RX4 wsX4_becomeProduct none [] := C0
  have hc15 : Cond.constant RX4 15 (Int32.ofInt 1000000) ∈ wsX4_becomeProduct := by decide +kernel
  have hinX4 : ∀ w ∈ u_ws RX4 TX4 1, w ∈ wsX4_becomeProduct := by decide +kernel
  have hf9 : Cond.fieldLink RX4 9 "Amoebary$Polynomial" "coefficients" "[I" ∈ wsX4_becomeProduct := by decide +kernel
  have hy51 : Cond.methodLinkNest RX4 51 yX5_together "Amoebary" ∈ z_xw := by decide +kernel
  have hiX5 : Cond.initialized yX5_together.cls ∈ wsX4_becomeProduct := by decide +kernel
  have hs51 : Cond.static yX5_together ∈ wsX4_becomeProduct := by decide +kernel
  have hmmin0 : Cond.methodLink RX4 26 Lib.Math.min.name ∈ wsX4_becomeProduct := by decide +kernel
  have hmmin1 : Cond.static Lib.Math.min.name ∈ wsX4_becomeProduct := by decide +kernel
  have hmmin2 : Cond.initialized "java/lang/Math" ∈ wsX4_becomeProduct := by decide +kernel
  have hmmin3 : Cond.code Lib.Math.min.name Lib.Math.min.code 2 (some .int) ∈ wsX4_becomeProduct := by decide +kernel
  exact xS_seq (xS_seq (xS_set (z_iconst (pc := 0) C dX4_becomeProduct_0) ((z_istore_n (pc := 1) C dX4_becomeProduct_1 rfl (by decide) (by decide)))) (xS_lp (xB_cmp (z_iload_n (pc := 2) C dX4_becomeProduct_2 rfl) (z_bipush (pc := 3) C dX4_becomeProduct_3 (by decide +kernel)) (z_icmp_geN (pc := 5) (tgt := 67) C dX4_becomeProduct_5 (by decide)))
    (xS_seq (xS_set (z_ldc (x := 1000000) (pc := 8) C hc15 dX4_becomeProduct_8) ((z_istore (pc := 10) C dX4_becomeProduct_10 (by decide) (by decide))))
    (xS_seq (xS_seq (xS_set (z_iconst (pc := 12) C dX4_becomeProduct_12) ((z_istore (pc := 13) C dX4_becomeProduct_13 (by decide) (by decide)))) (xS_lp (xB_cmp (z_iload (pc := 15) C dX4_becomeProduct_15) (z_iload_n (pc := 17) C dX4_becomeProduct_17 rfl) (z_icmp_gtN (pc := 18) (tgt := 53) C dX4_becomeProduct_18 (by decide)))
    (xS_set (xE_cl (xA_s (fun _ => rfl) (xA_s (fun _ => rfl) (xA_n) (z_iload (pc := 21) C dX4_becomeProduct_21)) (xE_cl (xA_s (fun _ => rfl) (xA_s (fun _ => rfl) (xA_n) (xE_ld (xE_fR (z_aload_n (pc := 23) C dX4_becomeProduct_23 rfl) (z_get (pc := 24) C (CC := RX4) (TT := TX4) (N := 1) 0 hinX4 rfl (by decide) hf9 rfl dX4_becomeProduct_24)) (z_iload (pc := 27) C dX4_becomeProduct_27) (z_iald (pc := 29) C dX4_becomeProduct_29))) (xE_ld (xE_fR (z_aload_n (pc := 30) C dX4_becomeProduct_30 rfl) (z_get (pc := 31) C (CC := RX4) (TT := TX4) (N := 1) 0 hinX4 rfl (by decide) hf9 rfl dX4_becomeProduct_31)) (xE_e2 (n := 1) (z_iload_n (pc := 34) C dX4_becomeProduct_34 rfl) (fun _ => Nat.le_refl 1) (z_iload (pc := 35) C dX4_becomeProduct_35) (z_isub (pc := 37) C dX4_becomeProduct_37)) (z_iald (pc := 38) C dX4_becomeProduct_38))) (z_cSN (pc := 39) C (fun _ _ => ⟨rfl, rfl⟩) ⟨Nat.zero_le _, Nat.zero_le _⟩ (t_X5_together l hfl) gX4_becomeProduct_X5_together_n51 rfl hy51 hiX5 hs51 q_X5_together ⟨by decide, by decide⟩ (by decide) dX4_becomeProduct_39))) (z_cMin (pc := 42) C ⟨Nat.zero_le _, Nat.zero_le _⟩ hmmin0 hmmin1 hmmin2 hmmin3 ⟨Nat.le_of_ble_eq_true rfl, Nat.le_of_ble_eq_true rfl⟩ (by decide) dX4_becomeProduct_42)) ((z_istore (pc := 45) C dX4_becomeProduct_45 (by decide) (by decide))))
    (xS_inc (z_inc (pc := 47) C dX4_becomeProduct_47 (by decide) (by decide))) (z_goto (pc := 50) (tgt := 15) C dX4_becomeProduct_50 (by decide))))
    (xS_ast (xE_fR (z_aload_n (pc := 53) C dX4_becomeProduct_53 rfl) (z_get (pc := 54) C (CC := RX4) (TT := TX4) (N := 1) 0 hinX4 rfl (by decide) hf9 rfl dX4_becomeProduct_54)) (z_iload_n (pc := 57) C dX4_becomeProduct_57 rfl) (z_iload (pc := 58) C dX4_becomeProduct_58) (z_iast (pc := 60) C dX4_becomeProduct_60))))
    (xS_inc (z_inc (pc := 61) C dX4_becomeProduct_61 (by decide) (by decide))) (z_goto (pc := 64) (tgt := 2) C dX4_becomeProduct_64 (by decide))))
    (xS_retV (z_retV (pc := 67) C ⟨Nat.zero_le _, Nat.zero_le _⟩ dX4_becomeProduct_67))
theorem q_X5_isBeyond : yX5_isBeyond.cls ≠ "java/lang/invoke/MethodHandle" ∧ yX5_isBeyond.cls ≠ "java/lang/invoke/VarHandle" ∧ (parseMethodDescriptor yX5_isBeyond.desc).map (fun d => d.parameters.length) = some 2 := by decide +kernel
set_option maxRecDepth 20000 in
set_option maxHeartbeats 4000000 in
theorem t_X5_isBeyond (l : Launch) (hfl : l.stackTraces = false) : z_CT l yX5_isBeyond wsX5_isBeyond 2 1 12 0 0 false m_X5_isBeyond := by
  refine (z_CT.of hfl (jL := 99) (cc := cX5_isBeyond) (nL := 2) (rt := (some .boolean)) (by decide +kernel) rfl (by decide) 0 0 ?_)
  intro p e s m args below meth c base D dT o hf C0
  have C : z_Cx p l s m args meth c base cX5_isBeyond 2 RX5 wsX5_isBeyond (some .boolean) [] := C0
  have hc301 : Cond.constant RX5 301 (Int32.ofInt 1000000) ∈ wsX5_isBeyond := by decide +kernel
  exact xS_ret (xE_b (xB_and (xB_cmp (z_iload_n (pc := 0) C dX5_isBeyond_0 rfl) (z_ldcw (x := 1000000) (pc := 1) C hc301 dX5_isBeyond_1) (z_icmp_eqN (pc := 4) (tgt := 22) C dX5_isBeyond_4 (by decide))) (xB_or (xB_cmp (z_iload_n (pc := 7) C dX5_isBeyond_7 rfl) (xE_e1 (z_iload_n (pc := 8) C dX5_isBeyond_8 rfl) (z_ineg (pc := 9) C dX5_isBeyond_9)) (z_icmp_lt (pc := 10) (tgt := 18) C dX5_isBeyond_10 (by decide))) (xB_cmp (z_iload_n (pc := 13) C dX5_isBeyond_13 rfl) (z_iload_n (pc := 14) C dX5_isBeyond_14 rfl) (z_icmp_leN (pc := 15) (tgt := 22) C dX5_isBeyond_15 (by decide))))) (z_push (pc := 18) C dX5_isBeyond_18) (z_goto (pc := 19) (tgt := 23) C dX5_isBeyond_19 (by decide)) (z_push (pc := 22) C dX5_isBeyond_22)) (z_retB (pc := 23) C ⟨Nat.zero_le _, Nat.zero_le _⟩ dX5_isBeyond_23)
theorem q_X4_isWithinLimit : yX4_isWithinLimit.cls = RX4 ∧ yX4_isWithinLimit.cls ≠ "java/lang/invoke/MethodHandle" ∧ yX4_isWithinLimit.cls ≠ "java/lang/invoke/VarHandle" ∧ (parseMethodDescriptor yX4_isWithinLimit.desc).map (fun d => d.parameters.length) = some 0 := by decide +kernel
set_option maxRecDepth 20000 in
set_option maxHeartbeats 4000000 in
theorem t_X4_isWithinLimit (l : Launch) (hfl : l.stackTraces = false) : z_CT l yX4_isWithinLimit wsX4_isWithinLimit 1 2 33 0 0 false m_X4_isWithinLimit := by
  refine z_CT.vm (z_CT.of hfl (jL := 99) (cc := cX4_isWithinLimit) (nL := 2) (rt := (some .boolean)) (by decide +kernel) rfl (by decide) 0 0 ?_)
  intro p e s m args below meth c base D dT o hf C0
  have C : z_Cx p l s m args meth c base cX4_isWithinLimit 2 RX4 wsX4_isWithinLimit (some .boolean) [] := C0
  have hinX4 : ∀ w ∈ u_ws RX4 TX4 1, w ∈ wsX4_isWithinLimit := by decide +kernel
  have hf9 : Cond.fieldLink RX4 9 "Amoebary$Polynomial" "coefficients" "[I" ∈ wsX4_isWithinLimit := by decide +kernel
  have hy54 : Cond.methodLinkNest RX4 54 yX5_isBeyond "Amoebary" ∈ z_xw := by decide +kernel
  have hiX5 : Cond.initialized yX5_isBeyond.cls ∈ wsX4_isWithinLimit := by decide +kernel
  have hs54 : Cond.static yX5_isBeyond ∈ wsX4_isWithinLimit := by decide +kernel
  exact xS_seq (xS_seq (xS_set (z_iconst (pc := 0) C dX4_isWithinLimit_0) ((z_istore_n (pc := 1) C dX4_isWithinLimit_1 rfl (by decide) (by decide)))) (xS_lp (xB_cmp (z_iload_n (pc := 2) C dX4_isWithinLimit_2 rfl) (z_bipush (pc := 3) C dX4_isWithinLimit_3 (by decide +kernel)) (z_icmp_geN (pc := 5) (tgt := 31) C dX4_isWithinLimit_5 (by decide)))
    (xS_if (xB_v (xE_clB (xA_s (fun _ => rfl) (xA_s (fun _ => rfl) (xA_n) (xE_ld (xE_fR (z_aload_n (pc := 8) C dX4_isWithinLimit_8 rfl) (z_get (pc := 9) C (CC := RX4) (TT := TX4) (N := 1) 0 hinX4 rfl (by decide) hf9 rfl dX4_isWithinLimit_9)) (z_iload_n (pc := 12) C dX4_isWithinLimit_12 rfl) (z_iald (pc := 13) C dX4_isWithinLimit_13))) (z_sipush (pc := 14) C dX4_isWithinLimit_14 (by decide +kernel))) (z_cSN (pc := 17) C (fun _ _ => ⟨rfl, rfl⟩) ⟨Nat.zero_le _, Nat.zero_le _⟩ (t_X5_isBeyond l hfl) gX4_isWithinLimit_X5_isBeyond_n54 rfl hy54 hiX5 hs54 q_X5_isBeyond ⟨by decide, by decide⟩ (by decide) dX4_isWithinLimit_17)) (z_b_eq (pc := 20) (tgt := 25) C dX4_isWithinLimit_20 (by decide))) (xS_ret (z_bconst (b := false) (pc := 23) C rfl dX4_isWithinLimit_23) (z_retB (pc := 24) C ⟨Nat.zero_le _, Nat.zero_le _⟩ dX4_isWithinLimit_24)) jG_id xS_nop)
    (xS_inc (z_inc (pc := 25) C dX4_isWithinLimit_25 (by decide) (by decide))) (z_goto (pc := 28) (tgt := 2) C dX4_isWithinLimit_28 (by decide))))
    (xS_ret (z_bconst (b := true) (pc := 31) C rfl dX4_isWithinLimit_31) (z_retB (pc := 32) C ⟨Nat.zero_le _, Nat.zero_le _⟩ dX4_isWithinLimit_32))
theorem q_X2_becomeEmpty : yX2_becomeEmpty.cls = RX2 ∧ yX2_becomeEmpty.cls ≠ "java/lang/invoke/MethodHandle" ∧ yX2_becomeEmpty.cls ≠ "java/lang/invoke/VarHandle" ∧ (parseMethodDescriptor yX2_becomeEmpty.desc).map (fun d => d.parameters.length) = some 1 := by decide +kernel
set_option maxRecDepth 20000 in
set_option maxHeartbeats 4000000 in
theorem t_X2_becomeEmpty (l : Launch) (hfl : l.stackTraces = false) : z_CT l yX2_becomeEmpty wsX2_becomeEmpty 2 2 35 0 0 false m_X2_becomeEmpty := by
  refine z_CT.vm (z_CT.of hfl (jL := 99) (cc := cX2_becomeEmpty) (nL := 3) (rt := none) (by decide +kernel) rfl (by decide) 0 0 ?_)
  intro p e s m args below meth c base D dT o hf C0
  have C : z_Cx p l s m args meth c base cX2_becomeEmpty 3 RX2 wsX2_becomeEmpty none [] := C0
  have hinX2 : ∀ w ∈ u_ws RX2 TX2 2, w ∈ wsX2_becomeEmpty := by decide +kernel
  have hf20 : Cond.fieldLink RX2 20 "Amoebary$Matrix" "rows" "I" ∈ wsX2_becomeEmpty := by decide +kernel
  have hf11 : Cond.fieldLink RX2 11 "Amoebary$Matrix" "entries" "[[I" ∈ wsX2_becomeEmpty := by decide +kernel
  have hc24 : Cond.constant RX2 24 (Int32.ofInt 1000000) ∈ wsX2_becomeEmpty := by decide +kernel
  exact xS_seq (xS_seq (xS_fst (z_aload_n (pc := 0) C dX2_becomeEmpty_0 rfl) (z_iload_n (pc := 1) C dX2_becomeEmpty_1 rfl) (z_put (pc := 2) C (CC := RX2) (TT := TX2) (N := 2) 1 hinX2 tyX2 tyX2_ok nmX2 rfl (by decide) hf20 rfl rfl (by decide +kernel) dX2_becomeEmpty_2))
    (xS_seq (xS_set (z_iconst (pc := 5) C dX2_becomeEmpty_5) ((z_istore_n (pc := 6) C dX2_becomeEmpty_6 rfl (by decide) (by decide)))) (xS_lp (xB_cmp (z_iload_n (pc := 7) C dX2_becomeEmpty_7 rfl) (z_iconst (pc := 8) C dX2_becomeEmpty_8) (z_icmp_geN (pc := 9) (tgt := 29) C dX2_becomeEmpty_9 (by decide)))
    (xS_cl (xA_s (fun _ => rfl) (xA_s (fun _ => rfl) (xA_n) (xE_ldR (t := 4) (xE_fR (z_aload_n (pc := 12) C dX2_becomeEmpty_12 rfl) (z_get (pc := 13) C (CC := RX2) (TT := TX2) (N := 2) 0 hinX2 rfl (by decide) hf11 rfl dX2_becomeEmpty_13)) (z_iload_n (pc := 16) C dX2_becomeEmpty_16 rfl) (z_aald (pc := 17) C (t := 2) (ty := .array .int) rfl rfl dX2_becomeEmpty_17))) (z_ldc (x := 1000000) (pc := 18) C hc24 dX2_becomeEmpty_18)) (z_cS (pc := 20) C (fun _ _ => ⟨rfl, rfl⟩) ⟨Nat.zero_le _, Nat.zero_le _⟩ (t_J7_fill_53178 l hfl) gX2_becomeEmpty_J7_fill_53178 rfl q_J7_fill_53178 ⟨by decide, by decide⟩ (by decide) dX2_becomeEmpty_20))
    (xS_inc (z_inc (pc := 23) C dX2_becomeEmpty_23 (by decide) (by decide))) (z_goto (pc := 26) (tgt := 7) C dX2_becomeEmpty_26 (by decide)))))
    (xS_retV (z_retV (pc := 29) C ⟨Nat.zero_le _, Nat.zero_le _⟩ dX2_becomeEmpty_29))
theorem q_X2_becomeCopy : yX2_becomeCopy.cls = RX2 ∧ yX2_becomeCopy.cls ≠ "java/lang/invoke/MethodHandle" ∧ yX2_becomeCopy.cls ≠ "java/lang/invoke/VarHandle" ∧ (parseMethodDescriptor yX2_becomeCopy.desc).map (fun d => d.parameters.length) = some 1 := by decide +kernel
set_option maxRecDepth 20000 in
set_option maxHeartbeats 4000000 in
theorem t_X2_becomeCopy (l : Launch) (hfl : l.stackTraces = false) : z_CT l yX2_becomeCopy wsX2_becomeCopy 2 1 26 0 0 false m_X2_becomeCopy := by
  refine z_CT.vm (z_CT.of hfl (jL := 99) (cc := cX2_becomeCopy) (nL := 3) (rt := none) (by decide +kernel) rfl (by decide) 0 0 ?_)
  intro p e s m args below meth c base D dT o hf C0
  have C : z_Cx p l s m args meth c base cX2_becomeCopy 3 RX2 wsX2_becomeCopy none [] := C0
  have hinX2 : ∀ w ∈ u_ws RX2 TX2 2, w ∈ wsX2_becomeCopy := by decide +kernel
  have hf20 : Cond.fieldLink RX2 20 "Amoebary$Matrix" "rows" "I" ∈ wsX2_becomeCopy := by decide +kernel
  have hf11 : Cond.fieldLink RX2 11 "Amoebary$Matrix" "entries" "[[I" ∈ wsX2_becomeCopy := by decide +kernel
  have hac0 : Cond.methodLink RX2 31 arraycopyName ∈ wsX2_becomeCopy := by decide +kernel
  have hac1 : Cond.native arraycopyName ∈ wsX2_becomeCopy := by decide +kernel
  have hac2 : Cond.static arraycopyName ∈ wsX2_becomeCopy := by decide +kernel
  have hac3 : Cond.initialized "java/lang/System" ∈ wsX2_becomeCopy := by decide +kernel
  exact xS_seq (xS_seq (xS_fst (z_aload_n (pc := 0) C dX2_becomeCopy_0 rfl) (xE_f (z_aload_n (pc := 1) C dX2_becomeCopy_1 rfl) (z_get (pc := 2) C (CC := RX2) (TT := TX2) (N := 2) 1 hinX2 rfl (by decide) hf20 rfl dX2_becomeCopy_2)) (z_put (pc := 5) C (CC := RX2) (TT := TX2) (N := 2) 1 hinX2 tyX2 tyX2_ok nmX2 rfl (by decide) hf20 rfl rfl (by decide +kernel) dX2_becomeCopy_5))
    (xS_seq (xS_set (z_iconst (pc := 8) C dX2_becomeCopy_8) ((z_istore_n (pc := 9) C dX2_becomeCopy_9 rfl (by decide) (by decide)))) (xS_lp (xB_cmp (z_iload_n (pc := 10) C dX2_becomeCopy_10 rfl) (z_iconst (pc := 11) C dX2_becomeCopy_11) (z_icmp_geN (pc := 12) (tgt := 39) C dX2_becomeCopy_12 (by decide)))
    (xS_cl (xA_s (fun _ => rfl) (xA_s (fun _ => rfl) (xA_s (fun _ => rfl) (xA_s (fun _ => rfl) (xA_s (fun _ => rfl) (xA_n) (xE_ldR (t := 4) (xE_fR (z_aload_n (pc := 15) C dX2_becomeCopy_15 rfl) (z_get (pc := 16) C (CC := RX2) (TT := TX2) (N := 2) 0 hinX2 rfl (by decide) hf11 rfl dX2_becomeCopy_16)) (z_iload_n (pc := 19) C dX2_becomeCopy_19 rfl) (z_aald (pc := 20) C (t := 2) (ty := .array .int) rfl rfl dX2_becomeCopy_20))) (z_iconst (pc := 21) C dX2_becomeCopy_21)) (xE_ldR (t := 4) (xE_fR (z_aload_n (pc := 22) C dX2_becomeCopy_22 rfl) (z_get (pc := 23) C (CC := RX2) (TT := TX2) (N := 2) 0 hinX2 rfl (by decide) hf11 rfl dX2_becomeCopy_23)) (z_iload_n (pc := 26) C dX2_becomeCopy_26 rfl) (z_aald (pc := 27) C (t := 2) (ty := .array .int) rfl rfl dX2_becomeCopy_27))) (z_iconst (pc := 28) C dX2_becomeCopy_28)) (z_iconst (pc := 29) C dX2_becomeCopy_29)) (z_cCopy (pc := 30) C hac0 hac1 hac2 hac3 ⟨Nat.le_of_ble_eq_true rfl, Nat.le_of_ble_eq_true rfl⟩ (by decide) dX2_becomeCopy_30))
    (xS_inc (z_inc (pc := 33) C dX2_becomeCopy_33 (by decide) (by decide))) (z_goto (pc := 36) (tgt := 10) C dX2_becomeCopy_36 (by decide)))))
    (xS_retV (z_retV (pc := 39) C ⟨Nat.zero_le _, Nat.zero_le _⟩ dX2_becomeCopy_39))
theorem q_X2_countNumbers : yX2_countNumbers.cls = RX2 ∧ yX2_countNumbers.cls ≠ "java/lang/invoke/MethodHandle" ∧ yX2_countNumbers.cls ≠ "java/lang/invoke/VarHandle" ∧ (parseMethodDescriptor yX2_countNumbers.desc).map (fun d => d.parameters.length) = some 0 := by decide +kernel
set_option maxRecDepth 20000 in
set_option maxHeartbeats 4000000 in
theorem t_X2_countNumbers (l : Launch) (hfl : l.stackTraces = false) : z_CT l yX2_countNumbers wsX2_countNumbers 1 1 12 0 0 false m_X2_countNumbers := by
  refine z_CT.vm (z_CT.of hfl (jL := 99) (cc := cX2_countNumbers) (nL := 4) (rt := (some .int)) (by decide +kernel) rfl (by decide) 0 0 ?_)
  intro p e s m args below meth c base D dT o hf C0
  have C : z_Cx p l s m args meth c base cX2_countNumbers 4 RX2 wsX2_countNumbers (some .int) [] := C0
  have hinX2 : ∀ w ∈ u_ws RX2 TX2 2, w ∈ wsX2_countNumbers := by decide +kernel
  have hf20 : Cond.fieldLink RX2 20 "Amoebary$Matrix" "rows" "I" ∈ wsX2_countNumbers := by decide +kernel
  have hf11 : Cond.fieldLink RX2 11 "Amoebary$Matrix" "entries" "[[I" ∈ wsX2_countNumbers := by decide +kernel
  have hc24 : Cond.constant RX2 24 (Int32.ofInt 1000000) ∈ wsX2_countNumbers := by decide +kernel
  exact xS_seq (xS_set (z_iconst (pc := 0) C dX2_countNumbers_0) ((z_istore_n (pc := 1) C dX2_countNumbers_1 rfl (by decide) (by decide))))
    (xS_seq (xS_seq (xS_set (z_iconst (pc := 2) C dX2_countNumbers_2) ((z_istore_n (pc := 3) C dX2_countNumbers_3 rfl (by decide) (by decide)))) (xS_lp (xB_cmp (z_iload_n (pc := 4) C dX2_countNumbers_4 rfl) (xE_f (z_aload_n (pc := 5) C dX2_countNumbers_5 rfl) (z_get (pc := 6) C (CC := RX2) (TT := TX2) (N := 2) 1 hinX2 rfl (by decide) hf20 rfl dX2_countNumbers_6)) (z_icmp_geN (pc := 9) (tgt := 50) C dX2_countNumbers_9 (by decide)))
    (xS_seq (xS_set (z_iconst (pc := 12) C dX2_countNumbers_12) ((z_istore_n (pc := 13) C dX2_countNumbers_13 rfl (by decide) (by decide)))) (xS_lp (xB_cmp (z_iload_n (pc := 14) C dX2_countNumbers_14 rfl) (xE_f (z_aload_n (pc := 15) C dX2_countNumbers_15 rfl) (z_get (pc := 16) C (CC := RX2) (TT := TX2) (N := 2) 1 hinX2 rfl (by decide) hf20 rfl dX2_countNumbers_16)) (z_icmp_geN (pc := 19) (tgt := 44) C dX2_countNumbers_19 (by decide)))
    (xS_if (xB_cmp (xE_ld (xE_ldR (t := 4) (xE_fR (z_aload_n (pc := 22) C dX2_countNumbers_22 rfl) (z_get (pc := 23) C (CC := RX2) (TT := TX2) (N := 2) 0 hinX2 rfl (by decide) hf11 rfl dX2_countNumbers_23)) (z_iload_n (pc := 26) C dX2_countNumbers_26 rfl) (z_aald (pc := 27) C (t := 2) (ty := .array .int) rfl rfl dX2_countNumbers_27)) (z_iload_n (pc := 28) C dX2_countNumbers_28 rfl) (z_iald (pc := 29) C dX2_countNumbers_29)) (z_ldc (x := 1000000) (pc := 30) C hc24 dX2_countNumbers_30) (z_icmp_eqN (pc := 32) (tgt := 38) C dX2_countNumbers_32 (by decide))) (xS_inc (z_inc (pc := 35) C dX2_countNumbers_35 (by decide) (by decide))) jG_id xS_nop)
    (xS_inc (z_inc (pc := 38) C dX2_countNumbers_38 (by decide) (by decide))) (z_goto (pc := 41) (tgt := 14) C dX2_countNumbers_41 (by decide))))
    (xS_inc (z_inc (pc := 44) C dX2_countNumbers_44 (by decide) (by decide))) (z_goto (pc := 47) (tgt := 4) C dX2_countNumbers_47 (by decide))))
    (xS_ret (z_iload_n (pc := 50) C dX2_countNumbers_50 rfl) (z_retI (pc := 51) C ⟨Nat.zero_le _, Nat.zero_le _⟩ dX2_countNumbers_51)))
theorem q_X2_hasNumbersAlone : yX2_hasNumbersAlone.cls = RX2 ∧ yX2_hasNumbersAlone.cls ≠ "java/lang/invoke/MethodHandle" ∧ yX2_hasNumbersAlone.cls ≠ "java/lang/invoke/VarHandle" ∧ (parseMethodDescriptor yX2_hasNumbersAlone.desc).map (fun d => d.parameters.length) = some 0 := by decide +kernel
set_option maxRecDepth 20000 in
set_option maxHeartbeats 4000000 in
theorem t_X2_hasNumbersAlone (l : Launch) (hfl : l.stackTraces = false) : z_CT l yX2_hasNumbersAlone wsX2_hasNumbersAlone 1 2 35 0 0 false m_X2_hasNumbersAlone := by
  refine z_CT.vm (z_CT.of hfl (jL := 99) (cc := cX2_hasNumbersAlone) (nL := 1) (rt := (some .boolean)) (by decide +kernel) rfl (by decide) 0 0 ?_)
  intro p e s m args below meth c base D dT o hf C0
  have C : z_Cx p l s m args meth c base cX2_hasNumbersAlone 1 RX2 wsX2_hasNumbersAlone (some .boolean) [] := C0
  have hinX2 : ∀ w ∈ u_ws RX2 TX2 2, w ∈ wsX2_hasNumbersAlone := by decide +kernel
  have hf20 : Cond.fieldLink RX2 20 "Amoebary$Matrix" "rows" "I" ∈ wsX2_hasNumbersAlone := by decide +kernel
  exact xS_ret (xE_b (xB_cmp (xE_cl (xA_s (fun _ => rfl) (xA_n) (z_aload_n (pc := 0) C dX2_hasNumbersAlone_0 rfl)) (z_cV (pc := 1) C (fun _ _ => ⟨rfl, rfl⟩) ⟨Nat.zero_le _, Nat.zero_le _⟩ (t_X2_countNumbers l hfl) (ci := 2) (CC := RX2) rfl gX2_hasNumbersAlone_X2_countNumbers rfl q_X2_countNumbers ⟨by decide, by decide⟩ (by decide) dX2_hasNumbersAlone_1)) (xE_e2 (n := 1) (xE_f (z_aload_n (pc := 4) C dX2_hasNumbersAlone_4 rfl) (z_get (pc := 5) C (CC := RX2) (TT := TX2) (N := 2) 1 hinX2 rfl (by decide) hf20 rfl dX2_hasNumbersAlone_5)) (fun _ => Nat.le_refl 1) (xE_f (z_aload_n (pc := 8) C dX2_hasNumbersAlone_8 rfl) (z_get (pc := 9) C (CC := RX2) (TT := TX2) (N := 2) 1 hinX2 rfl (by decide) hf20 rfl dX2_hasNumbersAlone_9)) (z_imul (pc := 12) C dX2_hasNumbersAlone_12)) (z_icmp_neN (pc := 13) (tgt := 20) C dX2_hasNumbersAlone_13 (by decide))) (z_push (pc := 16) C dX2_hasNumbersAlone_16) (z_goto (pc := 17) (tgt := 21) C dX2_hasNumbersAlone_17 (by decide)) (z_push (pc := 20) C dX2_hasNumbersAlone_20)) (z_retB (pc := 21) C ⟨Nat.zero_le _, Nat.zero_le _⟩ dX2_hasNumbersAlone_21)
theorem q_X2_isWithinLimit : yX2_isWithinLimit.cls = RX2 ∧ yX2_isWithinLimit.cls ≠ "java/lang/invoke/MethodHandle" ∧ yX2_isWithinLimit.cls ≠ "java/lang/invoke/VarHandle" ∧ (parseMethodDescriptor yX2_isWithinLimit.desc).map (fun d => d.parameters.length) = some 0 := by decide +kernel
set_option maxRecDepth 20000 in
set_option maxHeartbeats 4000000 in
theorem t_X2_isWithinLimit (l : Launch) (hfl : l.stackTraces = false) : z_CT l yX2_isWithinLimit wsX2_isWithinLimit 1 2 33 0 0 false m_X2_isWithinLimit := by
  refine z_CT.vm (z_CT.of hfl (jL := 99) (cc := cX2_isWithinLimit) (nL := 3) (rt := (some .boolean)) (by decide +kernel) rfl (by decide) 0 0 ?_)
  intro p e s m args below meth c base D dT o hf C0
  have C : z_Cx p l s m args meth c base cX2_isWithinLimit 3 RX2 wsX2_isWithinLimit (some .boolean) [] := C0
  have hinX2 : ∀ w ∈ u_ws RX2 TX2 2, w ∈ wsX2_isWithinLimit := by decide +kernel
  have hf20 : Cond.fieldLink RX2 20 "Amoebary$Matrix" "rows" "I" ∈ wsX2_isWithinLimit := by decide +kernel
  have hf11 : Cond.fieldLink RX2 11 "Amoebary$Matrix" "entries" "[[I" ∈ wsX2_isWithinLimit := by decide +kernel
  have hc41 : Cond.constant RX2 41 (Int32.ofInt 99999) ∈ wsX2_isWithinLimit := by decide +kernel
  have hy42 : Cond.methodLinkNest RX2 42 yX5_isBeyond "Amoebary" ∈ z_xw := by decide +kernel
  have hiX5 : Cond.initialized yX5_isBeyond.cls ∈ wsX2_isWithinLimit := by decide +kernel
  have hs42 : Cond.static yX5_isBeyond ∈ wsX2_isWithinLimit := by decide +kernel
  exact xS_seq (xS_seq (xS_set (z_iconst (pc := 0) C dX2_isWithinLimit_0) ((z_istore_n (pc := 1) C dX2_isWithinLimit_1 rfl (by decide) (by decide)))) (xS_lp (xB_cmp (z_iload_n (pc := 2) C dX2_isWithinLimit_2 rfl) (xE_f (z_aload_n (pc := 3) C dX2_isWithinLimit_3 rfl) (z_get (pc := 4) C (CC := RX2) (TT := TX2) (N := 2) 1 hinX2 rfl (by decide) hf20 rfl dX2_isWithinLimit_4)) (z_icmp_geN (pc := 7) (tgt := 50) C dX2_isWithinLimit_7 (by decide)))
    (xS_seq (xS_set (z_iconst (pc := 10) C dX2_isWithinLimit_10) ((z_istore_n (pc := 11) C dX2_isWithinLimit_11 rfl (by decide) (by decide)))) (xS_lp (xB_cmp (z_iload_n (pc := 12) C dX2_isWithinLimit_12 rfl) (xE_f (z_aload_n (pc := 13) C dX2_isWithinLimit_13 rfl) (z_get (pc := 14) C (CC := RX2) (TT := TX2) (N := 2) 1 hinX2 rfl (by decide) hf20 rfl dX2_isWithinLimit_14)) (z_icmp_geN (pc := 17) (tgt := 44) C dX2_isWithinLimit_17 (by decide)))
    (xS_if (xB_v (xE_clB (xA_s (fun _ => rfl) (xA_s (fun _ => rfl) (xA_n) (xE_ld (xE_ldR (t := 4) (xE_fR (z_aload_n (pc := 20) C dX2_isWithinLimit_20 rfl) (z_get (pc := 21) C (CC := RX2) (TT := TX2) (N := 2) 0 hinX2 rfl (by decide) hf11 rfl dX2_isWithinLimit_21)) (z_iload_n (pc := 24) C dX2_isWithinLimit_24 rfl) (z_aald (pc := 25) C (t := 2) (ty := .array .int) rfl rfl dX2_isWithinLimit_25)) (z_iload_n (pc := 26) C dX2_isWithinLimit_26 rfl) (z_iald (pc := 27) C dX2_isWithinLimit_27))) (z_ldc (x := 99999) (pc := 28) C hc41 dX2_isWithinLimit_28)) (z_cSN (pc := 30) C (fun _ _ => ⟨rfl, rfl⟩) ⟨Nat.zero_le _, Nat.zero_le _⟩ (t_X5_isBeyond l hfl) gX2_isWithinLimit_X5_isBeyond_n42 rfl hy42 hiX5 hs42 q_X5_isBeyond ⟨by decide, by decide⟩ (by decide) dX2_isWithinLimit_30)) (z_b_eq (pc := 33) (tgt := 38) C dX2_isWithinLimit_33 (by decide))) (xS_ret (z_bconst (b := false) (pc := 36) C rfl dX2_isWithinLimit_36) (z_retB (pc := 37) C ⟨Nat.zero_le _, Nat.zero_le _⟩ dX2_isWithinLimit_37)) jG_id xS_nop)
    (xS_inc (z_inc (pc := 38) C dX2_isWithinLimit_38 (by decide) (by decide))) (z_goto (pc := 41) (tgt := 12) C dX2_isWithinLimit_41 (by decide))))
    (xS_inc (z_inc (pc := 44) C dX2_isWithinLimit_44 (by decide) (by decide))) (z_goto (pc := 47) (tgt := 2) C dX2_isWithinLimit_47 (by decide))))
    (xS_ret (z_bconst (b := true) (pc := 50) C rfl dX2_isWithinLimit_50) (z_retB (pc := 51) C ⟨Nat.zero_le _, Nat.zero_le _⟩ dX2_isWithinLimit_51))
theorem q_X2_becomeProduct : yX2_becomeProduct.cls = RX2 ∧ yX2_becomeProduct.cls ≠ "java/lang/invoke/MethodHandle" ∧ yX2_becomeProduct.cls ≠ "java/lang/invoke/VarHandle" ∧ (parseMethodDescriptor yX2_becomeProduct.desc).map (fun d => d.parameters.length) = some 2 := by decide +kernel
set_option maxRecDepth 20000 in
set_option maxHeartbeats 4000000 in
theorem t_X2_becomeProduct (l : Launch) (hfl : l.stackTraces = false) : z_CT l yX2_becomeProduct wsX2_becomeProduct 3 2 33 0 0 false m_X2_becomeProduct := by
  refine z_CT.vm (z_CT.of hfl (jL := 99) (cc := cX2_becomeProduct) (nL := 7) (rt := none) (by decide +kernel) rfl (by decide) 0 0 ?_)
  intro p e s m args below meth c base D dT o hf C0
  have C : z_Cx p l s m args meth c base cX2_becomeProduct 7 RX2 wsX2_becomeProduct none [] := C0
  have hinX2 : ∀ w ∈ u_ws RX2 TX2 2, w ∈ wsX2_becomeProduct := by decide +kernel
  have hf20 : Cond.fieldLink RX2 20 "Amoebary$Matrix" "rows" "I" ∈ wsX2_becomeProduct := by decide +kernel
  have hc24 : Cond.constant RX2 24 (Int32.ofInt 1000000) ∈ wsX2_becomeProduct := by decide +kernel
  have hf11 : Cond.fieldLink RX2 11 "Amoebary$Matrix" "entries" "[[I" ∈ wsX2_becomeProduct := by decide +kernel
  have hy46 : Cond.methodLinkNest RX2 46 yX5_together "Amoebary" ∈ z_xw := by decide +kernel
  have hiX5 : Cond.initialized yX5_together.cls ∈ wsX2_becomeProduct := by decide +kernel
  have hs46 : Cond.static yX5_together ∈ wsX2_becomeProduct := by decide +kernel
  have hmmin0 : Cond.methodLink RX2 50 Lib.Math.min.name ∈ wsX2_becomeProduct := by decide +kernel
  have hmmin1 : Cond.static Lib.Math.min.name ∈ wsX2_becomeProduct := by decide +kernel
  have hmmin2 : Cond.initialized "java/lang/Math" ∈ wsX2_becomeProduct := by decide +kernel
  have hmmin3 : Cond.code Lib.Math.min.name Lib.Math.min.code 2 (some .int) ∈ wsX2_becomeProduct := by decide +kernel
  exact xS_seq (xS_seq (xS_fst (z_aload_n (pc := 0) C dX2_becomeProduct_0 rfl) (xE_f (z_aload_n (pc := 1) C dX2_becomeProduct_1 rfl) (z_get (pc := 2) C (CC := RX2) (TT := TX2) (N := 2) 1 hinX2 rfl (by decide) hf20 rfl dX2_becomeProduct_2)) (z_put (pc := 5) C (CC := RX2) (TT := TX2) (N := 2) 1 hinX2 tyX2 tyX2_ok nmX2 rfl (by decide) hf20 rfl rfl (by decide +kernel) dX2_becomeProduct_5))
    (xS_seq (xS_set (z_iconst (pc := 8) C dX2_becomeProduct_8) ((z_istore_n (pc := 9) C dX2_becomeProduct_9 rfl (by decide) (by decide)))) (xS_lp (xB_cmp (z_iload_n (pc := 10) C dX2_becomeProduct_10 rfl) (xE_f (z_aload_n (pc := 11) C dX2_becomeProduct_11 rfl) (z_get (pc := 12) C (CC := RX2) (TT := TX2) (N := 2) 1 hinX2 rfl (by decide) hf20 rfl dX2_becomeProduct_12)) (z_icmp_geN (pc := 15) (tgt := 104) C dX2_becomeProduct_15 (by decide)))
    (xS_seq (xS_set (z_iconst (pc := 18) C dX2_becomeProduct_18) ((z_istore (pc := 19) C dX2_becomeProduct_19 (by decide) (by decide)))) (xS_lp (xB_cmp (z_iload (pc := 21) C dX2_becomeProduct_21) (xE_f (z_aload_n (pc := 23) C dX2_becomeProduct_23 rfl) (z_get (pc := 24) C (CC := RX2) (TT := TX2) (N := 2) 1 hinX2 rfl (by decide) hf20 rfl dX2_becomeProduct_24)) (z_icmp_geN (pc := 27) (tgt := 98) C dX2_becomeProduct_27 (by decide)))
    (xS_seq (xS_set (z_ldc (x := 1000000) (pc := 30) C hc24 dX2_becomeProduct_30) ((z_istore (pc := 32) C dX2_becomeProduct_32 (by decide) (by decide))))
    (xS_seq (xS_seq (xS_set (z_iconst (pc := 34) C dX2_becomeProduct_34) ((z_istore (pc := 35) C dX2_becomeProduct_35 (by decide) (by decide)))) (xS_lp (xB_cmp (z_iload (pc := 37) C dX2_becomeProduct_37) (xE_f (z_aload_n (pc := 39) C dX2_becomeProduct_39 rfl) (z_get (pc := 40) C (CC := RX2) (TT := TX2) (N := 2) 1 hinX2 rfl (by decide) hf20 rfl dX2_becomeProduct_40)) (z_icmp_geN (pc := 43) (tgt := 81) C dX2_becomeProduct_43 (by decide)))
    (xS_set (xE_cl (xA_s (fun _ => rfl) (xA_s (fun _ => rfl) (xA_n) (z_iload (pc := 46) C dX2_becomeProduct_46)) (xE_cl (xA_s (fun _ => rfl) (xA_s (fun _ => rfl) (xA_n) (xE_ld (xE_ldR (t := 4) (xE_fR (z_aload_n (pc := 48) C dX2_becomeProduct_48 rfl) (z_get (pc := 49) C (CC := RX2) (TT := TX2) (N := 2) 0 hinX2 rfl (by decide) hf11 rfl dX2_becomeProduct_49)) (z_iload_n (pc := 52) C dX2_becomeProduct_52 rfl) (z_aald (pc := 53) C (t := 2) (ty := .array .int) rfl rfl dX2_becomeProduct_53)) (z_iload (pc := 54) C dX2_becomeProduct_54) (z_iald (pc := 56) C dX2_becomeProduct_56))) (xE_ld (xE_ldR (t := 4) (xE_fR (z_aload_n (pc := 57) C dX2_becomeProduct_57 rfl) (z_get (pc := 58) C (CC := RX2) (TT := TX2) (N := 2) 0 hinX2 rfl (by decide) hf11 rfl dX2_becomeProduct_58)) (z_iload (pc := 61) C dX2_becomeProduct_61) (z_aald (pc := 63) C (t := 2) (ty := .array .int) rfl rfl dX2_becomeProduct_63)) (z_iload (pc := 64) C dX2_becomeProduct_64) (z_iald (pc := 66) C dX2_becomeProduct_66))) (z_cSN (pc := 67) C (fun _ _ => ⟨rfl, rfl⟩) ⟨Nat.zero_le _, Nat.zero_le _⟩ (t_X5_together l hfl) gX2_becomeProduct_X5_together_n46 rfl hy46 hiX5 hs46 q_X5_together ⟨by decide, by decide⟩ (by decide) dX2_becomeProduct_67))) (z_cMin (pc := 70) C ⟨Nat.zero_le _, Nat.zero_le _⟩ hmmin0 hmmin1 hmmin2 hmmin3 ⟨Nat.le_of_ble_eq_true rfl, Nat.le_of_ble_eq_true rfl⟩ (by decide) dX2_becomeProduct_70)) ((z_istore (pc := 73) C dX2_becomeProduct_73 (by decide) (by decide))))
    (xS_inc (z_inc (pc := 75) C dX2_becomeProduct_75 (by decide) (by decide))) (z_goto (pc := 78) (tgt := 37) C dX2_becomeProduct_78 (by decide))))
    (xS_ast (xE_ldR (t := 4) (xE_fR (z_aload_n (pc := 81) C dX2_becomeProduct_81 rfl) (z_get (pc := 82) C (CC := RX2) (TT := TX2) (N := 2) 0 hinX2 rfl (by decide) hf11 rfl dX2_becomeProduct_82)) (z_iload_n (pc := 85) C dX2_becomeProduct_85 rfl) (z_aald (pc := 86) C (t := 2) (ty := .array .int) rfl rfl dX2_becomeProduct_86)) (z_iload (pc := 87) C dX2_becomeProduct_87) (z_iload (pc := 89) C dX2_becomeProduct_89) (z_iast (pc := 91) C dX2_becomeProduct_91))))
    (xS_inc (z_inc (pc := 92) C dX2_becomeProduct_92 (by decide) (by decide))) (z_goto (pc := 95) (tgt := 21) C dX2_becomeProduct_95 (by decide))))
    (xS_inc (z_inc (pc := 98) C dX2_becomeProduct_98 (by decide) (by decide))) (z_goto (pc := 101) (tgt := 10) C dX2_becomeProduct_101 (by decide)))))
    (xS_retV (z_retV (pc := 104) C ⟨Nat.zero_le _, Nat.zero_le _⟩ dX2_becomeProduct_104))
theorem q_X2_closeWays : yX2_closeWays.cls = RX2 ∧ yX2_closeWays.cls ≠ "java/lang/invoke/MethodHandle" ∧ yX2_closeWays.cls ≠ "java/lang/invoke/VarHandle" ∧ (parseMethodDescriptor yX2_closeWays.desc).map (fun d => d.parameters.length) = some 0 := by decide +kernel
set_option maxRecDepth 20000 in
set_option maxHeartbeats 4000000 in
theorem t_X2_closeWays (l : Launch) (hfl : l.stackTraces = false) : z_CT l yX2_closeWays wsX2_closeWays 1 2 33 0 0 false m_X2_closeWays := by
  refine z_CT.vm (z_CT.of hfl (jL := 99) (cc := cX2_closeWays) (nL := 5) (rt := none) (by decide +kernel) rfl (by decide) 0 0 ?_)
  intro p e s m args below meth c base D dT o hf C0
  have C : z_Cx p l s m args meth c base cX2_closeWays 5 RX2 wsX2_closeWays none [] := C0
  have hinX2 : ∀ w ∈ u_ws RX2 TX2 2, w ∈ wsX2_closeWays := by decide +kernel
  have hf20 : Cond.fieldLink RX2 20 "Amoebary$Matrix" "rows" "I" ∈ wsX2_closeWays := by decide +kernel
  have hf11 : Cond.fieldLink RX2 11 "Amoebary$Matrix" "entries" "[[I" ∈ wsX2_closeWays := by decide +kernel
  have hmmin0 : Cond.methodLink RX2 50 Lib.Math.min.name ∈ wsX2_closeWays := by decide +kernel
  have hmmin1 : Cond.static Lib.Math.min.name ∈ wsX2_closeWays := by decide +kernel
  have hmmin2 : Cond.initialized "java/lang/Math" ∈ wsX2_closeWays := by decide +kernel
  have hmmin3 : Cond.code Lib.Math.min.name Lib.Math.min.code 2 (some .int) ∈ wsX2_closeWays := by decide +kernel
  have hy46 : Cond.methodLinkNest RX2 46 yX5_together "Amoebary" ∈ z_xw := by decide +kernel
  have hiX5 : Cond.initialized yX5_together.cls ∈ wsX2_closeWays := by decide +kernel
  have hs46 : Cond.static yX5_together ∈ wsX2_closeWays := by decide +kernel
  exact xS_seq (xS_seq (xS_seq (xS_set (z_iconst (pc := 0) C dX2_closeWays_0) ((z_istore_n (pc := 1) C dX2_closeWays_1 rfl (by decide) (by decide)))) (xS_lp (xB_cmp (z_iload_n (pc := 2) C dX2_closeWays_2 rfl) (xE_f (z_aload_n (pc := 3) C dX2_closeWays_3 rfl) (z_get (pc := 4) C (CC := RX2) (TT := TX2) (N := 2) 1 hinX2 rfl (by decide) hf20 rfl dX2_closeWays_4)) (z_icmp_geN (pc := 7) (tgt := 36) C dX2_closeWays_7 (by decide)))
    (xS_ast (xE_ldR (t := 4) (xE_fR (z_aload_n (pc := 10) C dX2_closeWays_10 rfl) (z_get (pc := 11) C (CC := RX2) (TT := TX2) (N := 2) 0 hinX2 rfl (by decide) hf11 rfl dX2_closeWays_11)) (z_iload_n (pc := 14) C dX2_closeWays_14 rfl) (z_aald (pc := 15) C (t := 2) (ty := .array .int) rfl rfl dX2_closeWays_15)) (z_iload_n (pc := 16) C dX2_closeWays_16 rfl) (xE_cl (xA_s (fun _ => rfl) (xA_s (fun _ => rfl) (xA_n) (z_iconst (pc := 17) C dX2_closeWays_17)) (xE_ld (xE_ldR (t := 4) (xE_fR (z_aload_n (pc := 18) C dX2_closeWays_18 rfl) (z_get (pc := 19) C (CC := RX2) (TT := TX2) (N := 2) 0 hinX2 rfl (by decide) hf11 rfl dX2_closeWays_19)) (z_iload_n (pc := 22) C dX2_closeWays_22 rfl) (z_aald (pc := 23) C (t := 2) (ty := .array .int) rfl rfl dX2_closeWays_23)) (z_iload_n (pc := 24) C dX2_closeWays_24 rfl) (z_iald (pc := 25) C dX2_closeWays_25))) (z_cMin (pc := 26) C ⟨Nat.zero_le _, Nat.zero_le _⟩ hmmin0 hmmin1 hmmin2 hmmin3 ⟨Nat.le_of_ble_eq_true rfl, Nat.le_of_ble_eq_true rfl⟩ (by decide) dX2_closeWays_26)) (z_iast (pc := 29) C dX2_closeWays_29))
    (xS_inc (z_inc (pc := 30) C dX2_closeWays_30 (by decide) (by decide))) (z_goto (pc := 33) (tgt := 2) C dX2_closeWays_33 (by decide))))
    (xS_seq (xS_set (z_iconst (pc := 36) C dX2_closeWays_36) ((z_istore_n (pc := 37) C dX2_closeWays_37 rfl (by decide) (by decide)))) (xS_lp (xB_cmp (z_iload_n (pc := 38) C dX2_closeWays_38 rfl) (xE_f (z_aload_n (pc := 39) C dX2_closeWays_39 rfl) (z_get (pc := 40) C (CC := RX2) (TT := TX2) (N := 2) 1 hinX2 rfl (by decide) hf20 rfl dX2_closeWays_40)) (z_icmp_geN (pc := 43) (tgt := 126) C dX2_closeWays_43 (by decide)))
    (xS_seq (xS_set (z_iconst (pc := 46) C dX2_closeWays_46) ((z_istore_n (pc := 47) C dX2_closeWays_47 rfl (by decide) (by decide)))) (xS_lp (xB_cmp (z_iload_n (pc := 48) C dX2_closeWays_48 rfl) (xE_f (z_aload_n (pc := 49) C dX2_closeWays_49 rfl) (z_get (pc := 50) C (CC := RX2) (TT := TX2) (N := 2) 1 hinX2 rfl (by decide) hf20 rfl dX2_closeWays_50)) (z_icmp_geN (pc := 53) (tgt := 120) C dX2_closeWays_53 (by decide)))
    (xS_seq (xS_set (z_iconst (pc := 56) C dX2_closeWays_56) ((z_istore_n (pc := 57) C dX2_closeWays_57 rfl (by decide) (by decide)))) (xS_lp (xB_cmp (z_iload_n (pc := 58) C dX2_closeWays_58 rfl) (xE_f (z_aload_n (pc := 59) C dX2_closeWays_59 rfl) (z_get (pc := 60) C (CC := RX2) (TT := TX2) (N := 2) 1 hinX2 rfl (by decide) hf20 rfl dX2_closeWays_60)) (z_icmp_geN (pc := 63) (tgt := 114) C dX2_closeWays_63 (by decide)))
    (xS_seq (xS_set (xE_cl (xA_s (fun _ => rfl) (xA_s (fun _ => rfl) (xA_n) (xE_ld (xE_ldR (t := 4) (xE_fR (z_aload_n (pc := 66) C dX2_closeWays_66 rfl) (z_get (pc := 67) C (CC := RX2) (TT := TX2) (N := 2) 0 hinX2 rfl (by decide) hf11 rfl dX2_closeWays_67)) (z_iload_n (pc := 70) C dX2_closeWays_70 rfl) (z_aald (pc := 71) C (t := 2) (ty := .array .int) rfl rfl dX2_closeWays_71)) (z_iload_n (pc := 72) C dX2_closeWays_72 rfl) (z_iald (pc := 73) C dX2_closeWays_73))) (xE_ld (xE_ldR (t := 4) (xE_fR (z_aload_n (pc := 74) C dX2_closeWays_74 rfl) (z_get (pc := 75) C (CC := RX2) (TT := TX2) (N := 2) 0 hinX2 rfl (by decide) hf11 rfl dX2_closeWays_75)) (z_iload_n (pc := 78) C dX2_closeWays_78 rfl) (z_aald (pc := 79) C (t := 2) (ty := .array .int) rfl rfl dX2_closeWays_79)) (z_iload_n (pc := 80) C dX2_closeWays_80 rfl) (z_iald (pc := 81) C dX2_closeWays_81))) (z_cSN (pc := 82) C (fun _ _ => ⟨rfl, rfl⟩) ⟨Nat.zero_le _, Nat.zero_le _⟩ (t_X5_together l hfl) gX2_closeWays_X5_together_n46 rfl hy46 hiX5 hs46 q_X5_together ⟨by decide, by decide⟩ (by decide) dX2_closeWays_82)) ((z_istore (pc := 85) C dX2_closeWays_85 (by decide) (by decide))))
    (xS_ast (xE_ldR (t := 4) (xE_fR (z_aload_n (pc := 87) C dX2_closeWays_87 rfl) (z_get (pc := 88) C (CC := RX2) (TT := TX2) (N := 2) 0 hinX2 rfl (by decide) hf11 rfl dX2_closeWays_88)) (z_iload_n (pc := 91) C dX2_closeWays_91 rfl) (z_aald (pc := 92) C (t := 2) (ty := .array .int) rfl rfl dX2_closeWays_92)) (z_iload_n (pc := 93) C dX2_closeWays_93 rfl) (xE_cl (xA_s (fun _ => rfl) (xA_s (fun _ => rfl) (xA_n) (xE_ld (xE_ldR (t := 4) (xE_fR (z_aload_n (pc := 94) C dX2_closeWays_94 rfl) (z_get (pc := 95) C (CC := RX2) (TT := TX2) (N := 2) 0 hinX2 rfl (by decide) hf11 rfl dX2_closeWays_95)) (z_iload_n (pc := 98) C dX2_closeWays_98 rfl) (z_aald (pc := 99) C (t := 2) (ty := .array .int) rfl rfl dX2_closeWays_99)) (z_iload_n (pc := 100) C dX2_closeWays_100 rfl) (z_iald (pc := 101) C dX2_closeWays_101))) (z_iload (pc := 102) C dX2_closeWays_102)) (z_cMin (pc := 104) C ⟨Nat.zero_le _, Nat.zero_le _⟩ hmmin0 hmmin1 hmmin2 hmmin3 ⟨Nat.le_of_ble_eq_true rfl, Nat.le_of_ble_eq_true rfl⟩ (by decide) dX2_closeWays_104)) (z_iast (pc := 107) C dX2_closeWays_107)))
    (xS_inc (z_inc (pc := 108) C dX2_closeWays_108 (by decide) (by decide))) (z_goto (pc := 111) (tgt := 58) C dX2_closeWays_111 (by decide))))
    (xS_inc (z_inc (pc := 114) C dX2_closeWays_114 (by decide) (by decide))) (z_goto (pc := 117) (tgt := 48) C dX2_closeWays_117 (by decide))))
    (xS_inc (z_inc (pc := 120) C dX2_closeWays_120 (by decide) (by decide))) (z_goto (pc := 123) (tgt := 38) C dX2_closeWays_123 (by decide)))))
    (xS_retV (z_retV (pc := 126) C ⟨Nat.zero_le _, Nat.zero_le _⟩ dX2_closeWays_126))
theorem q_X2_comesBackBelowZero : yX2_comesBackBelowZero.cls = RX2 ∧ yX2_comesBackBelowZero.cls ≠ "java/lang/invoke/MethodHandle" ∧ yX2_comesBackBelowZero.cls ≠ "java/lang/invoke/VarHandle" ∧ (parseMethodDescriptor yX2_comesBackBelowZero.desc).map (fun d => d.parameters.length) = some 0 := by decide +kernel
set_option maxRecDepth 20000 in
set_option maxHeartbeats 4000000 in
theorem t_X2_comesBackBelowZero (l : Launch) (hfl : l.stackTraces = false) : z_CT l yX2_comesBackBelowZero wsX2_comesBackBelowZero 1 1 12 0 0 false m_X2_comesBackBelowZero := by
  refine z_CT.vm (z_CT.of hfl (jL := 99) (cc := cX2_comesBackBelowZero) (nL := 2) (rt := (some .boolean)) (by decide +kernel) rfl (by decide) 0 0 ?_)
  intro p e s m args below meth c base D dT o hf C0
  have C : z_Cx p l s m args meth c base cX2_comesBackBelowZero 2 RX2 wsX2_comesBackBelowZero (some .boolean) [] := C0
  have hinX2 : ∀ w ∈ u_ws RX2 TX2 2, w ∈ wsX2_comesBackBelowZero := by decide +kernel
  have hf20 : Cond.fieldLink RX2 20 "Amoebary$Matrix" "rows" "I" ∈ wsX2_comesBackBelowZero := by decide +kernel
  have hf11 : Cond.fieldLink RX2 11 "Amoebary$Matrix" "entries" "[[I" ∈ wsX2_comesBackBelowZero := by decide +kernel
  exact xS_seq (xS_seq (xS_set (z_iconst (pc := 0) C dX2_comesBackBelowZero_0) ((z_istore_n (pc := 1) C dX2_comesBackBelowZero_1 rfl (by decide) (by decide)))) (xS_lp (xB_cmp (z_iload_n (pc := 2) C dX2_comesBackBelowZero_2 rfl) (xE_f (z_aload_n (pc := 3) C dX2_comesBackBelowZero_3 rfl) (z_get (pc := 4) C (CC := RX2) (TT := TX2) (N := 2) 1 hinX2 rfl (by decide) hf20 rfl dX2_comesBackBelowZero_4)) (z_icmp_geN (pc := 7) (tgt := 29) C dX2_comesBackBelowZero_7 (by decide)))
    (xS_if (xB_cmp0 (xE_ld (xE_ldR (t := 4) (xE_fR (z_aload_n (pc := 10) C dX2_comesBackBelowZero_10 rfl) (z_get (pc := 11) C (CC := RX2) (TT := TX2) (N := 2) 0 hinX2 rfl (by decide) hf11 rfl dX2_comesBackBelowZero_11)) (z_iload_n (pc := 14) C dX2_comesBackBelowZero_14 rfl) (z_aald (pc := 15) C (t := 2) (ty := .array .int) rfl rfl dX2_comesBackBelowZero_15)) (z_iload_n (pc := 16) C dX2_comesBackBelowZero_16 rfl) (z_iald (pc := 17) C dX2_comesBackBelowZero_17)) (z_if_geN (pc := 18) (tgt := 23) C dX2_comesBackBelowZero_18 (by decide))) (xS_ret (z_bconst (b := true) (pc := 21) C rfl dX2_comesBackBelowZero_21) (z_retB (pc := 22) C ⟨Nat.zero_le _, Nat.zero_le _⟩ dX2_comesBackBelowZero_22)) jG_id xS_nop)
    (xS_inc (z_inc (pc := 23) C dX2_comesBackBelowZero_23 (by decide) (by decide))) (z_goto (pc := 26) (tgt := 2) C dX2_comesBackBelowZero_26 (by decide))))
    (xS_ret (z_bconst (b := false) (pc := 29) C rfl dX2_comesBackBelowZero_29) (z_retB (pc := 30) C ⟨Nat.zero_le _, Nat.zero_le _⟩ dX2_comesBackBelowZero_30))
theorem q_X2_putSolution : yX2_putSolution.cls = RX2 ∧ yX2_putSolution.cls ≠ "java/lang/invoke/MethodHandle" ∧ yX2_putSolution.cls ≠ "java/lang/invoke/VarHandle" ∧ (parseMethodDescriptor yX2_putSolution.desc).map (fun d => d.parameters.length) = some 2 := by decide +kernel
set_option maxRecDepth 20000 in
set_option maxHeartbeats 4000000 in
theorem t_X2_putSolution (l : Launch) (hfl : l.stackTraces = false) : z_CT l yX2_putSolution wsX2_putSolution 3 1 21 0 0 false m_X2_putSolution := by
  refine z_CT.vm (z_CT.of hfl (jL := 99) (cc := cX2_putSolution) (nL := 7) (rt := none) (by decide +kernel) rfl (by decide) 0 0 ?_)
  intro p e s m args below meth c base D dT o hf C0
  have C : z_Cx p l s m args meth c base cX2_putSolution 7 RX2 wsX2_putSolution none [] := C0
  have hinX2 : ∀ w ∈ u_ws RX2 TX2 2, w ∈ wsX2_putSolution := by decide +kernel
  have hf20 : Cond.fieldLink RX2 20 "Amoebary$Matrix" "rows" "I" ∈ wsX2_putSolution := by decide +kernel
  have hc24 : Cond.constant RX2 24 (Int32.ofInt 1000000) ∈ wsX2_putSolution := by decide +kernel
  have hf11 : Cond.fieldLink RX2 11 "Amoebary$Matrix" "entries" "[[I" ∈ wsX2_putSolution := by decide +kernel
  have hmmax0 : Cond.methodLink RX2 55 Lib.Math.max.name ∈ wsX2_putSolution := by decide +kernel
  have hmmax1 : Cond.static Lib.Math.max.name ∈ wsX2_putSolution := by decide +kernel
  have hmmax2 : Cond.initialized "java/lang/Math" ∈ wsX2_putSolution := by decide +kernel
  have hmmax3 : Cond.code Lib.Math.max.name Lib.Math.max.code 2 (some .int) ∈ wsX2_putSolution := by decide +kernel
  exact xS_seq (xS_seq (xS_set (z_iconst (pc := 0) C dX2_putSolution_0) ((z_istore_n (pc := 1) C dX2_putSolution_1 rfl (by decide) (by decide)))) (xS_lp (xB_cmp (z_iload_n (pc := 2) C dX2_putSolution_2 rfl) (xE_f (z_aload_n (pc := 3) C dX2_putSolution_3 rfl) (z_get (pc := 4) C (CC := RX2) (TT := TX2) (N := 2) 1 hinX2 rfl (by decide) hf20 rfl dX2_putSolution_4)) (z_icmp_geN (pc := 7) (tgt := 94) C dX2_putSolution_7 (by decide)))
    (xS_seq (xS_set (z_ldc (x := 1000000) (pc := 10) C hc24 dX2_putSolution_10) ((z_istore (pc := 12) C dX2_putSolution_12 (by decide) (by decide))))
    (xS_seq (xS_seq (xS_set (z_iconst (pc := 14) C dX2_putSolution_14) ((z_istore (pc := 15) C dX2_putSolution_15 (by decide) (by decide)))) (xS_lp (xB_cmp (z_iload (pc := 17) C dX2_putSolution_17) (xE_f (z_aload_n (pc := 19) C dX2_putSolution_19 rfl) (z_get (pc := 20) C (CC := RX2) (TT := TX2) (N := 2) 1 hinX2 rfl (by decide) hf20 rfl dX2_putSolution_20)) (z_icmp_geN (pc := 23) (tgt := 83) C dX2_putSolution_23 (by decide)))
    (xS_if (xB_cmp (xE_ld (xE_ldR (t := 4) (xE_fR (z_aload_n (pc := 26) C dX2_putSolution_26 rfl) (z_get (pc := 27) C (CC := RX2) (TT := TX2) (N := 2) 0 hinX2 rfl (by decide) hf11 rfl dX2_putSolution_27)) (z_iload (pc := 30) C dX2_putSolution_30) (z_aald (pc := 32) C (t := 2) (ty := .array .int) rfl rfl dX2_putSolution_32)) (z_iload_n (pc := 33) C dX2_putSolution_33 rfl) (z_iald (pc := 34) C dX2_putSolution_34)) (z_ldc (x := 1000000) (pc := 35) C hc24 dX2_putSolution_35) (z_icmp_eqN (pc := 37) (tgt := 77) C dX2_putSolution_37 (by decide))) (xS_seq (xS_set (xE_e2 (n := 1) (xE_ld (z_aload_n (pc := 40) C dX2_putSolution_40 rfl) (z_iload (pc := 41) C dX2_putSolution_41) (z_iald (pc := 43) C dX2_putSolution_43)) (fun _ => Nat.le_refl 1) (xE_ld (xE_ldR (t := 4) (xE_fR (z_aload_n (pc := 44) C dX2_putSolution_44 rfl) (z_get (pc := 45) C (CC := RX2) (TT := TX2) (N := 2) 0 hinX2 rfl (by decide) hf11 rfl dX2_putSolution_45)) (z_iload (pc := 48) C dX2_putSolution_48) (z_aald (pc := 50) C (t := 2) (ty := .array .int) rfl rfl dX2_putSolution_50)) (z_iload_n (pc := 51) C dX2_putSolution_51 rfl) (z_iald (pc := 52) C dX2_putSolution_52)) (z_isub (pc := 53) C dX2_putSolution_53)) ((z_istore (pc := 54) C dX2_putSolution_54 (by decide) (by decide))))
    (xS_set (xE_if (xB_cmp (z_iload (pc := 56) C dX2_putSolution_56) (z_ldc (x := 1000000) (pc := 58) C hc24 dX2_putSolution_58) (z_icmp_neN (pc := 60) (tgt := 68) C dX2_putSolution_60 (by decide))) (z_iload (pc := 63) C dX2_putSolution_63) (z_goto (pc := 65) (tgt := 75) C dX2_putSolution_65 (by decide)) (xE_cl (xA_s (fun _ => rfl) (xA_s (fun _ => rfl) (xA_n) (z_iload (pc := 68) C dX2_putSolution_68)) (z_iload (pc := 70) C dX2_putSolution_70)) (z_cMax (pc := 72) C ⟨Nat.zero_le _, Nat.zero_le _⟩ hmmax0 hmmax1 hmmax2 hmmax3 ⟨Nat.le_of_ble_eq_true rfl, Nat.le_of_ble_eq_true rfl⟩ (by decide) dX2_putSolution_72))) ((z_istore (pc := 75) C dX2_putSolution_75 (by decide) (by decide))))) jG_id xS_nop)
    (xS_inc (z_inc (pc := 77) C dX2_putSolution_77 (by decide) (by decide))) (z_goto (pc := 80) (tgt := 17) C dX2_putSolution_80 (by decide))))
    (xS_ast (z_aload_n (pc := 83) C dX2_putSolution_83 rfl) (z_iload_n (pc := 84) C dX2_putSolution_84 rfl) (z_iload (pc := 85) C dX2_putSolution_85) (z_iast (pc := 87) C dX2_putSolution_87))))
    (xS_inc (z_inc (pc := 88) C dX2_putSolution_88 (by decide) (by decide))) (z_goto (pc := 91) (tgt := 2) C dX2_putSolution_91 (by decide))))
    (xS_retV (z_retV (pc := 94) C ⟨Nat.zero_le _, Nat.zero_le _⟩ dX2_putSolution_94))
theorem q_X2_leadsTo : yX2_leadsTo.cls = RX2 ∧ yX2_leadsTo.cls ≠ "java/lang/invoke/MethodHandle" ∧ yX2_leadsTo.cls ≠ "java/lang/invoke/VarHandle" ∧ (parseMethodDescriptor yX2_leadsTo.desc).map (fun d => d.parameters.length) = some 2 := by decide +kernel
set_option maxRecDepth 20000 in
set_option maxHeartbeats 4000000 in
theorem t_X2_leadsTo (l : Launch) (hfl : l.stackTraces = false) : z_CT l yX2_leadsTo wsX2_leadsTo 3 2 33 0 0 false m_X2_leadsTo := by
  refine z_CT.vm (z_CT.of hfl (jL := 99) (cc := cX2_leadsTo) (nL := 6) (rt := (some .boolean)) (by decide +kernel) rfl (by decide) 0 0 ?_)
  intro p e s m args below meth c base D dT o hf C0
  have C : z_Cx p l s m args meth c base cX2_leadsTo 6 RX2 wsX2_leadsTo (some .boolean) [] := C0
  have hinX2 : ∀ w ∈ u_ws RX2 TX2 2, w ∈ wsX2_leadsTo := by decide +kernel
  have hf20 : Cond.fieldLink RX2 20 "Amoebary$Matrix" "rows" "I" ∈ wsX2_leadsTo := by decide +kernel
  have hc24 : Cond.constant RX2 24 (Int32.ofInt 1000000) ∈ wsX2_leadsTo := by decide +kernel
  have hf11 : Cond.fieldLink RX2 11 "Amoebary$Matrix" "entries" "[[I" ∈ wsX2_leadsTo := by decide +kernel
  have hy46 : Cond.methodLinkNest RX2 46 yX5_together "Amoebary" ∈ z_xw := by decide +kernel
  have hiX5 : Cond.initialized yX5_together.cls ∈ wsX2_leadsTo := by decide +kernel
  have hs46 : Cond.static yX5_together ∈ wsX2_leadsTo := by decide +kernel
  have hmmin0 : Cond.methodLink RX2 50 Lib.Math.min.name ∈ wsX2_leadsTo := by decide +kernel
  have hmmin1 : Cond.static Lib.Math.min.name ∈ wsX2_leadsTo := by decide +kernel
  have hmmin2 : Cond.initialized "java/lang/Math" ∈ wsX2_leadsTo := by decide +kernel
  have hmmin3 : Cond.code Lib.Math.min.name Lib.Math.min.code 2 (some .int) ∈ wsX2_leadsTo := by decide +kernel
  exact xS_seq (xS_seq (xS_set (z_iconst (pc := 0) C dX2_leadsTo_0) ((z_istore_n (pc := 1) C dX2_leadsTo_1 rfl (by decide) (by decide)))) (xS_lp (xB_cmp (z_iload_n (pc := 2) C dX2_leadsTo_2 rfl) (xE_f (z_aload_n (pc := 3) C dX2_leadsTo_3 rfl) (z_get (pc := 4) C (CC := RX2) (TT := TX2) (N := 2) 1 hinX2 rfl (by decide) hf20 rfl dX2_leadsTo_4)) (z_icmp_geN (pc := 7) (tgt := 71) C dX2_leadsTo_7 (by decide)))
    (xS_seq (xS_set (z_ldc (x := 1000000) (pc := 10) C hc24 dX2_leadsTo_10) ((z_istore (pc := 12) C dX2_leadsTo_12 (by decide) (by decide))))
    (xS_seq (xS_seq (xS_set (z_iconst (pc := 14) C dX2_leadsTo_14) ((z_istore (pc := 15) C dX2_leadsTo_15 (by decide) (by decide)))) (xS_lp (xB_cmp (z_iload (pc := 17) C dX2_leadsTo_17) (xE_f (z_aload_n (pc := 19) C dX2_leadsTo_19 rfl) (z_get (pc := 20) C (CC := RX2) (TT := TX2) (N := 2) 1 hinX2 rfl (by decide) hf20 rfl dX2_leadsTo_20)) (z_icmp_geN (pc := 23) (tgt := 55) C dX2_leadsTo_23 (by decide)))
    (xS_set (xE_cl (xA_s (fun _ => rfl) (xA_s (fun _ => rfl) (xA_n) (z_iload (pc := 26) C dX2_leadsTo_26)) (xE_cl (xA_s (fun _ => rfl) (xA_s (fun _ => rfl) (xA_n) (xE_ld (xE_ldR (t := 4) (xE_fR (z_aload_n (pc := 28) C dX2_leadsTo_28 rfl) (z_get (pc := 29) C (CC := RX2) (TT := TX2) (N := 2) 0 hinX2 rfl (by decide) hf11 rfl dX2_leadsTo_29)) (z_iload_n (pc := 32) C dX2_leadsTo_32 rfl) (z_aald (pc := 33) C (t := 2) (ty := .array .int) rfl rfl dX2_leadsTo_33)) (z_iload (pc := 34) C dX2_leadsTo_34) (z_iald (pc := 36) C dX2_leadsTo_36))) (xE_ld (z_aload_n (pc := 37) C dX2_leadsTo_37 rfl) (z_iload (pc := 38) C dX2_leadsTo_38) (z_iald (pc := 40) C dX2_leadsTo_40))) (z_cSN (pc := 41) C (fun _ _ => ⟨rfl, rfl⟩) ⟨Nat.zero_le _, Nat.zero_le _⟩ (t_X5_together l hfl) gX2_leadsTo_X5_together_n46 rfl hy46 hiX5 hs46 q_X5_together ⟨by decide, by decide⟩ (by decide) dX2_leadsTo_41))) (z_cMin (pc := 44) C ⟨Nat.zero_le _, Nat.zero_le _⟩ hmmin0 hmmin1 hmmin2 hmmin3 ⟨Nat.le_of_ble_eq_true rfl, Nat.le_of_ble_eq_true rfl⟩ (by decide) dX2_leadsTo_44)) ((z_istore (pc := 47) C dX2_leadsTo_47 (by decide) (by decide))))
    (xS_inc (z_inc (pc := 49) C dX2_leadsTo_49 (by decide) (by decide))) (z_goto (pc := 52) (tgt := 17) C dX2_leadsTo_52 (by decide))))
    (xS_if (xB_cmp (z_iload (pc := 55) C dX2_leadsTo_55) (xE_ld (z_aload_n (pc := 57) C dX2_leadsTo_57 rfl) (z_iload_n (pc := 58) C dX2_leadsTo_58 rfl) (z_iald (pc := 59) C dX2_leadsTo_59)) (z_icmp_eqN (pc := 60) (tgt := 65) C dX2_leadsTo_60 (by decide))) (xS_ret (z_bconst (b := false) (pc := 63) C rfl dX2_leadsTo_63) (z_retB (pc := 64) C ⟨Nat.zero_le _, Nat.zero_le _⟩ dX2_leadsTo_64)) jG_id xS_nop)))
    (xS_inc (z_inc (pc := 65) C dX2_leadsTo_65 (by decide) (by decide))) (z_goto (pc := 68) (tgt := 2) C dX2_leadsTo_68 (by decide))))
    (xS_ret (z_bconst (b := true) (pc := 71) C rfl dX2_leadsTo_71) (z_retB (pc := 72) C ⟨Nat.zero_le _, Nat.zero_le _⟩ dX2_leadsTo_72))
theorem q_X2_shiftOf : yX2_shiftOf.cls = RX2 ∧ yX2_shiftOf.cls ≠ "java/lang/invoke/MethodHandle" ∧ yX2_shiftOf.cls ≠ "java/lang/invoke/VarHandle" ∧ (parseMethodDescriptor yX2_shiftOf.desc).map (fun d => d.parameters.length) = some 2 := by decide +kernel
set_option maxRecDepth 20000 in
set_option maxHeartbeats 4000000 in
theorem t_X2_shiftOf (l : Launch) (hfl : l.stackTraces = false) : z_CT l yX2_shiftOf wsX2_shiftOf 3 1 21 0 0 false m_X2_shiftOf := by
  refine z_CT.vm (z_CT.of hfl (jL := 99) (cc := cX2_shiftOf) (nL := 5) (rt := (some .int)) (by decide +kernel) rfl (by decide) 0 0 ?_)
  intro p e s m args below meth c base D dT o hf C0
  have C : z_Cx p l s m args meth c base cX2_shiftOf 5 RX2 wsX2_shiftOf (some .int) [] := C0
  have hinX2 : ∀ w ∈ u_ws RX2 TX2 2, w ∈ wsX2_shiftOf := by decide +kernel
  have hf11 : Cond.fieldLink RX2 11 "Amoebary$Matrix" "entries" "[[I" ∈ wsX2_shiftOf := by decide +kernel
  have hf20 : Cond.fieldLink RX2 20 "Amoebary$Matrix" "rows" "I" ∈ wsX2_shiftOf := by decide +kernel
  have hmmax0 : Cond.methodLink RX2 55 Lib.Math.max.name ∈ wsX2_shiftOf := by decide +kernel
  have hmmax1 : Cond.static Lib.Math.max.name ∈ wsX2_shiftOf := by decide +kernel
  have hmmax2 : Cond.initialized "java/lang/Math" ∈ wsX2_shiftOf := by decide +kernel
  have hmmax3 : Cond.code Lib.Math.max.name Lib.Math.max.code 2 (some .int) ∈ wsX2_shiftOf := by decide +kernel
  exact xS_seq (xS_set (xE_e2 (n := 1) (xE_ld (z_aload_n (pc := 0) C dX2_shiftOf_0 rfl) (z_iconst (pc := 1) C dX2_shiftOf_1) (z_iald (pc := 2) C dX2_shiftOf_2)) (fun _ => Nat.le_refl 1) (xE_ld (xE_ldR (t := 4) (xE_fR (z_aload_n (pc := 3) C dX2_shiftOf_3 rfl) (z_get (pc := 4) C (CC := RX2) (TT := TX2) (N := 2) 0 hinX2 rfl (by decide) hf11 rfl dX2_shiftOf_4)) (z_iload_n (pc := 7) C dX2_shiftOf_7 rfl) (z_aald (pc := 8) C (t := 2) (ty := .array .int) rfl rfl dX2_shiftOf_8)) (z_iconst (pc := 9) C dX2_shiftOf_9) (z_iald (pc := 10) C dX2_shiftOf_10)) (z_isub (pc := 11) C dX2_shiftOf_11)) ((z_istore_n (pc := 12) C dX2_shiftOf_12 rfl (by decide) (by decide))))
    (xS_seq (xS_seq (xS_set (z_iconst (pc := 13) C dX2_shiftOf_13) ((z_istore (pc := 14) C dX2_shiftOf_14 (by decide) (by decide)))) (xS_lp (xB_cmp (z_iload (pc := 16) C dX2_shiftOf_16) (xE_f (z_aload_n (pc := 18) C dX2_shiftOf_18 rfl) (z_get (pc := 19) C (CC := RX2) (TT := TX2) (N := 2) 1 hinX2 rfl (by decide) hf20 rfl dX2_shiftOf_19)) (z_icmp_geN (pc := 22) (tgt := 50) C dX2_shiftOf_22 (by decide)))
    (xS_set (xE_cl (xA_s (fun _ => rfl) (xA_s (fun _ => rfl) (xA_n) (z_iload_n (pc := 25) C dX2_shiftOf_25 rfl)) (xE_e2 (n := 1) (xE_ld (z_aload_n (pc := 26) C dX2_shiftOf_26 rfl) (z_iload (pc := 27) C dX2_shiftOf_27) (z_iald (pc := 29) C dX2_shiftOf_29)) (fun _ => Nat.le_refl 1) (xE_ld (xE_ldR (t := 4) (xE_fR (z_aload_n (pc := 30) C dX2_shiftOf_30 rfl) (z_get (pc := 31) C (CC := RX2) (TT := TX2) (N := 2) 0 hinX2 rfl (by decide) hf11 rfl dX2_shiftOf_31)) (z_iload_n (pc := 34) C dX2_shiftOf_34 rfl) (z_aald (pc := 35) C (t := 2) (ty := .array .int) rfl rfl dX2_shiftOf_35)) (z_iload (pc := 36) C dX2_shiftOf_36) (z_iald (pc := 38) C dX2_shiftOf_38)) (z_isub (pc := 39) C dX2_shiftOf_39))) (z_cMax (pc := 40) C ⟨Nat.zero_le _, Nat.zero_le _⟩ hmmax0 hmmax1 hmmax2 hmmax3 ⟨Nat.le_of_ble_eq_true rfl, Nat.le_of_ble_eq_true rfl⟩ (by decide) dX2_shiftOf_40)) ((z_istore_n (pc := 43) C dX2_shiftOf_43 rfl (by decide) (by decide))))
    (xS_inc (z_inc (pc := 44) C dX2_shiftOf_44 (by decide) (by decide))) (z_goto (pc := 47) (tgt := 16) C dX2_shiftOf_47 (by decide))))
    (xS_ret (z_iload_n (pc := 50) C dX2_shiftOf_50 rfl) (z_retI (pc := 51) C ⟨Nat.zero_le _, Nat.zero_le _⟩ dX2_shiftOf_51)))
theorem q_X2_putProjection : yX2_putProjection.cls = RX2 ∧ yX2_putProjection.cls ≠ "java/lang/invoke/MethodHandle" ∧ yX2_putProjection.cls ≠ "java/lang/invoke/VarHandle" ∧ (parseMethodDescriptor yX2_putProjection.desc).map (fun d => d.parameters.length) = some 2 := by decide +kernel
set_option maxRecDepth 20000 in
set_option maxHeartbeats 4000000 in
theorem t_X2_putProjection (l : Launch) (hfl : l.stackTraces = false) : z_CT l yX2_putProjection wsX2_putProjection 3 2 45 0 0 false m_X2_putProjection := by
  refine z_CT.vm (z_CT.of hfl (jL := 99) (cc := cX2_putProjection) (nL := 7) (rt := none) (by decide +kernel) rfl (by decide) 0 0 ?_)
  intro p e s m args below meth c base D dT o hf C0
  have C : z_Cx p l s m args meth c base cX2_putProjection 7 RX2 wsX2_putProjection none [] := C0
  have hinX2 : ∀ w ∈ u_ws RX2 TX2 2, w ∈ wsX2_putProjection := by decide +kernel
  have hf20 : Cond.fieldLink RX2 20 "Amoebary$Matrix" "rows" "I" ∈ wsX2_putProjection := by decide +kernel
  have hf11 : Cond.fieldLink RX2 11 "Amoebary$Matrix" "entries" "[[I" ∈ wsX2_putProjection := by decide +kernel
  have hmmin0 : Cond.methodLink RX2 50 Lib.Math.min.name ∈ wsX2_putProjection := by decide +kernel
  have hmmin1 : Cond.static Lib.Math.min.name ∈ wsX2_putProjection := by decide +kernel
  have hmmin2 : Cond.initialized "java/lang/Math" ∈ wsX2_putProjection := by decide +kernel
  have hmmin3 : Cond.code Lib.Math.min.name Lib.Math.min.code 2 (some .int) ∈ wsX2_putProjection := by decide +kernel
  exact xS_seq (xS_seq (xS_set (z_iconst (pc := 0) C dX2_putProjection_0) ((z_istore_n (pc := 1) C dX2_putProjection_1 rfl (by decide) (by decide)))) (xS_lp (xB_cmp (z_iload_n (pc := 2) C dX2_putProjection_2 rfl) (xE_f (z_aload_n (pc := 3) C dX2_putProjection_3 rfl) (z_get (pc := 4) C (CC := RX2) (TT := TX2) (N := 2) 1 hinX2 rfl (by decide) hf20 rfl dX2_putProjection_4)) (z_icmp_geN (pc := 7) (tgt := 78) C dX2_putProjection_7 (by decide)))
    (xS_seq (xS_set (xE_cl (xA_s (fun _ => rfl) (xA_s (fun _ => rfl) (xA_s (fun _ => rfl) (xA_n) (z_aload_n (pc := 10) C dX2_putProjection_10 rfl)) (z_iload_n (pc := 11) C dX2_putProjection_11 rfl)) (z_aload_n (pc := 12) C dX2_putProjection_12 rfl)) (z_cV (pc := 13) C (fun _ _ => ⟨rfl, rfl⟩) ⟨Nat.zero_le _, Nat.zero_le _⟩ (t_X2_shiftOf l hfl) (ci := 2) (CC := RX2) rfl gX2_putProjection_X2_shiftOf rfl q_X2_shiftOf ⟨by decide, by decide⟩ (by decide) dX2_putProjection_13)) ((z_istore (pc := 16) C dX2_putProjection_16 (by decide) (by decide))))
    (xS_seq (xS_set (z_iconst (pc := 18) C dX2_putProjection_18) ((z_istore (pc := 19) C dX2_putProjection_19 (by decide) (by decide)))) (xS_lp (xB_cmp (z_iload (pc := 21) C dX2_putProjection_21) (xE_f (z_aload_n (pc := 23) C dX2_putProjection_23 rfl) (z_get (pc := 24) C (CC := RX2) (TT := TX2) (N := 2) 1 hinX2 rfl (by decide) hf20 rfl dX2_putProjection_24)) (z_icmp_geN (pc := 27) (tgt := 72) C dX2_putProjection_27 (by decide)))
    (xS_seq (xS_set (xE_e2 (n := 1) (z_iload (pc := 30) C dX2_putProjection_30) (fun _ => Nat.le_refl 1) (xE_ld (xE_ldR (t := 4) (xE_fR (z_aload_n (pc := 32) C dX2_putProjection_32 rfl) (z_get (pc := 33) C (CC := RX2) (TT := TX2) (N := 2) 0 hinX2 rfl (by decide) hf11 rfl dX2_putProjection_33)) (z_iload_n (pc := 36) C dX2_putProjection_36 rfl) (z_aald (pc := 37) C (t := 2) (ty := .array .int) rfl rfl dX2_putProjection_37)) (z_iload (pc := 38) C dX2_putProjection_38) (z_iald (pc := 40) C dX2_putProjection_40)) (z_iadd (pc := 41) C dX2_putProjection_41)) ((z_istore (pc := 42) C dX2_putProjection_42 (by decide) (by decide))))
    (xS_ast (z_aload_n (pc := 44) C dX2_putProjection_44 rfl) (z_iload (pc := 45) C dX2_putProjection_45) (xE_if (xB_cmp0 (z_iload_n (pc := 47) C dX2_putProjection_47 rfl) (z_if_neN (pc := 48) (tgt := 56) C dX2_putProjection_48 (by decide))) (z_iload (pc := 51) C dX2_putProjection_51) (z_goto (pc := 53) (tgt := 65) C dX2_putProjection_53 (by decide)) (xE_cl (xA_s (fun _ => rfl) (xA_s (fun _ => rfl) (xA_n) (xE_ld (z_aload_n (pc := 56) C dX2_putProjection_56 rfl) (z_iload (pc := 57) C dX2_putProjection_57) (z_iald (pc := 59) C dX2_putProjection_59))) (z_iload (pc := 60) C dX2_putProjection_60)) (z_cMin (pc := 62) C ⟨Nat.zero_le _, Nat.zero_le _⟩ hmmin0 hmmin1 hmmin2 hmmin3 ⟨Nat.le_of_ble_eq_true rfl, Nat.le_of_ble_eq_true rfl⟩ (by decide) dX2_putProjection_62))) (z_iast (pc := 65) C dX2_putProjection_65)))
    (xS_inc (z_inc (pc := 66) C dX2_putProjection_66 (by decide) (by decide))) (z_goto (pc := 69) (tgt := 21) C dX2_putProjection_69 (by decide)))))
    (xS_inc (z_inc (pc := 72) C dX2_putProjection_72 (by decide) (by decide))) (z_goto (pc := 75) (tgt := 2) C dX2_putProjection_75 (by decide))))
    (xS_retV (z_retV (pc := 78) C ⟨Nat.zero_le _, Nat.zero_le _⟩ dX2_putProjection_78))
