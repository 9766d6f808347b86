/-! printed by wip/p32/gen: that the bytecode does what the functions say -/
theorem q_J6_bitCount_0f7a4 : yJ6_bitCount_0f7a4.cls ≠ "java/lang/invoke/MethodHandle" ∧ yJ6_bitCount_0f7a4.cls ≠ "java/lang/invoke/VarHandle" ∧ (parseMethodDescriptor yJ6_bitCount_0f7a4.desc).map (fun d => d.parameters.length) = some 1 := by decide +kernel
set_option maxRecDepth 20000 in
set_option maxHeartbeats 4000000 in
theorem t_J6_bitCount_0f7a4 (l : Launch) (hfl : l.stackTraces = false) : z_CT l yJ6_bitCount_0f7a4 wsJ6_bitCount_0f7a4 1 1 12 0 0 false m_J6_bitCount_0f7a4 := by
  refine (z_CT.of hfl (jL := 99) (cc := cJ6_bitCount_0f7a4) (nL := 1) (rt := (some .int)) (by decide +kernel) rfl (by decide) 0 0 ?_)
  intro p e s m args below meth c base D dT o hf C0
  have C : z_Cx p l s m args meth c base cJ6_bitCount_0f7a4 1 RJ6 wsJ6_bitCount_0f7a4 (some .int) [] := C0
  have hc265 : Cond.constant RJ6 265 (Int32.ofInt 1431655765) ∈ wsJ6_bitCount_0f7a4 := by decide +kernel
  have hc266 : Cond.constant RJ6 266 (Int32.ofInt 858993459) ∈ wsJ6_bitCount_0f7a4 := by decide +kernel
  have hc267 : Cond.constant RJ6 267 (Int32.ofInt 252645135) ∈ wsJ6_bitCount_0f7a4 := by decide +kernel
  exact xS_seq (xS_set (xE_e2 (n := 1) (z_iload_n (pc := 0) C dJ6_bitCount_0f7a4_0 rfl) (fun _ => Nat.le_refl 1) (xE_e2 (n := 1) (xE_e2 (n := 1) (z_iload_n (pc := 1) C dJ6_bitCount_0f7a4_1 rfl) (fun _ => Nat.le_refl 1) (z_iconst (pc := 2) C dJ6_bitCount_0f7a4_2) (z_iushr (pc := 3) C dJ6_bitCount_0f7a4_3)) (fun _ => Nat.le_refl 1) (z_ldcw (x := 1431655765) (pc := 4) C hc265 dJ6_bitCount_0f7a4_4) (z_iand (pc := 7) C dJ6_bitCount_0f7a4_7)) (z_isub (pc := 8) C dJ6_bitCount_0f7a4_8)) ((z_istore_n (pc := 9) C dJ6_bitCount_0f7a4_9 rfl (by decide) (by decide))))
    (xS_seq (xS_set (xE_e2 (n := 1) (xE_e2 (n := 1) (z_iload_n (pc := 10) C dJ6_bitCount_0f7a4_10 rfl) (fun _ => Nat.le_refl 1) (z_ldcw (x := 858993459) (pc := 11) C hc266 dJ6_bitCount_0f7a4_11) (z_iand (pc := 14) C dJ6_bitCount_0f7a4_14)) (fun _ => Nat.le_refl 1) (xE_e2 (n := 1) (xE_e2 (n := 1) (z_iload_n (pc := 15) C dJ6_bitCount_0f7a4_15 rfl) (fun _ => Nat.le_refl 1) (z_iconst (pc := 16) C dJ6_bitCount_0f7a4_16) (z_iushr (pc := 17) C dJ6_bitCount_0f7a4_17)) (fun _ => Nat.le_refl 1) (z_ldcw (x := 858993459) (pc := 18) C hc266 dJ6_bitCount_0f7a4_18) (z_iand (pc := 21) C dJ6_bitCount_0f7a4_21)) (z_iadd (pc := 22) C dJ6_bitCount_0f7a4_22)) ((z_istore_n (pc := 23) C dJ6_bitCount_0f7a4_23 rfl (by decide) (by decide))))
    (xS_seq (xS_set (xE_e2 (n := 1) (xE_e2 (n := 1) (z_iload_n (pc := 24) C dJ6_bitCount_0f7a4_24 rfl) (fun _ => Nat.le_refl 1) (xE_e2 (n := 1) (z_iload_n (pc := 25) C dJ6_bitCount_0f7a4_25 rfl) (fun _ => Nat.le_refl 1) (z_iconst (pc := 26) C dJ6_bitCount_0f7a4_26) (z_iushr (pc := 27) C dJ6_bitCount_0f7a4_27)) (z_iadd (pc := 28) C dJ6_bitCount_0f7a4_28)) (fun _ => Nat.le_refl 1) (z_ldcw (x := 252645135) (pc := 29) C hc267 dJ6_bitCount_0f7a4_29) (z_iand (pc := 32) C dJ6_bitCount_0f7a4_32)) ((z_istore_n (pc := 33) C dJ6_bitCount_0f7a4_33 rfl (by decide) (by decide))))
    (xS_seq (xS_set (xE_e2 (n := 1) (z_iload_n (pc := 34) C dJ6_bitCount_0f7a4_34 rfl) (fun _ => Nat.le_refl 1) (xE_e2 (n := 1) (z_iload_n (pc := 35) C dJ6_bitCount_0f7a4_35 rfl) (fun _ => Nat.le_refl 1) (z_bipush (pc := 36) C dJ6_bitCount_0f7a4_36 (by decide +kernel)) (z_iushr (pc := 38) C dJ6_bitCount_0f7a4_38)) (z_iadd (pc := 39) C dJ6_bitCount_0f7a4_39)) ((z_istore_n (pc := 40) C dJ6_bitCount_0f7a4_40 rfl (by decide) (by decide))))
    (xS_seq (xS_set (xE_e2 (n := 1) (z_iload_n (pc := 41) C dJ6_bitCount_0f7a4_41 rfl) (fun _ => Nat.le_refl 1) (xE_e2 (n := 1) (z_iload_n (pc := 42) C dJ6_bitCount_0f7a4_42 rfl) (fun _ => Nat.le_refl 1) (z_bipush (pc := 43) C dJ6_bitCount_0f7a4_43 (by decide +kernel)) (z_iushr (pc := 45) C dJ6_bitCount_0f7a4_45)) (z_iadd (pc := 46) C dJ6_bitCount_0f7a4_46)) ((z_istore_n (pc := 47) C dJ6_bitCount_0f7a4_47 rfl (by decide) (by decide))))
    (xS_ret (xE_e2 (n := 1) (z_iload_n (pc := 48) C dJ6_bitCount_0f7a4_48 rfl) (fun _ => Nat.le_refl 1) (z_bipush (pc := 49) C dJ6_bitCount_0f7a4_49 (by decide +kernel)) (z_iand (pc := 51) C dJ6_bitCount_0f7a4_51)) (z_retI (pc := 52) C ⟨Nat.zero_le _, Nat.zero_le _⟩ dJ6_bitCount_0f7a4_52))))))
theorem q_J7_fill_53178 : yJ7_fill_53178.cls ≠ "java/lang/invoke/MethodHandle" ∧ yJ7_fill_53178.cls ≠ "java/lang/invoke/VarHandle" ∧ (parseMethodDescriptor yJ7_fill_53178.desc).map (fun d => d.parameters.length) = some 2 := by decide +kernel
set_option maxRecDepth 20000 in
set_option maxHeartbeats 4000000 in
theorem t_J7_fill_53178 (l : Launch) (hfl : l.stackTraces = false) : z_CT l yJ7_fill_53178 wsJ7_fill_53178 2 1 12 0 0 false m_J7_fill_53178 := by
  refine (z_CT.of hfl (jL := 99) (cc := cJ7_fill_53178) (nL := 4) (rt := none) (by decide +kernel) rfl (by decide) 0 0 ?_)
  intro p e s m args below meth c base D dT o hf C0
  have C : z_Cx p l s m args meth c base cJ7_fill_53178 4 RJ7 wsJ7_fill_53178 none [] := C0
  exact xS_seq (xS_seq (xS_seq (xS_set (z_iconst (pc := 0) C dJ7_fill_53178_0) ((z_istore_n (pc := 1) C dJ7_fill_53178_1 rfl (by decide) (by decide))))
    (xS_set (xE_len (z_aload_n (pc := 2) C dJ7_fill_53178_2 rfl) (z_alen (pc := 3) C dJ7_fill_53178_3)) ((z_istore_n (pc := 4) C dJ7_fill_53178_4 rfl (by decide) (by decide))))) (xS_lp (xB_cmp (z_iload_n (pc := 5) C dJ7_fill_53178_5 rfl) (z_iload_n (pc := 6) C dJ7_fill_53178_6 rfl) (z_icmp_geN (pc := 7) (tgt := 20) C dJ7_fill_53178_7 (by decide)))
    (xS_ast (z_aload_n (pc := 10) C dJ7_fill_53178_10 rfl) (z_iload_n (pc := 11) C dJ7_fill_53178_11 rfl) (z_iload_n (pc := 12) C dJ7_fill_53178_12 rfl) (z_iast (pc := 13) C dJ7_fill_53178_13))
    (xS_inc (z_inc (pc := 14) C dJ7_fill_53178_14 (by decide) (by decide))) (z_goto (pc := 17) (tgt := 5) C dJ7_fill_53178_17 (by decide))))
    (xS_retV (z_retV (pc := 20) C ⟨Nat.zero_le _, Nat.zero_le _⟩ dJ7_fill_53178_20))
theorem q_J9_floorDiv_7cf53 : yJ9_floorDiv_7cf53.cls ≠ "java/lang/invoke/MethodHandle" ∧ yJ9_floorDiv_7cf53.cls ≠ "java/lang/invoke/VarHandle" ∧ (parseMethodDescriptor yJ9_floorDiv_7cf53.desc).map (fun d => d.parameters.length) = some 2 := by decide +kernel
set_option maxRecDepth 20000 in
set_option maxHeartbeats 4000000 in
theorem t_J9_floorDiv_7cf53 (l : Launch) (hfl : l.stackTraces = false) : z_CT l yJ9_floorDiv_7cf53 wsJ9_floorDiv_7cf53 2 1 12 0 0 false m_J9_floorDiv_7cf53 := by
  refine (z_CT.of hfl (jL := 99) (cc := cJ9_floorDiv_7cf53) (nL := 3) (rt := (some .int)) (by decide +kernel) rfl (by decide) 0 0 ?_)
  intro p e s m args below meth c base D dT o hf C0
  have C : z_Cx p l s m args meth c base cJ9_floorDiv_7cf53 3 RJ9 wsJ9_floorDiv_7cf53 (some .int) [] := C0
  exact xS_seq (xS_set (xE_e2 (n := 1) (z_iload_n (pc := 0) C dJ9_floorDiv_7cf53_0 rfl) (fun _ => Nat.le_refl 1) (z_iload_n (pc := 1) C dJ9_floorDiv_7cf53_1 rfl) (z_idiv (pc := 2) C dJ9_floorDiv_7cf53_2)) ((z_istore_n (pc := 3) C dJ9_floorDiv_7cf53_3 rfl (by decide) (by decide))))
    (xS_seq (xS_if (xB_and (xB_cmp0 (xE_e2 (n := 1) (z_iload_n (pc := 4) C dJ9_floorDiv_7cf53_4 rfl) (fun _ => Nat.le_refl 1) (z_iload_n (pc := 5) C dJ9_floorDiv_7cf53_5 rfl) (z_ixor (pc := 6) C dJ9_floorDiv_7cf53_6)) (z_if_geN (pc := 7) (tgt := 21) C dJ9_floorDiv_7cf53_7 (by decide))) (xB_cmp (xE_e2 (n := 1) (z_iload_n (pc := 10) C dJ9_floorDiv_7cf53_10 rfl) (fun _ => Nat.le_refl 1) (z_iload_n (pc := 11) C dJ9_floorDiv_7cf53_11 rfl) (z_imul (pc := 12) C dJ9_floorDiv_7cf53_12)) (z_iload_n (pc := 13) C dJ9_floorDiv_7cf53_13 rfl) (z_icmp_eqN (pc := 14) (tgt := 21) C dJ9_floorDiv_7cf53_14 (by decide)))) (xS_ret (xE_e2 (n := 1) (z_iload_n (pc := 17) C dJ9_floorDiv_7cf53_17 rfl) (fun _ => Nat.le_refl 1) (z_iconst (pc := 18) C dJ9_floorDiv_7cf53_18) (z_isub (pc := 19) C dJ9_floorDiv_7cf53_19)) (z_retI (pc := 20) C ⟨Nat.zero_le _, Nat.zero_le _⟩ dJ9_floorDiv_7cf53_20)) jG_id xS_nop)
    (xS_ret (z_iload_n (pc := 21) C dJ9_floorDiv_7cf53_21 rfl) (z_retI (pc := 22) C ⟨Nat.zero_le _, Nat.zero_le _⟩ dJ9_floorDiv_7cf53_22)))
theorem q_X1_becomeNone : yX1_becomeNone.cls = RX1 ∧ yX1_becomeNone.cls ≠ "java/lang/invoke/MethodHandle" ∧ yX1_becomeNone.cls ≠ "java/lang/invoke/VarHandle" ∧ (parseMethodDescriptor yX1_becomeNone.desc).map (fun d => d.parameters.length) = some 0 := by decide +kernel
set_option maxRecDepth 20000 in
set_option maxHeartbeats 4000000 in
theorem t_X1_becomeNone (l : Launch) (hfl : l.stackTraces = false) : z_CT l yX1_becomeNone wsX1_becomeNone 1 1 12 0 0 false m_X1_becomeNone := by
  refine z_CT.vm (z_CT.of hfl (jL := 99) (cc := cX1_becomeNone) (nL := 1) (rt := none) (by decide +kernel) rfl (by decide) 0 0 ?_)
  intro p e s m args below meth c base D dT o hf C0
  have C : z_Cx p l s m args meth c base cX1_becomeNone 1 RX1 wsX1_becomeNone none [] := C0
  have hinX1 : ∀ w ∈ u_ws RX1 TX1 2, w ∈ wsX1_becomeNone := by decide +kernel
  have hf9 : Cond.fieldLink RX1 9 "Amoebary$Fraction" "above" "I" ∈ wsX1_becomeNone := by decide +kernel
  have hf15 : Cond.fieldLink RX1 15 "Amoebary$Fraction" "below" "I" ∈ wsX1_becomeNone := by decide +kernel
  exact xS_seq (xS_seq (xS_fst (z_aload_n (pc := 0) C dX1_becomeNone_0 rfl) (z_iconst (pc := 1) C dX1_becomeNone_1) (z_put (pc := 2) C (CC := RX1) (TT := TX1) (N := 2) 0 hinX1 tyX1 tyX1_ok nmX1 rfl (by decide) hf9 rfl rfl (by decide +kernel) dX1_becomeNone_2))
    (xS_fst (z_aload_n (pc := 5) C dX1_becomeNone_5 rfl) (z_iconst (pc := 6) C dX1_becomeNone_6) (z_put (pc := 7) C (CC := RX1) (TT := TX1) (N := 2) 1 hinX1 tyX1 tyX1_ok nmX1 rfl (by decide) hf15 rfl rfl (by decide +kernel) dX1_becomeNone_7)))
    (xS_retV (z_retV (pc := 10) C ⟨Nat.zero_le _, Nat.zero_le _⟩ dX1_becomeNone_10))
theorem q_X1_become : yX1_become.cls = RX1 ∧ yX1_become.cls ≠ "java/lang/invoke/MethodHandle" ∧ yX1_become.cls ≠ "java/lang/invoke/VarHandle" ∧ (parseMethodDescriptor yX1_become.desc).map (fun d => d.parameters.length) = some 2 := by decide +kernel
set_option maxRecDepth 20000 in
set_option maxHeartbeats 4000000 in
theorem t_X1_become (l : Launch) (hfl : l.stackTraces = false) : z_CT l yX1_become wsX1_become 3 1 12 0 0 false m_X1_become := by
  refine z_CT.vm (z_CT.of hfl (jL := 99) (cc := cX1_become) (nL := 5) (rt := none) (by decide +kernel) rfl (by decide) 0 0 ?_)
  intro p e s m args below meth c base D dT o hf C0
  have C : z_Cx p l s m args meth c base cX1_become 5 RX1 wsX1_become none [] := C0
  have hinX1 : ∀ w ∈ u_ws RX1 TX1 2, w ∈ wsX1_become := by decide +kernel
  have hf9 : Cond.fieldLink RX1 9 "Amoebary$Fraction" "above" "I" ∈ wsX1_become := by decide +kernel
  have hf15 : Cond.fieldLink RX1 15 "Amoebary$Fraction" "below" "I" ∈ wsX1_become := by decide +kernel
  exact xS_seq (xS_seq (xS_set (z_iconst (pc := 0) C dX1_become_0) ((z_istore_n (pc := 1) C dX1_become_1 rfl (by decide) (by decide))))
    (xS_seq (xS_seq (xS_set (z_iconst (pc := 2) C dX1_become_2) ((z_istore (pc := 3) C dX1_become_3 (by decide) (by decide)))) (xS_lp (xB_cmp (z_iload (pc := 5) C dX1_become_5) (z_iload_n (pc := 7) C dX1_become_7 rfl) (z_icmp_gtN (pc := 8) (tgt := 34) C dX1_become_8 (by decide)))
    (xS_if (xB_and (xB_cmp0 (xE_e2 (n := 1) (z_iload_n (pc := 11) C dX1_become_11 rfl) (fun _ => Nat.le_refl 1) (z_iload (pc := 12) C dX1_become_12) (z_irem (pc := 14) C dX1_become_14)) (z_if_neN (pc := 15) (tgt := 28) C dX1_become_15 (by decide))) (xB_cmp0 (xE_e2 (n := 1) (z_iload_n (pc := 18) C dX1_become_18 rfl) (fun _ => Nat.le_refl 1) (z_iload (pc := 19) C dX1_become_19) (z_irem (pc := 21) C dX1_become_21)) (z_if_neN (pc := 22) (tgt := 28) C dX1_become_22 (by decide)))) (xS_set (z_iload (pc := 25) C dX1_become_25) ((z_istore_n (pc := 27) C dX1_become_27 rfl (by decide) (by decide)))) jG_id xS_nop)
    (xS_inc (z_inc (pc := 28) C dX1_become_28 (by decide) (by decide))) (z_goto (pc := 31) (tgt := 5) C dX1_become_31 (by decide))))
    (xS_seq (xS_fst (z_aload_n (pc := 34) C dX1_become_34 rfl) (xE_e2 (n := 1) (z_iload_n (pc := 35) C dX1_become_35 rfl) (fun _ => Nat.le_refl 1) (z_iload_n (pc := 36) C dX1_become_36 rfl) (z_idiv (pc := 37) C dX1_become_37)) (z_put (pc := 38) C (CC := RX1) (TT := TX1) (N := 2) 0 hinX1 tyX1 tyX1_ok nmX1 rfl (by decide) hf9 rfl rfl (by decide +kernel) dX1_become_38))
    (xS_fst (z_aload_n (pc := 41) C dX1_become_41 rfl) (xE_e2 (n := 1) (z_iload_n (pc := 42) C dX1_become_42 rfl) (fun _ => Nat.le_refl 1) (z_iload_n (pc := 43) C dX1_become_43 rfl) (z_idiv (pc := 44) C dX1_become_44)) (z_put (pc := 45) C (CC := RX1) (TT := TX1) (N := 2) 1 hinX1 tyX1 tyX1_ok nmX1 rfl (by decide) hf15 rfl rfl (by decide +kernel) dX1_become_45)))))
    (xS_retV (z_retV (pc := 48) C ⟨Nat.zero_le _, Nat.zero_le _⟩ dX1_become_48))
theorem q_X1_becomeLesser : yX1_becomeLesser.cls = RX1 ∧ yX1_becomeLesser.cls ≠ "java/lang/invoke/MethodHandle" ∧ yX1_becomeLesser.cls ≠ "java/lang/invoke/VarHandle" ∧ (parseMethodDescriptor yX1_becomeLesser.desc).map (fun d => d.parameters.length) = some 2 := by decide +kernel
set_option maxRecDepth 20000 in
set_option maxHeartbeats 4000000 in
theorem t_X1_becomeLesser (l : Launch) (hfl : l.stackTraces = false) : z_CT l yX1_becomeLesser wsX1_becomeLesser 3 2 36 0 0 false m_X1_becomeLesser := by
  refine z_CT.vm (z_CT.of hfl (jL := 99) (cc := cX1_becomeLesser) (nL := 3) (rt := none) (by decide +kernel) rfl (by decide) 0 0 ?_)
  intro p e s m args below meth c base D dT o hf C0
  have C : z_Cx p l s m args meth c base cX1_becomeLesser 3 RX1 wsX1_becomeLesser none [] := C0
  have hinX1 : ∀ w ∈ u_ws RX1 TX1 2, w ∈ wsX1_becomeLesser := by decide +kernel
  have hf15 : Cond.fieldLink RX1 15 "Amoebary$Fraction" "below" "I" ∈ wsX1_becomeLesser := by decide +kernel
  have hf9 : Cond.fieldLink RX1 9 "Amoebary$Fraction" "above" "I" ∈ wsX1_becomeLesser := by decide +kernel
  exact xS_seq (xS_if (xB_or (xB_cmp (xE_f (z_aload_n (pc := 0) C dX1_becomeLesser_0 rfl) (z_get (pc := 1) C (CC := RX1) (TT := TX1) (N := 2) 1 hinX1 rfl (by decide) hf15 rfl dX1_becomeLesser_1)) (z_iconst (pc := 4) C dX1_becomeLesser_4) (z_icmp_eq (pc := 5) (tgt := 23) C dX1_becomeLesser_5 (by decide))) (xB_cmp (xE_e2 (n := 1) (z_iload_n (pc := 8) C dX1_becomeLesser_8 rfl) (fun _ => Nat.le_refl 1) (xE_f (z_aload_n (pc := 9) C dX1_becomeLesser_9 rfl) (z_get (pc := 10) C (CC := RX1) (TT := TX1) (N := 2) 1 hinX1 rfl (by decide) hf15 rfl dX1_becomeLesser_10)) (z_imul (pc := 13) C dX1_becomeLesser_13)) (xE_e2 (n := 1) (xE_f (z_aload_n (pc := 14) C dX1_becomeLesser_14 rfl) (z_get (pc := 15) C (CC := RX1) (TT := TX1) (N := 2) 0 hinX1 rfl (by decide) hf9 rfl dX1_becomeLesser_15)) (fun _ => Nat.le_refl 1) (z_iload_n (pc := 18) C dX1_becomeLesser_18 rfl) (z_imul (pc := 19) C dX1_becomeLesser_19)) (z_icmp_geN (pc := 20) (tgt := 29) C dX1_becomeLesser_20 (by decide)))) (xS_cl (xA_s (fun _ => rfl) (xA_s (fun _ => rfl) (xA_s (fun _ => rfl) (xA_n) (z_aload_n (pc := 23) C dX1_becomeLesser_23 rfl)) (z_iload_n (pc := 24) C dX1_becomeLesser_24 rfl)) (z_iload_n (pc := 25) C dX1_becomeLesser_25 rfl)) (z_cV (pc := 26) C (fun _ _ => ⟨rfl, rfl⟩) ⟨Nat.zero_le _, Nat.zero_le _⟩ (t_X1_become l hfl) (ci := 1) (CC := RX1) rfl gX1_becomeLesser_X1_become rfl q_X1_become ⟨by decide, by decide⟩ (by decide) dX1_becomeLesser_26)) jG_id xS_nop)
    (xS_retV (z_retV (pc := 29) C ⟨Nat.zero_le _, Nat.zero_le _⟩ dX1_becomeLesser_29))
theorem q_X5_together : yX5_together.cls ≠ "java/lang/invoke/MethodHandle" ∧ yX5_together.cls ≠ "java/lang/invoke/VarHandle" ∧ (parseMethodDescriptor yX5_together.desc).map (fun d => d.parameters.length) = some 2 := by decide +kernel
set_option maxRecDepth 20000 in
set_option maxHeartbeats 4000000 in
theorem t_X5_together (l : Launch) (hfl : l.stackTraces = false) : z_CT l yX5_together wsX5_together 2 1 12 0 0 false m_X5_together := by
  refine (z_CT.of hfl (jL := 99) (cc := cX5_together) (nL := 2) (rt := (some .int)) (by decide +kernel) rfl (by decide) 0 0 ?_)
  intro p e s m args below meth c base D dT o hf C0
  have C : z_Cx p l s m args meth c base cX5_together 2 RX5 wsX5_together (some .int) [] := C0
  have hc301 : Cond.constant RX5 301 (Int32.ofInt 1000000) ∈ wsX5_together := by decide +kernel
  exact xS_ret (xE_if (xB_or (xB_cmp (z_iload_n (pc := 0) C dX5_together_0 rfl) (z_ldcw (x := 1000000) (pc := 1) C hc301 dX5_together_1) (z_icmp_eq (pc := 4) (tgt := 14) C dX5_together_4 (by decide))) (xB_cmp (z_iload_n (pc := 7) C dX5_together_7 rfl) (z_ldcw (x := 1000000) (pc := 8) C hc301 dX5_together_8) (z_icmp_neN (pc := 11) (tgt := 20) C dX5_together_11 (by decide)))) (z_ldcw (x := 1000000) (pc := 14) C hc301 dX5_together_14) (z_goto (pc := 17) (tgt := 23) C dX5_together_17 (by decide)) (xE_e2 (n := 1) (z_iload_n (pc := 20) C dX5_together_20 rfl) (fun _ => Nat.le_refl 1) (z_iload_n (pc := 21) C dX5_together_21 rfl) (z_iadd (pc := 22) C dX5_together_22))) (z_retI (pc := 23) C ⟨Nat.zero_le _, Nat.zero_le _⟩ dX5_together_23)
theorem q_X0_offer : yX0_offer.cls = RX0 ∧ yX0_offer.cls ≠ "java/lang/invoke/MethodHandle" ∧ yX0_offer.cls ≠ "java/lang/invoke/VarHandle" ∧ (parseMethodDescriptor yX0_offer.desc).map (fun d => d.parameters.length) = some 3 := by decide +kernel
set_option maxRecDepth 20000 in
set_option maxHeartbeats 4000000 in
theorem t_X0_offer (l : Launch) (hfl : l.stackTraces = false) : z_CT l yX0_offer wsX0_offer 4 2 33 0 0 false m_X0_offer := by
  refine z_CT.vm (z_CT.of hfl (jL := 99) (cc := cX0_offer) (nL := 5) (rt := none) (by decide +kernel) rfl (by decide) 0 0 ?_)
  intro p e s m args below meth c base D dT o hf C0
  have C : z_Cx p l s m args meth c base cX0_offer 5 RX0 wsX0_offer none [] := C0
  have hinX0 : ∀ w ∈ u_ws RX0 TX0 2, w ∈ wsX0_offer := by decide +kernel
  have hf9 : Cond.fieldLink RX0 9 "Amoebary$Choices" "sums" "[I" ∈ wsX0_offer := by decide +kernel
  have hy43 : Cond.methodLinkNest RX0 43 yX5_together "Amoebary" ∈ z_xw := by decide +kernel
  have hiX5 : Cond.initialized yX5_together.cls ∈ wsX0_offer := by decide +kernel
  have hs43 : Cond.static yX5_together ∈ wsX0_offer := by decide +kernel
  have hc28 : Cond.constant RX0 28 (Int32.ofInt 1000000) ∈ wsX0_offer := by decide +kernel
  have hf15 : Cond.fieldLink RX0 15 "Amoebary$Choices" "counts" "[I" ∈ wsX0_offer := by decide +kernel
  exact xS_seq (xS_seq (xS_set (xE_cl (xA_s (fun _ => rfl) (xA_s (fun _ => rfl) (xA_n) (xE_ld (xE_fR (z_aload_n (pc := 0) C dX0_offer_0 rfl) (z_get (pc := 1) C (CC := RX0) (TT := TX0) (N := 2) 0 hinX0 rfl (by decide) hf9 rfl dX0_offer_1)) (z_iload_n (pc := 4) C dX0_offer_4 rfl) (z_iald (pc := 5) C dX0_offer_5))) (z_iload_n (pc := 6) C dX0_offer_6 rfl)) (z_cSN (pc := 7) C (fun _ _ => ⟨rfl, rfl⟩) ⟨Nat.zero_le _, Nat.zero_le _⟩ (t_X5_together l hfl) gX0_offer_X5_together_n43 rfl hy43 hiX5 hs43 q_X5_together ⟨by decide, by decide⟩ (by decide) dX0_offer_7)) ((z_istore (pc := 10) C dX0_offer_10 (by decide) (by decide))))
    (xS_seq (xS_if (xB_cmp (z_iload (pc := 12) C dX0_offer_12) (z_ldc (x := 1000000) (pc := 14) C hc28 dX0_offer_14) (z_icmp_neN (pc := 16) (tgt := 20) C dX0_offer_16 (by decide))) (xS_retV (z_retV (pc := 19) C ⟨Nat.zero_le _, Nat.zero_le _⟩ dX0_offer_19)) jG_id xS_nop)
    (xS_seq (xS_if (xB_cmp (z_iload (pc := 20) C dX0_offer_20) (xE_ld (xE_fR (z_aload_n (pc := 22) C dX0_offer_22 rfl) (z_get (pc := 23) C (CC := RX0) (TT := TX0) (N := 2) 0 hinX0 rfl (by decide) hf9 rfl dX0_offer_23)) (z_iload_n (pc := 26) C dX0_offer_26 rfl) (z_iald (pc := 27) C dX0_offer_27)) (z_icmp_geN (pc := 28) (tgt := 46) C dX0_offer_28 (by decide))) (xS_seq (xS_ast (xE_fR (z_aload_n (pc := 31) C dX0_offer_31 rfl) (z_get (pc := 32) C (CC := RX0) (TT := TX0) (N := 2) 0 hinX0 rfl (by decide) hf9 rfl dX0_offer_32)) (z_iload_n (pc := 35) C dX0_offer_35 rfl) (z_iload (pc := 36) C dX0_offer_36) (z_iast (pc := 38) C dX0_offer_38))
    (xS_ast (xE_fR (z_aload_n (pc := 39) C dX0_offer_39 rfl) (z_get (pc := 40) C (CC := RX0) (TT := TX0) (N := 2) 1 hinX0 rfl (by decide) hf15 rfl dX0_offer_40)) (z_iload_n (pc := 43) C dX0_offer_43 rfl) (z_iconst (pc := 44) C dX0_offer_44) (z_iast (pc := 45) C dX0_offer_45))) jG_id xS_nop)
    (xS_if (xB_cmp (z_iload (pc := 46) C dX0_offer_46) (xE_ld (xE_fR (z_aload_n (pc := 48) C dX0_offer_48 rfl) (z_get (pc := 49) C (CC := RX0) (TT := TX0) (N := 2) 0 hinX0 rfl (by decide) hf9 rfl dX0_offer_49)) (z_iload_n (pc := 52) C dX0_offer_52 rfl) (z_iald (pc := 53) C dX0_offer_53)) (z_icmp_neN (pc := 54) (tgt := 72) C dX0_offer_54 (by decide))) (xS_aop (n0 := 1) (w := vI) (fun _ => Nat.le_refl 1) (xE_fR (z_aload_n (pc := 57) C dX0_offer_57 rfl) (z_get (pc := 58) C (CC := RX0) (TT := TX0) (N := 2) 1 hinX0 rfl (by decide) hf15 rfl dX0_offer_58)) (z_iload_n (pc := 61) C dX0_offer_61 rfl) (z_dup2 (pc := 62) C dX0_offer_62) (z_iald (pc := 63) C dX0_offer_63) (xE_ld (xE_fR (z_aload_n (pc := 64) C dX0_offer_64 rfl) (z_get (pc := 65) C (CC := RX0) (TT := TX0) (N := 2) 1 hinX0 rfl (by decide) hf15 rfl dX0_offer_65)) (z_iload_n (pc := 68) C dX0_offer_68 rfl) (z_iald (pc := 69) C dX0_offer_69)) (z_iadd (pc := 70) C dX0_offer_70) (z_iast (pc := 71) C dX0_offer_71)) jG_id xS_nop))))
    (xS_retV (z_retV (pc := 72) C ⟨Nat.zero_le _, Nat.zero_le _⟩ dX0_offer_72))
theorem q_X0_choose : yX0_choose.cls = RX0 ∧ yX0_choose.cls ≠ "java/lang/invoke/MethodHandle" ∧ yX0_choose.cls ≠ "java/lang/invoke/VarHandle" ∧ (parseMethodDescriptor yX0_choose.desc).map (fun d => d.parameters.length) = some 1 := by decide +kernel
set_option maxRecDepth 20000 in
set_option maxHeartbeats 4000000 in
theorem t_X0_choose (l : Launch) (hfl : l.stackTraces = false) : z_CT l yX0_choose wsX0_choose 2 3 57 0 0 false m_X0_choose := by
  refine z_CT.vm (z_CT.of hfl (jL := 99) (cc := cX0_choose) (nL := 5) (rt := none) (by decide +kernel) rfl (by decide) 0 0 ?_)
  intro p e s m args below meth c base D dT o hf C0
  have C : z_Cx p l s m args meth c base cX0_choose 5 RX0 wsX0_choose none [] := C0
  have hinX0 : ∀ w ∈ u_ws RX0 TX0 2, w ∈ wsX0_choose := by decide +kernel
  have hf9 : Cond.fieldLink RX0 9 "Amoebary$Choices" "sums" "[I" ∈ wsX0_choose := by decide +kernel
  have hf15 : Cond.fieldLink RX0 15 "Amoebary$Choices" "counts" "[I" ∈ wsX0_choose := by decide +kernel
  have hinX2 : ∀ w ∈ u_ws RX2 TX2 2, w ∈ wsX0_choose := by decide +kernel
  have hx22 : Cond.fieldLinkNest RX0 22 "Amoebary$Matrix" "rows" "I" "Amoebary" ∈ z_xw := by decide +kernel
  have hc28 : Cond.constant RX0 28 (Int32.ofInt 1000000) ∈ wsX0_choose := by decide +kernel
  have hx29 : Cond.fieldLinkNest RX0 29 "Amoebary$Matrix" "entries" "[[I" "Amoebary" ∈ z_xw := by decide +kernel
  exact xS_seq (xS_seq (xS_ast (xE_fR (z_aload_n (pc := 0) C dX0_choose_0 rfl) (z_get (pc := 1) C (CC := RX0) (TT := TX0) (N := 2) 0 hinX0 rfl (by decide) hf9 rfl dX0_choose_1)) (z_iconst (pc := 4) C dX0_choose_4) (z_iconst (pc := 5) C dX0_choose_5) (z_iast (pc := 6) C dX0_choose_6))
    (xS_seq (xS_ast (xE_fR (z_aload_n (pc := 7) C dX0_choose_7 rfl) (z_get (pc := 8) C (CC := RX0) (TT := TX0) (N := 2) 1 hinX0 rfl (by decide) hf15 rfl dX0_choose_8)) (z_iconst (pc := 11) C dX0_choose_11) (z_iconst (pc := 12) C dX0_choose_12) (z_iast (pc := 13) C dX0_choose_13))
    (xS_seq (xS_set (z_iconst (pc := 14) C dX0_choose_14) ((z_istore_n (pc := 15) C dX0_choose_15 rfl (by decide) (by decide)))) (xS_lp (xB_cmp (z_iload_n (pc := 16) C dX0_choose_16 rfl) (xE_e2 (n := 1) (z_iconst (pc := 17) C dX0_choose_17) (fun _ => Nat.le_refl 1) (xE_f (z_aload_n (pc := 18) C dX0_choose_18 rfl) (z_getN (pc := 19) C (CC := RX2) (TT := TX2) (N := 2) 1 hinX2 rfl (by decide) hx22 rfl dX0_choose_19)) (z_ishl (pc := 22) C dX0_choose_22)) (z_icmp_geN (pc := 23) (tgt := 99) C dX0_choose_23 (by decide)))
    (xS_seq (xS_ast (xE_fR (z_aload_n (pc := 26) C dX0_choose_26 rfl) (z_get (pc := 27) C (CC := RX0) (TT := TX0) (N := 2) 0 hinX0 rfl (by decide) hf9 rfl dX0_choose_27)) (z_iload_n (pc := 30) C dX0_choose_30 rfl) (z_ldc (x := 1000000) (pc := 31) C hc28 dX0_choose_31) (z_iast (pc := 33) C dX0_choose_33))
    (xS_seq (xS_ast (xE_fR (z_aload_n (pc := 34) C dX0_choose_34 rfl) (z_get (pc := 35) C (CC := RX0) (TT := TX0) (N := 2) 1 hinX0 rfl (by decide) hf15 rfl dX0_choose_35)) (z_iload_n (pc := 38) C dX0_choose_38 rfl) (z_iconst (pc := 39) C dX0_choose_39) (z_iast (pc := 40) C dX0_choose_40))
    (xS_seq (xS_set (z_iconst (pc := 41) C dX0_choose_41) ((z_istore_n (pc := 42) C dX0_choose_42 rfl (by decide) (by decide)))) (xS_lp (xB_cmp (z_iload_n (pc := 43) C dX0_choose_43 rfl) (xE_f (z_aload_n (pc := 44) C dX0_choose_44 rfl) (z_getN (pc := 45) C (CC := RX2) (TT := TX2) (N := 2) 1 hinX2 rfl (by decide) hx22 rfl dX0_choose_45)) (z_icmp_geN (pc := 48) (tgt := 93) C dX0_choose_48 (by decide)))
    (xS_if (xB_cmp (xE_e2 (n := 1) (xE_e2 (n := 1) (z_iload_n (pc := 51) C dX0_choose_51 rfl) (fun _ => Nat.le_refl 1) (z_iload_n (pc := 52) C dX0_choose_52 rfl) (z_ishr (pc := 53) C dX0_choose_53)) (fun _ => Nat.le_refl 1) (z_iconst (pc := 54) C dX0_choose_54) (z_iand (pc := 55) C dX0_choose_55)) (z_iconst (pc := 56) C dX0_choose_56) (z_icmp_neN (pc := 57) (tgt := 87) C dX0_choose_57 (by decide))) (xS_seq (xS_set (xE_ld (xE_ldR (t := 4) (xE_fR (z_aload_n (pc := 60) C dX0_choose_60 rfl) (z_getN (pc := 61) C (CC := RX2) (TT := TX2) (N := 2) 0 hinX2 rfl (by decide) hx29 rfl dX0_choose_61)) (xE_e2 (n := 1) (xE_cl (xA_s (fun _ => rfl) (xA_n) (z_iload_n (pc := 64) C dX0_choose_64 rfl)) (z_cS (pc := 65) C (fun _ _ => ⟨rfl, rfl⟩) ⟨Nat.zero_le _, Nat.zero_le _⟩ (t_J6_bitCount_0f7a4 l hfl) gX0_choose_J6_bitCount_0f7a4 rfl q_J6_bitCount_0f7a4 ⟨by decide, by decide⟩ (by decide) dX0_choose_65)) (fun _ => Nat.le_refl 1) (z_iconst (pc := 68) C dX0_choose_68) (z_isub (pc := 69) C dX0_choose_69)) (z_aald (pc := 70) C (t := 2) (ty := .array .int) rfl rfl dX0_choose_70)) (z_iload_n (pc := 71) C dX0_choose_71 rfl) (z_iald (pc := 72) C dX0_choose_72)) ((z_istore (pc := 73) C dX0_choose_73 (by decide) (by decide))))
    (xS_cl (xA_s (fun _ => rfl) (xA_s (fun _ => rfl) (xA_s (fun _ => rfl) (xA_s (fun _ => rfl) (xA_n) (z_aload_n (pc := 75) C dX0_choose_75 rfl)) (z_iload_n (pc := 76) C dX0_choose_76 rfl)) (xE_e2 (n := 1) (z_iload_n (pc := 77) C dX0_choose_77 rfl) (fun _ => Nat.le_refl 1) (xE_e2 (n := 1) (z_iconst (pc := 78) C dX0_choose_78) (fun _ => Nat.le_refl 1) (z_iload_n (pc := 79) C dX0_choose_79 rfl) (z_ishl (pc := 80) C dX0_choose_80)) (z_isub (pc := 81) C dX0_choose_81))) (z_iload (pc := 82) C dX0_choose_82)) (z_cV (pc := 84) C (fun _ _ => ⟨rfl, rfl⟩) ⟨Nat.zero_le _, Nat.zero_le _⟩ (t_X0_offer l hfl) (ci := 0) (CC := RX0) rfl gX0_choose_X0_offer rfl q_X0_offer ⟨by decide, by decide⟩ (by decide) dX0_choose_84))) jG_id xS_nop)
    (xS_inc (z_inc (pc := 87) C dX0_choose_87 (by decide) (by decide))) (z_goto (pc := 90) (tgt := 43) C dX0_choose_90 (by decide))))))
    (xS_inc (z_inc (pc := 93) C dX0_choose_93 (by decide) (by decide))) (z_goto (pc := 96) (tgt := 16) C dX0_choose_96 (by decide))))))
    (xS_retV (z_retV (pc := 99) C ⟨Nat.zero_le _, Nat.zero_le _⟩ dX0_choose_99))
theorem q_X0_leastSum : yX0_leastSum.cls = RX0 ∧ yX0_leastSum.cls ≠ "java/lang/invoke/MethodHandle" ∧ yX0_leastSum.cls ≠ "java/lang/invoke/VarHandle" ∧ (parseMethodDescriptor yX0_leastSum.desc).map (fun d => d.parameters.length) = some 1 := by decide +kernel
set_option maxRecDepth 20000 in
set_option maxHeartbeats 4000000 in
theorem t_X0_leastSum (l : Launch) (hfl : l.stackTraces = false) : z_CT l yX0_leastSum wsX0_leastSum 2 4 81 0 0 false m_X0_leastSum := by
  refine z_CT.vm (z_CT.of hfl (jL := 99) (cc := cX0_leastSum) (nL := 2) (rt := (some .int)) (by decide +kernel) rfl (by decide) 0 0 ?_)
  intro p e s m args below meth c base D dT o hf C0
  have C : z_Cx p l s m args meth c base cX0_leastSum 2 RX0 wsX0_leastSum (some .int) [] := C0
  have hinX0 : ∀ w ∈ u_ws RX0 TX0 2, w ∈ wsX0_leastSum := by decide +kernel
  have hf9 : Cond.fieldLink RX0 9 "Amoebary$Choices" "sums" "[I" ∈ wsX0_leastSum := by decide +kernel
  have hinX2 : ∀ w ∈ u_ws RX2 TX2 2, w ∈ wsX0_leastSum := by decide +kernel
  have hx22 : Cond.fieldLinkNest RX0 22 "Amoebary$Matrix" "rows" "I" "Amoebary" ∈ z_xw := by decide +kernel
  exact xS_seq (xS_cl (xA_s (fun _ => rfl) (xA_s (fun _ => rfl) (xA_n) (z_aload_n (pc := 0) C dX0_leastSum_0 rfl)) (z_aload_n (pc := 1) C dX0_leastSum_1 rfl)) (z_cV (pc := 2) C (fun _ _ => ⟨rfl, rfl⟩) ⟨Nat.zero_le _, Nat.zero_le _⟩ (t_X0_choose l hfl) (ci := 0) (CC := RX0) rfl gX0_leastSum_X0_choose rfl q_X0_choose ⟨by decide, by decide⟩ (by decide) dX0_leastSum_2))
    (xS_ret (xE_ld (xE_fR (z_aload_n (pc := 5) C dX0_leastSum_5 rfl) (z_get (pc := 6) C (CC := RX0) (TT := TX0) (N := 2) 0 hinX0 rfl (by decide) hf9 rfl dX0_leastSum_6)) (xE_e2 (n := 1) (xE_e2 (n := 1) (z_iconst (pc := 9) C dX0_leastSum_9) (fun _ => Nat.le_refl 1) (xE_f (z_aload_n (pc := 10) C dX0_leastSum_10 rfl) (z_getN (pc := 11) C (CC := RX2) (TT := TX2) (N := 2) 1 hinX2 rfl (by decide) hx22 rfl dX0_leastSum_11)) (z_ishl (pc := 14) C dX0_leastSum_14)) (fun _ => Nat.le_refl 1) (z_iconst (pc := 15) C dX0_leastSum_15) (z_isub (pc := 16) C dX0_leastSum_16)) (z_iald (pc := 17) C dX0_leastSum_17)) (z_retI (pc := 18) C ⟨Nat.zero_le _, Nat.zero_le _⟩ dX0_leastSum_18))
theorem q_X0_countLeast : yX0_countLeast.cls = RX0 ∧ yX0_countLeast.cls ≠ "java/lang/invoke/MethodHandle" ∧ yX0_countLeast.cls ≠ "java/lang/invoke/VarHandle" ∧ (parseMethodDescriptor yX0_countLeast.desc).map (fun d => d.parameters.length) = some 1 := by decide +kernel
set_option maxRecDepth 20000 in
set_option maxHeartbeats 4000000 in
theorem t_X0_countLeast (l : Launch) (hfl : l.stackTraces = false) : z_CT l yX0_countLeast wsX0_countLeast 2 4 81 0 0 false m_X0_countLeast := by
  refine z_CT.vm (z_CT.of hfl (jL := 99) (cc := cX0_countLeast) (nL := 2) (rt := (some .int)) (by decide +kernel) rfl (by decide) 0 0 ?_)
  intro p e s m args below meth c base D dT o hf C0
  have C : z_Cx p l s m args meth c base cX0_countLeast 2 RX0 wsX0_countLeast (some .int) [] := C0
  have hinX0 : ∀ w ∈ u_ws RX0 TX0 2, w ∈ wsX0_countLeast := by decide +kernel
  have hf15 : Cond.fieldLink RX0 15 "Amoebary$Choices" "counts" "[I" ∈ wsX0_countLeast := by decide +kernel
  have hinX2 : ∀ w ∈ u_ws RX2 TX2 2, w ∈ wsX0_countLeast := by decide +kernel
  have hx22 : Cond.fieldLinkNest RX0 22 "Amoebary$Matrix" "rows" "I" "Amoebary" ∈ z_xw := by decide +kernel
  exact xS_seq (xS_cl (xA_s (fun _ => rfl) (xA_s (fun _ => rfl) (xA_n) (z_aload_n (pc := 0) C dX0_countLeast_0 rfl)) (z_aload_n (pc := 1) C dX0_countLeast_1 rfl)) (z_cV (pc := 2) C (fun _ _ => ⟨rfl, rfl⟩) ⟨Nat.zero_le _, Nat.zero_le _⟩ (t_X0_choose l hfl) (ci := 0) (CC := RX0) rfl gX0_countLeast_X0_choose rfl q_X0_choose ⟨by decide, by decide⟩ (by decide) dX0_countLeast_2))
    (xS_ret (xE_ld (xE_fR (z_aload_n (pc := 5) C dX0_countLeast_5 rfl) (z_get (pc := 6) C (CC := RX0) (TT := TX0) (N := 2) 1 hinX0 rfl (by decide) hf15 rfl dX0_countLeast_6)) (xE_e2 (n := 1) (xE_e2 (n := 1) (z_iconst (pc := 9) C dX0_countLeast_9) (fun _ => Nat.le_refl 1) (xE_f (z_aload_n (pc := 10) C dX0_countLeast_10 rfl) (z_getN (pc := 11) C (CC := RX2) (TT := TX2) (N := 2) 1 hinX2 rfl (by decide) hx22 rfl dX0_countLeast_11)) (z_ishl (pc := 14) C dX0_countLeast_14)) (fun _ => Nat.le_refl 1) (z_iconst (pc := 15) C dX0_countLeast_15) (z_isub (pc := 16) C dX0_countLeast_16)) (z_iald (pc := 17) C dX0_countLeast_17)) (z_retI (pc := 18) C ⟨Nat.zero_le _, Nat.zero_le _⟩ dX0_countLeast_18))
theorem q_X4_hasTerm : yX4_hasTerm.cls = RX4 ∧ yX4_hasTerm.cls ≠ "java/lang/invoke/MethodHandle" ∧ yX4_hasTerm.cls ≠ "java/lang/invoke/VarHandle" ∧ (parseMethodDescriptor yX4_hasTerm.desc).map (fun d => d.parameters.length) = some 1 := by decide +kernel
set_option maxRecDepth 20000 in
set_option maxHeartbeats 4000000 in
theorem t_X4_hasTerm (l : Launch) (hfl : l.stackTraces = false) : z_CT l yX4_hasTerm wsX4_hasTerm 2 1 12 0 0 false m_X4_hasTerm := by
  refine z_CT.vm (z_CT.of hfl (jL := 99) (cc := cX4_hasTerm) (nL := 2) (rt := (some .boolean)) (by decide +kernel) rfl (by decide) 0 0 ?_)
  intro p e s m args below meth c base D dT o hf C0
  have C : z_Cx p l s m args meth c base cX4_hasTerm 2 RX4 wsX4_hasTerm (some .boolean) [] := C0
  have hinX4 : ∀ w ∈ u_ws RX4 TX4 1, w ∈ wsX4_hasTerm := by decide +kernel
  have hf9 : Cond.fieldLink RX4 9 "Amoebary$Polynomial" "coefficients" "[I" ∈ wsX4_hasTerm := by decide +kernel
  have hc15 : Cond.constant RX4 15 (Int32.ofInt 1000000) ∈ wsX4_hasTerm := by decide +kernel
  exact xS_ret (xE_b (xB_cmp (xE_ld (xE_fR (z_aload_n (pc := 0) C dX4_hasTerm_0 rfl) (z_get (pc := 1) C (CC := RX4) (TT := TX4) (N := 1) 0 hinX4 rfl (by decide) hf9 rfl dX4_hasTerm_1)) (z_iload_n (pc := 4) C dX4_hasTerm_4 rfl) (z_iald (pc := 5) C dX4_hasTerm_5)) (z_ldc (x := 1000000) (pc := 6) C hc15 dX4_hasTerm_6) (z_icmp_eqN (pc := 8) (tgt := 15) C dX4_hasTerm_8 (by decide))) (z_push (pc := 11) C dX4_hasTerm_11) (z_goto (pc := 12) (tgt := 16) C dX4_hasTerm_12 (by decide)) (z_push (pc := 15) C dX4_hasTerm_15)) (z_retB (pc := 16) C ⟨Nat.zero_le _, Nat.zero_le _⟩ dX4_hasTerm_16)
theorem q_X4_countTerms : yX4_countTerms.cls = RX4 ∧ yX4_countTerms.cls ≠ "java/lang/invoke/MethodHandle" ∧ yX4_countTerms.cls ≠ "java/lang/invoke/VarHandle" ∧ (parseMethodDescriptor yX4_countTerms.desc).map (fun d => d.parameters.length) = some 0 := by decide +kernel
set_option maxRecDepth 20000 in
set_option maxHeartbeats 4000000 in
theorem t_X4_countTerms (l : Launch) (hfl : l.stackTraces = false) : z_CT l yX4_countTerms wsX4_countTerms 1 2 33 0 0 false m_X4_countTerms := by
  refine z_CT.vm (z_CT.of hfl (jL := 99) (cc := cX4_countTerms) (nL := 3) (rt := (some .int)) (by decide +kernel) rfl (by decide) 0 0 ?_)
  intro p e s m args below meth c base D dT o hf C0
  have C : z_Cx p l s m args meth c base cX4_countTerms 3 RX4 wsX4_countTerms (some .int) [] := C0
  exact xS_seq (xS_set (z_iconst (pc := 0) C dX4_countTerms_0) ((z_istore_n (pc := 1) C dX4_countTerms_1 rfl (by decide) (by decide))))
    (xS_seq (xS_seq (xS_set (z_iconst (pc := 2) C dX4_countTerms_2) ((z_istore_n (pc := 3) C dX4_countTerms_3 rfl (by decide) (by decide)))) (xS_lp (xB_cmp (z_iload_n (pc := 4) C dX4_countTerms_4 rfl) (z_bipush (pc := 5) C dX4_countTerms_5 (by decide +kernel)) (z_icmp_geN (pc := 7) (tgt := 27) C dX4_countTerms_7 (by decide)))
    (xS_if (xB_v (xE_clB (xA_s (fun _ => rfl) (xA_s (fun _ => rfl) (xA_n) (z_aload_n (pc := 10) C dX4_countTerms_10 rfl)) (z_iload_n (pc := 11) C dX4_countTerms_11 rfl)) (z_cV (pc := 12) C (fun _ _ => ⟨rfl, rfl⟩) ⟨Nat.zero_le _, Nat.zero_le _⟩ (t_X4_hasTerm l hfl) (ci := 4) (CC := RX4) rfl gX4_countTerms_X4_hasTerm rfl q_X4_hasTerm ⟨by decide, by decide⟩ (by decide) dX4_countTerms_12)) (z_b_eq (pc := 15) (tgt := 21) C dX4_countTerms_15 (by decide))) (xS_inc (z_inc (pc := 18) C dX4_countTerms_18 (by decide) (by decide))) jG_id xS_nop)
    (xS_inc (z_inc (pc := 21) C dX4_countTerms_21 (by decide) (by decide))) (z_goto (pc := 24) (tgt := 4) C dX4_countTerms_24 (by decide))))
    (xS_ret (z_iload_n (pc := 27) C dX4_countTerms_27 rfl) (z_retI (pc := 28) C ⟨Nat.zero_le _, Nat.zero_le _⟩ dX4_countTerms_28)))
theorem q_X4_leastAt : yX4_leastAt.cls = RX4 ∧ yX4_leastAt.cls ≠ "java/lang/invoke/MethodHandle" ∧ yX4_leastAt.cls ≠ "java/lang/invoke/VarHandle" ∧ (parseMethodDescriptor yX4_leastAt.desc).map (fun d => d.parameters.length) = some 1 := by decide +kernel
set_option maxRecDepth 20000 in
set_option maxHeartbeats 4000000 in
theorem t_X4_leastAt (l : Launch) (hfl : l.stackTraces = false) : z_CT l yX4_leastAt wsX4_leastAt 2 2 33 0 0 false m_X4_leastAt := by
  refine z_CT.vm (z_CT.of hfl (jL := 99) (cc := cX4_leastAt) (nL := 4) (rt := (some .int)) (by decide +kernel) rfl (by decide) 0 0 ?_)
  intro p e s m args below meth c base D dT o hf C0
  have C : z_Cx p l s m args meth c base cX4_leastAt 4 RX4 wsX4_leastAt (some .int) [] := C0
  have hc15 : Cond.constant RX4 15 (Int32.ofInt 1000000) ∈ wsX4_leastAt := by decide +kernel
  have hinX4 : ∀ w ∈ u_ws RX4 TX4 1, w ∈ wsX4_leastAt := by decide +kernel
  have hf9 : Cond.fieldLink RX4 9 "Amoebary$Polynomial" "coefficients" "[I" ∈ wsX4_leastAt := by decide +kernel
  have hmmin0 : Cond.methodLink RX4 26 Lib.Math.min.name ∈ wsX4_leastAt := by decide +kernel
  have hmmin1 : Cond.static Lib.Math.min.name ∈ wsX4_leastAt := by decide +kernel
  have hmmin2 : Cond.initialized "java/lang/Math" ∈ wsX4_leastAt := by decide +kernel
  have hmmin3 : Cond.code Lib.Math.min.name Lib.Math.min.code 2 (some .int) ∈ wsX4_leastAt := by decide +kernel
  exact xS_seq (xS_set (z_ldc (x := 1000000) (pc := 0) C hc15 dX4_leastAt_0) ((z_istore_n (pc := 2) C dX4_leastAt_2 rfl (by decide) (by decide))))
    (xS_seq (xS_seq (xS_set (z_iconst (pc := 3) C dX4_leastAt_3) ((z_istore_n (pc := 4) C dX4_leastAt_4 rfl (by decide) (by decide)))) (xS_lp (xB_cmp (z_iload_n (pc := 5) C dX4_leastAt_5 rfl) (z_bipush (pc := 6) C dX4_leastAt_6 (by decide +kernel)) (z_icmp_geN (pc := 8) (tgt := 40) C dX4_leastAt_8 (by decide)))
    (xS_if (xB_v (xE_clB (xA_s (fun _ => rfl) (xA_s (fun _ => rfl) (xA_n) (z_aload_n (pc := 11) C dX4_leastAt_11 rfl)) (z_iload_n (pc := 12) C dX4_leastAt_12 rfl)) (z_cV (pc := 13) C (fun _ _ => ⟨rfl, rfl⟩) ⟨Nat.zero_le _, Nat.zero_le _⟩ (t_X4_hasTerm l hfl) (ci := 4) (CC := RX4) rfl gX4_leastAt_X4_hasTerm rfl q_X4_hasTerm ⟨by decide, by decide⟩ (by decide) dX4_leastAt_13)) (z_b_eq (pc := 16) (tgt := 34) C dX4_leastAt_16 (by decide))) (xS_set (xE_cl (xA_s (fun _ => rfl) (xA_s (fun _ => rfl) (xA_n) (z_iload_n (pc := 19) C dX4_leastAt_19 rfl)) (xE_e2 (n := 1) (xE_ld (xE_fR (z_aload_n (pc := 20) C dX4_leastAt_20 rfl) (z_get (pc := 21) C (CC := RX4) (TT := TX4) (N := 1) 0 hinX4 rfl (by decide) hf9 rfl dX4_leastAt_21)) (z_iload_n (pc := 24) C dX4_leastAt_24 rfl) (z_iald (pc := 25) C dX4_leastAt_25)) (fun _ => Nat.le_refl 1) (xE_e2 (n := 1) (z_iload_n (pc := 26) C dX4_leastAt_26 rfl) (fun _ => Nat.le_refl 1) (z_iload_n (pc := 27) C dX4_leastAt_27 rfl) (z_imul (pc := 28) C dX4_leastAt_28)) (z_iadd (pc := 29) C dX4_leastAt_29))) (z_cMin (pc := 30) C ⟨Nat.zero_le _, Nat.zero_le _⟩ hmmin0 hmmin1 hmmin2 hmmin3 ⟨Nat.le_of_ble_eq_true rfl, Nat.le_of_ble_eq_true rfl⟩ (by decide) dX4_leastAt_30)) ((z_istore_n (pc := 33) C dX4_leastAt_33 rfl (by decide) (by decide)))) jG_id xS_nop)
    (xS_inc (z_inc (pc := 34) C dX4_leastAt_34 (by decide) (by decide))) (z_goto (pc := 37) (tgt := 5) C dX4_leastAt_37 (by decide))))
    (xS_ret (z_iload_n (pc := 40) C dX4_leastAt_40 rfl) (z_retI (pc := 41) C ⟨Nat.zero_le _, Nat.zero_le _⟩ dX4_leastAt_41)))
theorem q_X4_isOnOrAbove : yX4_isOnOrAbove.cls = RX4 ∧ yX4_isOnOrAbove.cls ≠ "java/lang/invoke/MethodHandle" ∧ yX4_isOnOrAbove.cls ≠ "java/lang/invoke/VarHandle" ∧ (parseMethodDescriptor yX4_isOnOrAbove.desc).map (fun d => d.parameters.length) = some 3 := by decide +kernel
set_option maxRecDepth 20000 in
set_option maxHeartbeats 4000000 in
theorem t_X4_isOnOrAbove (l : Launch) (hfl : l.stackTraces = false) : z_CT l yX4_isOnOrAbove wsX4_isOnOrAbove 4 1 12 0 0 false m_X4_isOnOrAbove := by
  refine z_CT.vm (z_CT.of hfl (jL := 99) (cc := cX4_isOnOrAbove) (nL := 5) (rt := (some .boolean)) (by decide +kernel) rfl (by decide) 0 0 ?_)
  intro p e s m args below meth c base D dT o hf C0
  have C : z_Cx p l s m args meth c base cX4_isOnOrAbove 5 RX4 wsX4_isOnOrAbove (some .boolean) [] := C0
  have hinX4 : ∀ w ∈ u_ws RX4 TX4 1, w ∈ wsX4_isOnOrAbove := by decide +kernel
  have hf9 : Cond.fieldLink RX4 9 "Amoebary$Polynomial" "coefficients" "[I" ∈ wsX4_isOnOrAbove := by decide +kernel
  exact xS_seq (xS_set (xE_e2 (n := 1) (xE_e2 (n := 1) (xE_ld (xE_fR (z_aload_n (pc := 0) C dX4_isOnOrAbove_0 rfl) (z_get (pc := 1) C (CC := RX4) (TT := TX4) (N := 1) 0 hinX4 rfl (by decide) hf9 rfl dX4_isOnOrAbove_1)) (z_iload_n (pc := 4) C dX4_isOnOrAbove_4 rfl) (z_iald (pc := 5) C dX4_isOnOrAbove_5)) (fun _ => Nat.le_refl 1) (xE_e2 (n := 1) (z_iload_n (pc := 6) C dX4_isOnOrAbove_6 rfl) (fun _ => Nat.le_refl 1) (z_iload_n (pc := 7) C dX4_isOnOrAbove_7 rfl) (z_isub (pc := 8) C dX4_isOnOrAbove_8)) (z_imul (pc := 9) C dX4_isOnOrAbove_9)) (fun _ => Nat.le_refl 1) (xE_e2 (n := 1) (xE_ld (xE_fR (z_aload_n (pc := 10) C dX4_isOnOrAbove_10 rfl) (z_get (pc := 11) C (CC := RX4) (TT := TX4) (N := 1) 0 hinX4 rfl (by decide) hf9 rfl dX4_isOnOrAbove_11)) (z_iload_n (pc := 14) C dX4_isOnOrAbove_14 rfl) (z_iald (pc := 15) C dX4_isOnOrAbove_15)) (fun _ => Nat.le_refl 1) (xE_e2 (n := 1) (z_iload_n (pc := 16) C dX4_isOnOrAbove_16 rfl) (fun _ => Nat.le_refl 1) (z_iload_n (pc := 17) C dX4_isOnOrAbove_17 rfl) (z_isub (pc := 18) C dX4_isOnOrAbove_18)) (z_imul (pc := 19) C dX4_isOnOrAbove_19)) (z_iadd (pc := 20) C dX4_isOnOrAbove_20)) ((z_istore (pc := 21) C dX4_isOnOrAbove_21 (by decide) (by decide))))
    (xS_ret (xE_b (xB_cmp (xE_e2 (n := 1) (xE_ld (xE_fR (z_aload_n (pc := 23) C dX4_isOnOrAbove_23 rfl) (z_get (pc := 24) C (CC := RX4) (TT := TX4) (N := 1) 0 hinX4 rfl (by decide) hf9 rfl dX4_isOnOrAbove_24)) (z_iload_n (pc := 27) C dX4_isOnOrAbove_27 rfl) (z_iald (pc := 28) C dX4_isOnOrAbove_28)) (fun _ => Nat.le_refl 1) (xE_e2 (n := 1) (z_iload_n (pc := 29) C dX4_isOnOrAbove_29 rfl) (fun _ => Nat.le_refl 1) (z_iload_n (pc := 30) C dX4_isOnOrAbove_30 rfl) (z_isub (pc := 31) C dX4_isOnOrAbove_31)) (z_imul (pc := 32) C dX4_isOnOrAbove_32)) (z_iload (pc := 33) C dX4_isOnOrAbove_33) (z_icmp_ltN (pc := 35) (tgt := 42) C dX4_isOnOrAbove_35 (by decide))) (z_push (pc := 38) C dX4_isOnOrAbove_38) (z_goto (pc := 39) (tgt := 43) C dX4_isOnOrAbove_39 (by decide)) (z_push (pc := 42) C dX4_isOnOrAbove_42)) (z_retB (pc := 43) C ⟨Nat.zero_le _, Nat.zero_le _⟩ dX4_isOnOrAbove_43))
theorem q_X4_hasSpare : yX4_hasSpare.cls = RX4 ∧ yX4_hasSpare.cls ≠ "java/lang/invoke/MethodHandle" ∧ yX4_hasSpare.cls ≠ "java/lang/invoke/VarHandle" ∧ (parseMethodDescriptor yX4_hasSpare.desc).map (fun d => d.parameters.length) = some 1 := by decide +kernel
set_option maxRecDepth 20000 in
set_option maxHeartbeats 4000000 in
theorem t_X4_hasSpare (l : Launch) (hfl : l.stackTraces = false) : z_CT l yX4_hasSpare wsX4_hasSpare 2 2 36 0 0 false m_X4_hasSpare := by
  refine z_CT.vm (z_CT.of hfl (jL := 99) (cc := cX4_hasSpare) (nL := 4) (rt := (some .boolean)) (by decide +kernel) rfl (by decide) 0 0 ?_)
  intro p e s m args below meth c base D dT o hf C0
  have C : z_Cx p l s m args meth c base cX4_hasSpare 4 RX4 wsX4_hasSpare (some .boolean) [] := C0
  exact xS_seq (xS_if (xB_not (xB_v (xE_clB (xA_s (fun _ => rfl) (xA_s (fun _ => rfl) (xA_n) (z_aload_n (pc := 0) C dX4_hasSpare_0 rfl)) (z_iload_n (pc := 1) C dX4_hasSpare_1 rfl)) (z_cV (pc := 2) C (fun _ _ => ⟨rfl, rfl⟩) ⟨Nat.zero_le _, Nat.zero_le _⟩ (t_X4_hasTerm l hfl) (ci := 4) (CC := RX4) rfl gX4_hasSpare_X4_hasTerm rfl q_X4_hasTerm ⟨by decide, by decide⟩ (by decide) dX4_hasSpare_2)) (z_b_ne (pc := 5) (tgt := 10) C dX4_hasSpare_5 (by decide)))) (xS_ret (z_bconst (b := false) (pc := 8) C rfl dX4_hasSpare_8) (z_retB (pc := 9) C ⟨Nat.zero_le _, Nat.zero_le _⟩ dX4_hasSpare_9)) jG_id xS_nop)
    (xS_seq (xS_seq (xS_set (z_iconst (pc := 10) C dX4_hasSpare_10) ((z_istore_n (pc := 11) C dX4_hasSpare_11 rfl (by decide) (by decide)))) (xS_lp (xB_cmp (z_iload_n (pc := 12) C dX4_hasSpare_12 rfl) (z_iload_n (pc := 13) C dX4_hasSpare_13 rfl) (z_icmp_geN (pc := 14) (tgt := 67) C dX4_hasSpare_14 (by decide)))
    (xS_seq (xS_set (xE_e2 (n := 1) (z_iload_n (pc := 17) C dX4_hasSpare_17 rfl) (fun _ => Nat.le_refl 1) (z_iconst (pc := 18) C dX4_hasSpare_18) (z_iadd (pc := 19) C dX4_hasSpare_19)) ((z_istore_n (pc := 20) C dX4_hasSpare_20 rfl (by decide) (by decide)))) (xS_lp (xB_cmp (z_iload_n (pc := 21) C dX4_hasSpare_21 rfl) (z_bipush (pc := 22) C dX4_hasSpare_22 (by decide +kernel)) (z_icmp_geN (pc := 24) (tgt := 61) C dX4_hasSpare_24 (by decide)))
    (xS_if (xB_and (xB_and (xB_v (xE_clB (xA_s (fun _ => rfl) (xA_s (fun _ => rfl) (xA_n) (z_aload_n (pc := 27) C dX4_hasSpare_27 rfl)) (z_iload_n (pc := 28) C dX4_hasSpare_28 rfl)) (z_cV (pc := 29) C (fun _ _ => ⟨rfl, rfl⟩) ⟨Nat.zero_le _, Nat.zero_le _⟩ (t_X4_hasTerm l hfl) (ci := 4) (CC := RX4) rfl gX4_hasSpare_X4_hasTerm rfl q_X4_hasTerm ⟨by decide, by decide⟩ (by decide) dX4_hasSpare_29)) (z_b_eq (pc := 32) (tgt := 55) C dX4_hasSpare_32 (by decide))) (xB_v (xE_clB (xA_s (fun _ => rfl) (xA_s (fun _ => rfl) (xA_n) (z_aload_n (pc := 35) C dX4_hasSpare_35 rfl)) (z_iload_n (pc := 36) C dX4_hasSpare_36 rfl)) (z_cV (pc := 37) C (fun _ _ => ⟨rfl, rfl⟩) ⟨Nat.zero_le _, Nat.zero_le _⟩ (t_X4_hasTerm l hfl) (ci := 4) (CC := RX4) rfl gX4_hasSpare_X4_hasTerm rfl q_X4_hasTerm ⟨by decide, by decide⟩ (by decide) dX4_hasSpare_37)) (z_b_eq (pc := 40) (tgt := 55) C dX4_hasSpare_40 (by decide)))) (xB_v (xE_clB (xA_s (fun _ => rfl) (xA_s (fun _ => rfl) (xA_s (fun _ => rfl) (xA_s (fun _ => rfl) (xA_n) (z_aload_n (pc := 43) C dX4_hasSpare_43 rfl)) (z_iload_n (pc := 44) C dX4_hasSpare_44 rfl)) (z_iload_n (pc := 45) C dX4_hasSpare_45 rfl)) (z_iload_n (pc := 46) C dX4_hasSpare_46 rfl)) (z_cV (pc := 47) C (fun _ _ => ⟨rfl, rfl⟩) ⟨Nat.zero_le _, Nat.zero_le _⟩ (t_X4_isOnOrAbove l hfl) (ci := 4) (CC := RX4) rfl gX4_hasSpare_X4_isOnOrAbove rfl q_X4_isOnOrAbove ⟨by decide, by decide⟩ (by decide) dX4_hasSpare_47)) (z_b_eq (pc := 50) (tgt := 55) C dX4_hasSpare_50 (by decide)))) (xS_ret (z_bconst (b := true) (pc := 53) C rfl dX4_hasSpare_53) (z_retB (pc := 54) C ⟨Nat.zero_le _, Nat.zero_le _⟩ dX4_hasSpare_54)) jG_id xS_nop)
    (xS_inc (z_inc (pc := 55) C dX4_hasSpare_55 (by decide) (by decide))) (z_goto (pc := 58) (tgt := 21) C dX4_hasSpare_58 (by decide))))
    (xS_inc (z_inc (pc := 61) C dX4_hasSpare_61 (by decide) (by decide))) (z_goto (pc := 64) (tgt := 12) C dX4_hasSpare_64 (by decide))))
    (xS_ret (z_bconst (b := false) (pc := 67) C rfl dX4_hasSpare_67) (z_retB (pc := 68) C ⟨Nat.zero_le _, Nat.zero_le _⟩ dX4_hasSpare_68)))
theorem q_X4_hasCorner : yX4_hasCorner.cls = RX4 ∧ yX4_hasCorner.cls ≠ "java/lang/invoke/MethodHandle" ∧ yX4_hasCorner.cls ≠ "java/lang/invoke/VarHandle" ∧ (parseMethodDescriptor yX4_hasCorner.desc).map (fun d => d.parameters.length) = some 1 := by decide +kernel
set_option maxRecDepth 20000 in
set_option maxHeartbeats 4000000 in
theorem t_X4_hasCorner (l : Launch) (hfl : l.stackTraces = false) : z_CT l yX4_hasCorner wsX4_hasCorner 2 3 59 0 0 false m_X4_hasCorner := by
  refine z_CT.vm (z_CT.of hfl (jL := 99) (cc := cX4_hasCorner) (nL := 2) (rt := (some .boolean)) (by decide +kernel) rfl (by decide) 0 0 ?_)
  intro p e s m args below meth c base D dT o hf C0
  have C : z_Cx p l s m args meth c base cX4_hasCorner 2 RX4 wsX4_hasCorner (some .boolean) [] := C0
  exact xS_ret (xE_b (xB_and (xB_v (xE_clB (xA_s (fun _ => rfl) (xA_s (fun _ => rfl) (xA_n) (z_aload_n (pc := 0) C dX4_hasCorner_0 rfl)) (z_iload_n (pc := 1) C dX4_hasCorner_1 rfl)) (z_cV (pc := 2) C (fun _ _ => ⟨rfl, rfl⟩) ⟨Nat.zero_le _, Nat.zero_le _⟩ (t_X4_hasTerm l hfl) (ci := 4) (CC := RX4) rfl gX4_hasCorner_X4_hasTerm rfl q_X4_hasTerm ⟨by decide, by decide⟩ (by decide) dX4_hasCorner_2)) (z_b_eq (pc := 5) (tgt := 20) C dX4_hasCorner_5 (by decide))) (xB_not (xB_v (xE_clB (xA_s (fun _ => rfl) (xA_s (fun _ => rfl) (xA_n) (z_aload_n (pc := 8) C dX4_hasCorner_8 rfl)) (z_iload_n (pc := 9) C dX4_hasCorner_9 rfl)) (z_cV (pc := 10) C (fun _ _ => ⟨rfl, rfl⟩) ⟨Nat.zero_le _, Nat.zero_le _⟩ (t_X4_hasSpare l hfl) (ci := 4) (CC := RX4) rfl gX4_hasCorner_X4_hasSpare rfl q_X4_hasSpare ⟨by decide, by decide⟩ (by decide) dX4_hasCorner_10)) (z_b_ne (pc := 13) (tgt := 20) C dX4_hasCorner_13 (by decide))))) (z_push (pc := 16) C dX4_hasCorner_16) (z_goto (pc := 17) (tgt := 21) C dX4_hasCorner_17 (by decide)) (z_push (pc := 20) C dX4_hasCorner_20)) (z_retB (pc := 21) C ⟨Nat.zero_le _, Nat.zero_le _⟩ dX4_hasCorner_21)
theorem q_X4_countGaps : yX4_countGaps.cls = RX4 ∧ yX4_countGaps.cls ≠ "java/lang/invoke/MethodHandle" ∧ yX4_countGaps.cls ≠ "java/lang/invoke/VarHandle" ∧ (parseMethodDescriptor yX4_countGaps.desc).map (fun d => d.parameters.length) = some 0 := by decide +kernel
set_option maxRecDepth 20000 in
set_option maxHeartbeats 4000000 in
theorem t_X4_countGaps (l : Launch) (hfl : l.stackTraces = false) : z_CT l yX4_countGaps wsX4_countGaps 1 4 80 0 0 false m_X4_countGaps := by
  refine z_CT.vm (z_CT.of hfl (jL := 99) (cc := cX4_countGaps) (nL := 3) (rt := (some .int)) (by decide +kernel) rfl (by decide) 0 0 ?_)
  intro p e s m args below meth c base D dT o hf C0
  have C : z_Cx p l s m args meth c base cX4_countGaps 3 RX4 wsX4_countGaps (some .int) [] := C0
  have hmmax0 : Cond.methodLink RX4 42 Lib.Math.max.name ∈ wsX4_countGaps := by decide +kernel
  have hmmax1 : Cond.static Lib.Math.max.name ∈ wsX4_countGaps := by decide +kernel
  have hmmax2 : Cond.initialized "java/lang/Math" ∈ wsX4_countGaps := by decide +kernel
  have hmmax3 : Cond.code Lib.Math.max.name Lib.Math.max.code 2 (some .int) ∈ wsX4_countGaps := by decide +kernel
  exact xS_seq (xS_set (z_iconst (pc := 0) C dX4_countGaps_0) ((z_istore_n (pc := 1) C dX4_countGaps_1 rfl (by decide) (by decide))))
    (xS_seq (xS_seq (xS_set (z_iconst (pc := 2) C dX4_countGaps_2) ((z_istore_n (pc := 3) C dX4_countGaps_3 rfl (by decide) (by decide)))) (xS_lp (xB_cmp (z_iload_n (pc := 4) C dX4_countGaps_4 rfl) (z_bipush (pc := 5) C dX4_countGaps_5 (by decide +kernel)) (z_icmp_geN (pc := 7) (tgt := 27) C dX4_countGaps_7 (by decide)))
    (xS_if (xB_v (xE_clB (xA_s (fun _ => rfl) (xA_s (fun _ => rfl) (xA_n) (z_aload_n (pc := 10) C dX4_countGaps_10 rfl)) (z_iload_n (pc := 11) C dX4_countGaps_11 rfl)) (z_cV (pc := 12) C (fun _ _ => ⟨rfl, rfl⟩) ⟨Nat.zero_le _, Nat.zero_le _⟩ (t_X4_hasCorner l hfl) (ci := 4) (CC := RX4) rfl gX4_countGaps_X4_hasCorner rfl q_X4_hasCorner ⟨by decide, by decide⟩ (by decide) dX4_countGaps_12)) (z_b_eq (pc := 15) (tgt := 21) C dX4_countGaps_15 (by decide))) (xS_inc (z_inc (pc := 18) C dX4_countGaps_18 (by decide) (by decide))) jG_id xS_nop)
    (xS_inc (z_inc (pc := 21) C dX4_countGaps_21 (by decide) (by decide))) (z_goto (pc := 24) (tgt := 4) C dX4_countGaps_24 (by decide))))
    (xS_ret (xE_cl (xA_s (fun _ => rfl) (xA_s (fun _ => rfl) (xA_n) (z_iconst (pc := 27) C dX4_countGaps_27)) (xE_e2 (n := 1) (z_iload_n (pc := 28) C dX4_countGaps_28 rfl) (fun _ => Nat.le_refl 1) (z_iconst (pc := 29) C dX4_countGaps_29) (z_isub (pc := 30) C dX4_countGaps_30))) (z_cMax (pc := 31) C ⟨Nat.zero_le _, Nat.zero_le _⟩ hmmax0 hmmax1 hmmax2 hmmax3 ⟨Nat.le_of_ble_eq_true rfl, Nat.le_of_ble_eq_true rfl⟩ (by decide) dX4_countGaps_31)) (z_retI (pc := 34) C ⟨Nat.zero_le _, Nat.zero_le _⟩ dX4_countGaps_34)))
theorem q_X4_cornerBelow : yX4_cornerBelow.cls = RX4 ∧ yX4_cornerBelow.cls ≠ "java/lang/invoke/MethodHandle" ∧ yX4_cornerBelow.cls ≠ "java/lang/invoke/VarHandle" ∧ (parseMethodDescriptor yX4_cornerBelow.desc).map (fun d => d.parameters.length) = some 1 := by decide +kernel
set_option maxRecDepth 20000 in
set_option maxHeartbeats 4000000 in
theorem t_X4_cornerBelow (l : Launch) (hfl : l.stackTraces = false) : z_CT l yX4_cornerBelow wsX4_cornerBelow 2 4 80 0 0 false m_X4_cornerBelow := by
  refine z_CT.vm (z_CT.of hfl (jL := 99) (cc := cX4_cornerBelow) (nL := 3) (rt := (some .int)) (by decide +kernel) rfl (by decide) 0 0 ?_)
  intro p e s m args below meth c base D dT o hf C0
  have C : z_Cx p l s m args meth c base cX4_cornerBelow 3 RX4 wsX4_cornerBelow (some .int) [] := C0
  have hmmin0 : Cond.methodLink RX4 26 Lib.Math.min.name ∈ wsX4_cornerBelow := by decide +kernel
  have hmmin1 : Cond.static Lib.Math.min.name ∈ wsX4_cornerBelow := by decide +kernel
  have hmmin2 : Cond.initialized "java/lang/Math" ∈ wsX4_cornerBelow := by decide +kernel
  have hmmin3 : Cond.code Lib.Math.min.name Lib.Math.min.code 2 (some .int) ∈ wsX4_cornerBelow := by decide +kernel
  exact xS_seq (xS_seq (xS_set (xE_e2 (n := 1) (xE_cl (xA_s (fun _ => rfl) (xA_s (fun _ => rfl) (xA_n) (z_iload_n (pc := 0) C dX4_cornerBelow_0 rfl)) (z_bipush (pc := 1) C dX4_cornerBelow_1 (by decide +kernel))) (z_cMin (pc := 3) C ⟨Nat.zero_le _, Nat.zero_le _⟩ hmmin0 hmmin1 hmmin2 hmmin3 ⟨Nat.le_of_ble_eq_true rfl, Nat.le_of_ble_eq_true rfl⟩ (by decide) dX4_cornerBelow_3)) (fun _ => Nat.le_refl 1) (z_iconst (pc := 6) C dX4_cornerBelow_6) (z_isub (pc := 7) C dX4_cornerBelow_7)) ((z_istore_n (pc := 8) C dX4_cornerBelow_8 rfl (by decide) (by decide)))) (xS_lp (xB_cmp0 (z_iload_n (pc := 9) C dX4_cornerBelow_9 rfl) (z_if_ltN (pc := 10) (tgt := 29) C dX4_cornerBelow_10 (by decide)))
    (xS_if (xB_v (xE_clB (xA_s (fun _ => rfl) (xA_s (fun _ => rfl) (xA_n) (z_aload_n (pc := 13) C dX4_cornerBelow_13 rfl)) (z_iload_n (pc := 14) C dX4_cornerBelow_14 rfl)) (z_cV (pc := 15) C (fun _ _ => ⟨rfl, rfl⟩) ⟨Nat.zero_le _, Nat.zero_le _⟩ (t_X4_hasCorner l hfl) (ci := 4) (CC := RX4) rfl gX4_cornerBelow_X4_hasCorner rfl q_X4_hasCorner ⟨by decide, by decide⟩ (by decide) dX4_cornerBelow_15)) (z_b_eq (pc := 18) (tgt := 23) C dX4_cornerBelow_18 (by decide))) (xS_ret (z_iload_n (pc := 21) C dX4_cornerBelow_21 rfl) (z_retI (pc := 22) C ⟨Nat.zero_le _, Nat.zero_le _⟩ dX4_cornerBelow_22)) jG_id xS_nop)
    (xS_inc (z_inc (pc := 23) C dX4_cornerBelow_23 (by decide) (by decide))) (z_goto (pc := 26) (tgt := 9) C dX4_cornerBelow_26 (by decide))))
    (xS_ret (z_iconst (pc := 29) C dX4_cornerBelow_29) (z_retI (pc := 30) C ⟨Nat.zero_le _, Nat.zero_le _⟩ dX4_cornerBelow_30))
