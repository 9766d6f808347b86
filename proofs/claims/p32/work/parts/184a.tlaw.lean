/-! printed by wip/p32/gen: that the bytecode does what the functions say -/
noncomputable def s_L_isReduced_57 : z_St :=
    sSet vB 5 (bAnd (eLB 5) (bOr (bCmp cEq (eL 6) (eL 1)) (bCmp cGe (eLd 0 (eLR 3) (eL 6)) (eC 0))))
noncomputable def s_L_isReduced_48 : z_St :=
    sSeq (sSet vI 4 (e2 oAdd (eL 4) (eLd 0 (eLR 3) (eL 6))))
    (s_L_isReduced_57)
noncomputable def s_L_isReduced_31 : z_St :=
    sSeq (sASt 0 (eLR 3) (eL 6) (eIf (bCmp cEq (eL 7) (eC (-70008))) (eC 0) (eL 7)))
    (s_L_isReduced_48)
noncomputable def bb_L_isReduced : z_Ev Bool := bCmp cLt (eL 6) (eC 5)
noncomputable def bs_L_isReduced : z_St :=
    sSeq (sSet vI 7 (eCl (m_L_asks) (aS vI (aS vI (aS vI (aS vI (aS vR (aN) (eLR 0)) (eC 7)) (eL 1)) (eL 6)) (eC 0))))
    (s_L_isReduced_31)
noncomputable def b_L_isReduced : z_St := sSeq (sSet vI 4 (eC 0)) (sSeq (sSet vB 5 (eCB true)) (sSeq (sSeq (sSet vI 6 (eC 0)) (sLoop bb_L_isReduced bs_L_isReduced (sInc 6 (1)) z_fuel)) (sRet vB (bAnd (eLB 5) (bCmp cEq (eL 4) (eL 2))))))
noncomputable def m_L_isReduced : z_Mt := z_bodyN 8 3 5 b_L_isReduced
def cn_L_isReduced : Nat → Nat := fun pc => if pc ≤ 87 then 1 else 6
def cj_L_isReduced (j : Nat) : Nat → Nat := fun pc => if pc ≤ 26 then j + 1 else j + 2
theorem q_L_isReduced : yL_isReduced.cls ≠ "java/lang/invoke/MethodHandle" ∧ yL_isReduced.cls ≠ "java/lang/invoke/VarHandle" ∧ (parseMethodDescriptor yL_isReduced.desc).map (fun d => d.parameters.length) = some 3 := by decide +kernel
theorem bs_keep : zKp 6 bs_L_isReduced := zKp.seq (zKp.set (by decide)) (zKp.seq zKp.ast (zKp.seq (zKp.set (by decide)) (zKp.set (by decide))))
set_option maxRecDepth 20000 in
set_option maxHeartbeats 4000000 in
theorem t_L_isReduced {sc : List Int} (l : Launch) (hfl : l.stackTraces = false) : z_CL sc l yL_isReduced wsL_isReduced 3 13 309 6 m_L_isReduced := by
  refine z_CL.ofN hfl (jL := 99) (kk := 3) (i := 3) (N := 5) (cc := cL_isReduced) (nL := 8) (rt := (some .boolean)) (by decide +kernel) rfl (by decide) (by decide) (by decide) (by decide) (by decide +kernel) rfl dL_isReduced_0 dL_isReduced_1 dL_isReduced_3 (by decide) (by decide) 99999 99999 cn_L_isReduced rfl ?_
  intro p e s m args below meth c base D dT r0 hf C0 hsc
  have C : z_Cx p l s m args meth c base cL_isReduced 8 RL wsL_isReduced (some .boolean) [] := C0
  have hc52 : Cond.constant RL 52 (Int32.ofInt (-70008)) ∈ wsL_isReduced := by decide +kernel
  have hS : ∀ j, j < 5 → xS (z_Kc p l e (z_R 13 309 6 (6 * 6) (.inl r0)) s m args below meth c base D dT 99 8 (z_Qm below base D dT (.inl r0) hf args s 6 (6 * 6)) (cj_L_isReduced j)) z_kF (z_KR (.inl r0) hf) bs_L_isReduced 19 82 88 := fun j hj =>
    xS_seq (xS_set (xE_cl (xA_s (fun _ => rfl) (xA_s (fun _ => rfl) (xA_s (fun _ => rfl) (xA_s (fun _ => rfl) (xA_s (fun _ => rfl) (xA_n) (up_E (zle_out (k := j + 1) (Nat.le_refl _)) (zle_in (k := j + 1) (Nat.le_refl _)) (z_aload_n (pc := 19) C dL_isReduced_19 rfl))) (up_E (zle_out (k := j + 1) (Nat.le_refl _)) (zle_in (k := j + 1) (Nat.le_refl _)) (z_bipush (pc := 20) C dL_isReduced_20 (by decide +kernel)))) (up_E (zle_out (k := j + 1) (Nat.le_refl _)) (zle_in (k := j + 1) (Nat.le_refl _)) (z_iload_n (pc := 22) C dL_isReduced_22 rfl))) (up_E (zle_out (k := j + 1) (Nat.le_refl _)) (zle_in (k := j + 1) (Nat.le_refl _)) (z_iload (pc := 23) C dL_isReduced_23))) (up_E (zle_out (k := j + 1) (Nat.le_refl _)) (zle_in (k := j + 1) (Nat.le_refl _)) (z_iconst (pc := 25) C dL_isReduced_25))) (z_cSc (k := j + 1) (c' := 1) rfl (Nat.le_refl _) (z_cSqA (pc := 26) C hsc (t_L_asks l hfl) gL_isReduced_L_asks rfl q_L_asks ⟨(Nat.le_of_ble_eq_true rfl), (Nat.le_of_ble_eq_true rfl)⟩ ⟨(by show j + 1 + 1 ≤ 6; omega), (by show 6 * (j + 1) + 6 * 1 ≤ 36; omega)⟩ (by decide) dL_isReduced_26))) (up_st (zle_out (k := j + 2) (Nat.le_refl _)) (zle_in (k := j + 2) (Nat.le_refl _)) ((z_istore (pc := 29) C dL_isReduced_29 (by decide) (by decide)))))
    (xS_seq (up_S (zle_out (k := j + 2) (Nat.le_refl _)) (zle_in (k := j + 2) (Nat.le_refl _)) (zle_in (k := j + 2) (Nat.le_refl _)) (xS_ast (z_aload_n (pc := 31) C dL_isReduced_31 rfl) (z_iload (pc := 32) C dL_isReduced_32) (xE_if (xB_cmp (z_iload (pc := 34) C dL_isReduced_34) (z_ldc (x := (-70008)) (pc := 36) C hc52 dL_isReduced_36) (z_icmp_neN (pc := 38) (tgt := 45) C dL_isReduced_38 (by decide))) (z_iconst (pc := 41) C dL_isReduced_41) (z_goto (pc := 42) (tgt := 47) C dL_isReduced_42 (by decide)) (z_iload (pc := 45) C dL_isReduced_45)) (z_iast (pc := 47) C dL_isReduced_47)))
    (xS_seq (up_S (zle_out (k := j + 2) (Nat.le_refl _)) (zle_in (k := j + 2) (Nat.le_refl _)) (zle_in (k := j + 2) (Nat.le_refl _)) (xS_set (xE_e2 (n := 1) (z_iload (pc := 48) C dL_isReduced_48) (fun _ => Nat.le_refl 1) (xE_ld (z_aload_n (pc := 50) C dL_isReduced_50 rfl) (z_iload (pc := 51) C dL_isReduced_51) (z_iald (pc := 53) C dL_isReduced_53)) (z_iadd (pc := 54) C dL_isReduced_54)) ((z_istore (pc := 55) C dL_isReduced_55 (by decide) (by decide)))))
    (up_S (zle_out (k := j + 2) (Nat.le_refl _)) (zle_in (k := j + 2) (Nat.le_refl _)) (zle_in (k := j + 2) (Nat.le_refl _)) (xS_set (xE_b (xB_and (xB_v (z_bload (pc := 57) C dL_isReduced_57) (z_b_eq (pc := 59) (tgt := 79) C dL_isReduced_59 (by decide))) (xB_or (xB_cmp (z_iload (pc := 62) C dL_isReduced_62) (z_iload_n (pc := 64) C dL_isReduced_64 rfl) (z_icmp_eq (pc := 65) (tgt := 75) C dL_isReduced_65 (by decide))) (xB_cmp0 (xE_ld (z_aload_n (pc := 68) C dL_isReduced_68 rfl) (z_iload (pc := 69) C dL_isReduced_69) (z_iald (pc := 71) C dL_isReduced_71)) (z_if_ltN (pc := 72) (tgt := 79) C dL_isReduced_72 (by decide))))) (z_push (pc := 75) C dL_isReduced_75) (z_goto (pc := 76) (tgt := 80) C dL_isReduced_76 (by decide)) (z_push (pc := 79) C dL_isReduced_79)) ((fun h ρ b => z_istore (pc := 80) C dL_isReduced_80 (by decide) (by decide) h ρ _))))))
  have hloop : xS (z_Kc p l e (z_R 13 309 6 (6 * 6) (.inl r0)) s m args below meth c base D dT 99 8 (z_Qm below base D dT (.inl r0) hf args s 6 (6 * 6)) cn_L_isReduced) z_kF (z_KR (.inl r0) hf) (sSeq (sSet vI 6 (eC 0)) (sLoop bb_L_isReduced bs_L_isReduced (sInc 6 (1)) z_fuel)) 10 88 99999 := xS.of fun ρ h o h' e9 k1 k2 k3 k4 => by
    have e8 : sLoop bb_L_isReduced bs_L_isReduced (sInc 6 (1)) z_fuel (ρ.set 6 (vI 0)) h = some (o, h') := e9
    have hI : xS (z_K p l e (z_R 13 309 6 (6 * 6) (.inl r0)) s m args below meth c base D dT 99 8 (z_Qm below base D dT (.inl r0) hf args s 6 (6 * 6)) 1 (6 * 1)) z_kF (z_KR (.inl r0) hf) (sSet vI 6 (eC 0)) 10 13 99999 := xS_set (z_iconst (pc := 10) C dL_isReduced_10) ((z_istore (pc := 11) C dL_isReduced_11 (by decide) (by decide)))
    refine (hI ρ h).1 _ _ rfl ?_
    have hi : (ρ.set 6 (vI 0))[6]? = some (vI ((0 : Nat) : Int)) := by
      obtain ⟨v, h1, e7⟩ := sLoop_in e8
      obtain ⟨x, hx⟩ := bCmp_in e7
      rw [List.getElem?_set] at hx ⊢
      split at hx
      · split at hx
        · next q => rw [if_pos rfl, if_pos q]; rfl
        · cases hx
      · next q => exact absurd rfl q
    exact xS_count (N := 5) (Kf := fun j => z_K p l e (z_R 13 309 6 (6 * 6) (.inl r0)) s m args below meth c base D dT 99 8 (z_Qm below base D dT (.inl r0) hf args s 6 (6 * 6)) (j + 1) (6 * (j + 1))) (fun ρ h h' e7 => bCmp_lt e7) (bs_keep) (fun j hj => z_mono (by omega) (by omega) 88) (fun j hj => z_mono (by omega) (by omega) 88) (fun j hj => xB_cmp (z_iload (pc := 13) C dL_isReduced_13) (z_iconst (pc := 15) C dL_isReduced_15) (z_icmp_geN (pc := 16) (tgt := 88) C dL_isReduced_16 (by decide))) (fun j hj ρ h => hS j hj ρ h) (fun j hj => (xS_inc (z_inc (pc := 82) C dL_isReduced_82 (by decide) (by decide)) : xS _ _ _ _ _ _ 99999)) (fun j hj => z_goto (pc := 85) (tgt := 13) C dL_isReduced_85 (by decide)) z_fuel 0 _ _ o h' (by decide) hi e8 k1 k3 k4
  exact xS_seq (up_S (zle_out (k := 1) (Nat.le_of_ble_eq_true rfl)) (zle_in (k := 1) (Nat.le_of_ble_eq_true rfl)) (zle_in (k := 1) (Nat.le_of_ble_eq_true rfl)) (xS_set (z_iconst (pc := 4) C dL_isReduced_4) ((z_istore (pc := 5) C dL_isReduced_5 (by decide) (by decide))))) (xS_seq (up_S (zle_out (k := 1) (Nat.le_of_ble_eq_true rfl)) (zle_in (k := 1) (Nat.le_of_ble_eq_true rfl)) (zle_in (k := 1) (Nat.le_of_ble_eq_true rfl)) (xS_set (z_bconst (b := true) (pc := 7) C rfl dL_isReduced_7) ((fun h ρ b => z_istore (pc := 8) C dL_isReduced_8 (by decide) (by decide) h ρ _)))) (xS_seq hloop (up_S (zle_out (k := 6) (Nat.le_of_ble_eq_true rfl)) (zle_in (k := 6) (Nat.le_of_ble_eq_true rfl)) (zle_in (k := 6) (Nat.le_of_ble_eq_true rfl)) (xS_ret (xE_b (xB_and (xB_v (z_bload (pc := 88) C dL_isReduced_88) (z_b_eq (pc := 90) (tgt := 103) C dL_isReduced_90 (by decide))) (xB_cmp (z_iload (pc := 93) C dL_isReduced_93) (z_iload_n (pc := 95) C dL_isReduced_95 rfl) (z_icmp_neN (pc := 96) (tgt := 103) C dL_isReduced_96 (by decide)))) (z_push (pc := 99) C dL_isReduced_99) (z_goto (pc := 100) (tgt := 104) C dL_isReduced_100 (by decide)) (z_push (pc := 103) C dL_isReduced_103)) (z_retB (pc := 104) (k := 6) (n := 6 * 6) C ⟨(Nat.le_of_ble_eq_true rfl), (Nat.le_of_ble_eq_true rfl)⟩ dL_isReduced_104)))))
