/-! THE FACE: graph: what is counted -/
section GR
variable {S : Nat → Nat → Int}
theorem rAe_sm (S : Nat → Nat → Int) : rAe (S 98) 25 = nSm (rE S) 5 := by
  simp only [nSm, nAll_5, s5, rE, rAe, Nat.mul_zero, Nat.zero_add, Nat.mul_one, Nat.add_zero, Nat.reduceAdd, Nat.reduceMul]
  omega
theorem rf_allE (I : kInv S) {T : Nat → Nat → Int} (e : T 98 = S 98) : m_X6_allEdges [vR 85] (k_W T) = some (.inl (some (vI (nEd (kF S 10 5)))), k_W T) := by
  have b := nSm_b I.g'.bd 5 (by omega)
  have w := rf_allEdges (S := T) (by rw [rAe_sm, rE_e e]; omega)
  rw [rAe_sm, rE_e e] at w
  rw [w, nEd_cg I.sm]
  rfl
theorem rf_vs (I : kInv S) {T : Nat → Nat → Int} (e : T 98 = S 98) : m_X6_vertices [vR 85] (k_W T) = some (.inl (some (vI (z_cnt (fun v => z_dec (nHv (kF S 10 5) v)) 5))), k_W T) := by
  have w := rf_vertices (S := T) (by rw [rE_e e]; exact I.g'.bd)
  rw [rE_e e] at w
  rw [w, nVs_cg I.sm]
end GR
