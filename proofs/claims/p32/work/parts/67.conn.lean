/-! The graph of both: congruences; what is connected -/
section CG
variable {B B' : Nat → Nat → Int}
abbrev kSm (B B' : Nat → Nat → Int) : Prop := ∀ i j, i < 5 → j < 5 → B i j = B' i j
theorem kSm.sy (e : kSm B B') : kSm B' B := fun i j hi hj => (e i j hi hj).symm
theorem nCe_cg (e : kSm B B') {v : Nat} (hv : v < 5) (s : Int) : ∀ n, n ≤ 5 → nCe B v s n = nCe B' v s n
  | 0, _ => rfl
  | n + 1, hn => by
    unfold nCe
    rw [nCe_cg e hv s n (by omega), e v n hv (by omega)]
theorem nHv_cg (e : kSm B B') {v : Nat} (hv : v < 5) : nHv B v ↔ nHv B' v := by
  unfold nHv nAll
  rw [nCe_cg e hv 31 5 (by omega)]
theorem nSm_cg (e : kSm B B') : ∀ n, n ≤ 5 → nSm B n = nSm B' n
  | 0, _ => rfl
  | n + 1, hn => by
    unfold nSm nAll
    rw [nSm_cg e n (by omega), nCe_cg e (show n < 5 by omega) 31 5 (by omega)]
theorem nEd_cg (e : kSm B B') : nEd B = nEd B' := by
  unfold nEd
  rw [nSm_cg e 5 (by omega)]
theorem nVs_cg (e : kSm B B') : z_cnt (fun v => z_dec (nHv B v)) 5 = z_cnt (fun v => z_dec (nHv B' v)) 5 := z_cnt_cg 5 (fun k hk => z_dec_c _ _ (nHv_cg e hk))
theorem nGn_cg (e : kSm B B') : nGn B = nGn B' := by
  unfold nGn
  rw [nEd_cg e, nVs_cg e]
theorem nDg_bg (e : kSm B B') {V V' : Nat → Int} (hV : ∀ v, v < 5 → nHv B v → V v = V' v) : ∀ n, n ≤ 5 → nDg B V n = nDg B' V' n
  | 0, _ => rfl
  | n + 1, hn => by
    unfold nDg
    rw [nDg_bg e hV n (by omega), ← z_dec_c _ _ (nHv_cg e (show n < 5 by omega))]
    by_cases q : z_dec (nHv B n) = true
    · rw [if_pos q, if_pos q, hV n (by omega) ((z_dec_iff _).mp q)]
    · rw [if_neg q, if_neg q]
theorem nNrV_cg (e : kSm B B') (X : Nat) : ∀ n, n ≤ 5 → nNrV B X n = nNrV B' X n
  | 0, _ => rfl
  | n + 1, hn => by
    unfold nNrV
    rw [nNrV_cg e X n (by omega), nCe_cg e (show n < 5 by omega) (X : Int) 5 (by omega)]
theorem nNr_cg (e : kSm B B') (x : Nat) : ∀ k, nNr B x k = nNr B' x k
  | 0 => rfl
  | k + 1 => by
    unfold nNr
    rw [nNr_cg e x k, nNrV_cg e _ 5 (by omega)]
theorem cFar_bg (e : kSm B B') (q v : Nat) : cFar B q v = cFar B' q v := by
  unfold cFar
  rw [nNr_cg e q 0, nNr_cg e q 1, nNr_cg e q 2, nNr_cg e q 3, nNr_cg e q 4]
theorem gOk_cg (e : kSm B B') (h : gOk B) : gOk B' := fun i j hi hj => by
  rw [← e i j hi hj, ← e j i hj hi]
  exact h i j hi hj
theorem cOk_cg (e : kSm B B') {q : Nat} (h : cOk B q) : cOk B' q := by
  refine ⟨gOk_cg e h.1, h.2.1, (nHv_cg e h.2.1).mp h.2.2.1, fun v hv hn => ?_⟩
  rw [← cFar_bg e]
  exact h.2.2.2 v hv ((nHv_cg e hv).mpr hn)
theorem cL_bg (e : kSm B B') {f : Nat → Int} {v : Nat} (hv : v < 5) : cL B f v = cL B' f v := s5_eq (fun u hu => by rw [e v u hv hu])
theorem hEq_bg (e : kSm B B') {V W : Nat → Int} (h : hEq B V W) : hEq B' V W := by
  obtain ⟨f, hf⟩ := h
  exact ⟨f, fun v hv => by rw [hf v hv, cL_bg e hv]⟩
theorem cRd_bg (e : kSm B B') {q : Nat} {V : Nat → Int} (h : cRd B q V) : cRd B' q V := by
  refine ⟨fun v hv hq hn => h.1 v hv hq ((nHv_cg e hv).mpr hn), fun s hs h1 h2 => h.2 s hs (fun v hv hm => ?_) (fun v hv hm => ?_)⟩
  · have w := h1 v hv hm
    exact ⟨(nHv_cg e hv).mpr w.1, w.2⟩
  · rw [nCe_cg e hv _ 5 (by omega)]
    exact h2 v hv hm
theorem cLf_bg (e : kSm B B') {X : Nat → Int} {x : Int} (h : cLf B X x) : cLf B' X x := by
  obtain ⟨W, h1, h2, h3⟩ := h
  exact ⟨W, hEq_bg e h1, cRd_bg e h2, h3⟩
theorem aOk_bg (e : kSm B B') {i : Nat} {t : Int} {a : Nat → Int} (h : aOk B i t a) : aOk B' i t a := ⟨h.1, h.2.1, fun v hv hn => h.2.2.1 v hv (fun w => hn ((nHv_cg e hv).mp w)), h.2.2.2⟩
theorem rSp_bg (e : kSm B B') {V : Nat → Int} {i : Nat} {t K r : Int} (h : rSp B V i t K r) : rSp B' V i t K r := by
  refine ⟨h.1, fun a x h1 h2 => h.2.1 a x (aOk_bg e.sy h1) (cLf_bg e.sy h2), ?_⟩
  rcases h.2.2 with w | ⟨a, x, h1, h2, h3⟩
  · exact Or.inl w
  · exact Or.inr ⟨a, x, aOk_bg e h1, cLf_bg e h2, h3⟩
theorem rkOf_bg (e : kSm B B') {V : Nat → Int} {r : Int} (h : rkOf B V r) : rkOf B' V r := by
  obtain ⟨W, h1, h2, h3⟩ := h
  refine ⟨W, hEq_bg e h1, cRd_bg e h2, ?_⟩
  rcases h3 with w | ⟨w, h3⟩
  · exact Or.inl w
  · exact Or.inr ⟨w, rSp_bg e h3⟩
/-- what vertices that are not of the graph have does not matter -/
theorem hEq.off (g : gOk B) {V V' W : Nat → Int} (h : hEq B V W) (hV : ∀ v, v < 5 → nHv B v → V' v = V v) (P : Nat → Prop) [DecidablePred P] (hP : ∀ v, v < 5 → (P v ↔ nHv B v)) : hEq B V' (fun v => if P v then W v else V' v) := by
  obtain ⟨f, hf⟩ := h
  refine ⟨f, fun v hv => ?_⟩
  show (if P v then W v else V' v) = V' v - cL B f v
  by_cases c : P v
  · rw [if_pos c, hf v hv, hV v hv ((hP v hv).mp c)]
  · rw [if_neg c, cL_iso g hv (fun w => c ((hP v hv).mpr w))]
    omega
theorem cRd.off {q : Nat} {W W' : Nat → Int} (h : cRd B q W) (hW : ∀ v, v < 5 → nHv B v → W' v = W v) : cRd B q W' := by
  refine ⟨fun v hv hq hn => by rw [hW v hv hn]; exact h.1 v hv hq hn, fun s hs h1 h2 => h.2 s hs h1 (fun v hv hm => ?_)⟩
  rw [← hW v hv (h1 v hv hm).1]
  exact h2 v hv hm
theorem cLf.off (g : gOk B) {X X' : Nat → Int} {x : Int} (h : cLf B X x) (hX : ∀ v, v < 5 → nHv B v → X' v = X v) : cLf B X' x := by
  obtain ⟨W, h1, h2, h3⟩ := h
  have dP : DecidablePred (nHv B) := fun v => Classical.propDecidable _
  refine ⟨_, h1.off g hX (nHv B) (fun v _ => Iff.rfl), h2.off (fun v hv hn => if_pos hn), ?_⟩
  show (if nHv B 0 then W 0 else X' 0) = x
  rw [if_pos (show nHv B 0 from Or.inl rfl)]
  exact h3
theorem rSp.off (g : gOk B) {V V' : Nat → Int} {i : Nat} {t K r : Int} (h : rSp B V i t K r) (hV : ∀ v, v < 5 → nHv B v → V' v = V v) : rSp B V' i t K r := by
  refine ⟨h.1, fun a x h1 h2 => h.2.1 a x h1 (h2.off g (fun v hv hn => by rw [hV v hv hn])), ?_⟩
  rcases h.2.2 with w | ⟨a, x, h1, h2, h3⟩
  · exact Or.inl w
  · exact Or.inr ⟨a, x, h1, h2.off g (fun v hv hn => by rw [hV v hv hn]), h3⟩
theorem rkOf.off (g : gOk B) {V V' : Nat → Int} {r : Int} (h : rkOf B V r) (hV : ∀ v, v < 5 → nHv B v → V' v = V v) : rkOf B V' r := by
  obtain ⟨W, h1, h2, h3⟩ := h
  have dP : DecidablePred (nHv B) := fun v => Classical.propDecidable _
  have e0 : (if nHv B 0 then W 0 else V' 0) = W 0 := if_pos (show nHv B 0 from Or.inl rfl)
  refine ⟨_, h1.off g hV (nHv B) (fun v _ => Iff.rfl), h2.off (fun v hv hn => if_pos hn), ?_⟩
  rw [e0]
  rcases h3 with w | ⟨w, h3⟩
  · exact Or.inl w
  · exact Or.inr ⟨w, h3.off g (fun v hv hn => if_pos hn)⟩
/-- connected: ready for the chips -/
theorem kConn.ok (g : gOk B) (h : ∀ v, v < 5 → nHv B v → iB ((nNr B 0 4 : Nat) : Int) v) : cOk B 0 := ⟨g, by decide, Or.inl rfl, fun v hv hn => (cFar_k (by decide) hv (Nat.le_refl 4)).mp (h v hv hn)⟩
end CG
