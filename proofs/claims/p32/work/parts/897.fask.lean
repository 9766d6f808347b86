/-! THE LAW: ranks asked, a vertex fired -/
section CA
def rkA (Q : Prop) (B : Nat → Nat → Int) (V : Nat → Int) (r : Int) : Prop := (¬ Q ∧ r = -70008) ∨ (Q ∧ 8 < nDg B V 5 ∧ r = -70008) ∨ (Q ∧ nDg B V 5 ≤ 8 ∧ (-1 ≤ r ∧ r ≤ 8) ∧ rkOf B V r)
theorem rkA.n {Q : Prop} {B : Nat → Nat → Int} {V : Nat → Int} {r : Int} (h : rkA Q B V r) (q : ¬ Q) : r = -70008 := by
  rcases h with h | h | h
  · exact h.2
  · exact absurd h.1 q
  · exact absurd h.1 q
theorem rkA.b {Q : Prop} {B : Nat → Nat → Int} {V : Nat → Int} {r : Int} (h : rkA Q B V r) : r = -70008 ∨ (-1 ≤ r ∧ r ≤ 8) := by
  rcases h with h | h | h
  · exact Or.inl h.2
  · exact Or.inl h.2.2
  · exact Or.inr h.2.2.1
theorem rkA.ok {Q : Prop} {B : Nat → Nat → Int} {V : Nat → Int} {r : Int} (c : cOk B 0) (hV : nVb V 113) (h : rkA Q B V r) (q : Q) : (r = -70008 ↔ 8 < nDg B V 5) ∧ (r ≠ -70008 → (-1 ≤ r ∧ nDg B V 5 - nGn B ≤ r) ∧ (nDg B V 5 < 0 → r = -1) ∧ (¬ nDg B V 5 < 0 → r ≤ nDg B V 5)) := by
  rcases h with h | h | ⟨-, h1, h2, h3⟩
  · exact absurd q h.1
  · exact ⟨⟨fun _ => h.2.1, fun _ => h.2.2⟩, fun w => absurd h.2.2 w⟩
  · have l := rk_le c h3
    have g := rk_ge c hV h1 h3
    exact ⟨⟨fun w => by omega, fun w => by omega⟩, fun _ => ⟨⟨h2.1, g⟩, l.2.1, fun w => l.2.2 (by omega)⟩⟩
theorem rkA.rr {Q : Prop} {B : Nat → Nat → Int} {V : Nat → Int} {r r' : Int} (c : cOk B 0) (hV : nVb V 113) (hV' : nVb (cRs B V) 113) (h : rkA Q B V r) (h' : rkA Q B (cRs B V) r') (n : r ≠ -70008) (n' : r' ≠ -70008) : r - r' = nDg B V 5 - nGn B + 1 := by
  rcases h with h | h | ⟨-, h1, h2, h3⟩
  · exact absurd h.2 n
  · exact absurd h.2.2 n
  rcases h' with h' | h' | ⟨-, k1, k2, k3⟩
  · exact absurd h'.2 n'
  · exact absurd h'.2.2 n'
  exact rk_rr c hV hV' h1 k1 h3 k3
theorem rkA.un {Q : Prop} {B : Nat → Nat → Int} {V V' : Nat → Int} {r r' : Int} (g : gOk B) (c : Q → cOk B 0) (e : hEq B V V') (h : rkA Q B V r) (h' : rkA Q B V' r') : r' = r := by
  have d := nDg_eq g e
  rcases h with h | h | ⟨q, h1, h2, h3⟩
  · rcases h' with k | k | k
    · rw [h.2, k.2]
    · exact absurd k.1 h.1
    · exact absurd k.1 h.1
  · rcases h' with k | k | k
    · exact absurd h.1 k.1
    · rw [h.2.2, k.2.2]
    · have := k.2.1
      have := h.2.1
      omega
  · rcases h' with k | k | ⟨-, k1, k2, W, w1, w2, w3⟩
    · exact absurd q k.1
    · have := k.2.1
      omega
    · exact (rkOf.un (c q) h3 ⟨W, e.tr w1, w2, w3⟩).symm
variable {X : z_Hp} {S : Nat → Nat → Int}
theorem kPv_f : kPv S false = S 15 := funext fun v => if_neg (by decide)
theorem kPv_t : kPv S true = cRs (kF S 10 5) (S 15) := funext fun v => if_pos rfl
theorem rkO.A (I : cInv S) {m : z_Mt} {b : Bool} (h : rkO m X S b) : ∃ S' r, cFr (fun _ => False) S S' ∧ ((m [vR 0] (k_W X S) = some (.inr kIS, k_W X S') ∧ r = -70008) ∨ m [vR 0] (k_W X S) = some (.inl (some (vI r)), k_W X S')) ∧ rkA (kQ S) (kF S 10 5) (kPv S b) r := by
  obtain ⟨S', P, fr, hP, h⟩ := h
  have d := nDg_cg (B := kF S 10 5) hP
  rcases h with ⟨q, e⟩ | ⟨q, d2, e⟩ | ⟨q, d2, r, e, k⟩
  · exact ⟨S', -70008, fr, Or.inl ⟨e, rfl⟩, Or.inl ⟨q, rfl⟩⟩
  · exact ⟨S', -70008, fr, Or.inl ⟨e, rfl⟩, Or.inr (Or.inl ⟨q, by omega, rfl⟩)⟩
  · have k2 := rkOf.off I.g k (fun v hv _ => (hP v hv).symm)
    have l := rk_le (kQ.ok I q) k2
    have l3 : r ≤ 8 := by
      by_cases w : nDg (kF S 10 5) (kPv S b) 5 < 0
      · have := l.2.1 w
        omega
      · have := l.2.2 (by omega)
        omega
    exact ⟨S', r, fr, Or.inr e, Or.inr (Or.inr ⟨q, by omega, ⟨l.1, l3⟩, k2⟩)⟩
theorem a5 (I : cInv S) : ∃ S' r, cFr (fun _ => False) S S' ∧ m_L_asks [vR 0, vI 5, vI 0, vI 0, vI 0] (k_W X S) = some (.inl (some (vI r)), k_W X S') ∧ rkA (kQ S) (kF S 10 5) (S 15) r := by
  obtain ⟨S', r, fr, e, h⟩ := rkO.A I (f_rank (X := X) I)
  rw [kPv_f] at h
  refine ⟨S', r, fr, ?_, h⟩
  rcases e with ⟨e, rfl⟩ | e
  · exact f_asks5_is e
  · exact f_asks5_ok e
theorem a6 (I : cInv S) : ∃ S' r, cFr (fun _ => False) S S' ∧ m_L_asks [vR 0, vI 6, vI 0, vI 0, vI 0] (k_W X S) = some (.inl (some (vI r)), k_W X S') ∧ rkA (kQ S) (kF S 10 5) (cRs (kF S 10 5) (S 15)) r := by
  obtain ⟨S', r, fr, e, h⟩ := rkO.A I (f_restRank (X := X) I)
  rw [kPv_t] at h
  refine ⟨S', r, fr, ?_, h⟩
  rcases e with ⟨e, rfl⟩ | e
  · exact f_asks6_is e
  · exact f_asks6_ok e
theorem a8 (I : cInv S) {i : Nat} (hi : i < 5) : ∃ S' r, m_L_asks [vR 0, vI 8, vI (i : Int), vI 0, vI 0] (k_W X S) = some (.inl (some (vI r)), k_W X S') ∧ cInv S' ∧ kF S' 10 5 = kF S 10 5 ∧ kQ S' = kQ S ∧ hEq (kF S 10 5) (S 15) (S' 15) ∧ (r = -70008 ∨ r = S' 15 i) := by
  obtain ⟨S', ⟨e, fr⟩ | ⟨e, hv, fr, I'⟩⟩ := f_fire (X := X) I hi
  · obtain ⟨b1, b2, b3⟩ := fr.B
    exact ⟨S', -70008, f_asks8_is e, I.eq fr, b1, b3, by rw [b2]; exact hEq.rf _, Or.inl rfl⟩
  · have b1 : kF S' 10 5 = kF S 10 5 := kF_e (fun x hx => fr _ (by unfold cFree; omega) (by omega))
    refine ⟨S', _, f_asks8_ok e, I', b1, by unfold kQ; rw [b1], ⟨ck1 i, fun v hv5 => ?_⟩, Or.inr rfl⟩
    rw [hv v hv5, cL_k I.g hi hv5]
    unfold kFi
    omega
end CA
