/-! CHIPS: the class's search for the rank -/
variable {X : z_Hp}
/-- what may be taken from the vertices i and on, when t are taken already -/
def aOk (B : Nat → Nat → Int) (i : Nat) (t : Int) (a : Nat → Int) : Prop := (∀ v, v < 5 → 0 ≤ a v) ∧ (∀ v, v < 5 → v < i → a v = 0) ∧ (∀ v, v < 5 → ¬ nHv B v → a v = 0) ∧ t + s5 a ≤ 9
def cVl (t : Int) (a : Nat → Int) (x : Int) : Int := if x < 0 then t + s5 a - 1 else t + s5 a + x
/-- r is the least of K and all that may be taken (F: known to be at most each of these) -/
def rSp (B : Nat → Nat → Int) (V : Nat → Int) (i : Nat) (t K r : Int) : Prop := r ≤ K ∧ (∀ a x, aOk B i t a → cLf B (fun v => V v - a v) x → r ≤ cVl t a x) ∧ (r = K ∨ ∃ a x, aOk B i t a ∧ cLf B (fun v => V v - a v) x ∧ r = cVl t a x)
def rFl (B : Nat → Nat → Int) (V : Nat → Int) (i : Nat) (t F : Int) : Prop := ∀ a x, aOk B i t a → cLf B (fun v => V v - a v) x → F ≤ cVl t a x
theorem s5_nn {a : Nat → Int} (h : ∀ v, v < 5 → 0 ≤ a v) : 0 ≤ s5 a := by
  have := s5_le (F := fun _ => 0) (G := a) h
  have e : s5 (fun _ => (0 : Int)) = 0 := rfl
  omega
theorem s5_up {a : Nat → Int} {i : Nat} (hi : i < 5) (x : Int) : s5 (z_up a i x) = s5 a - a i + x := by
  simp only [s5, z_up]
  rcases (show i = 0 ∨ i = 1 ∨ i = 2 ∨ i = 3 ∨ i = 4 by omega) with rfl | rfl | rfl | rfl | rfl <;> simp <;> omega
section CX
variable {B : Nat → Nat → Int}
/-- what is one less at i, s times -/
theorem rSp_sh {V Vs : Nat → Int} {i : Nat} (hi : i < 5) (hn : nHv B i) {t s : Int} (hs : 0 ≤ s) (e : hEq B (fun v => V v - (if v = i then s else 0)) Vs) :
    (∀ a x, aOk B i t a → a i = s → cLf B (fun v => V v - a v) x → aOk B (i + 1) (t + s) (z_up a i 0) ∧ cLf B (fun v => Vs v - z_up a i 0 v) x ∧ cVl (t + s) (z_up a i 0) x = cVl t a x) ∧
    (∀ a x, aOk B (i + 1) (t + s) a → cLf B (fun v => Vs v - a v) x → aOk B i t (z_up a i s) ∧ cLf B (fun v => V v - z_up a i s v) x ∧ cVl (t + s) a x = cVl t (z_up a i s) x) := by
  constructor
  · intro a x ha hai hl
    have su := s5_up (a := a) hi 0
    refine ⟨⟨fun v hv => ?_, fun v hv hvi => ?_, fun v hv hvn => ?_, by rw [su, hai]; have := ha.2.2.2; omega⟩, ?_, by unfold cVl; rw [su, hai]; split <;> omega⟩
    · unfold z_up
      split
      · omega
      · exact ha.1 v hv
    · unfold z_up
      split
      · rfl
      · exact ha.2.1 v hv (by omega)
    · unfold z_up
      split
      · rfl
      · exact ha.2.2.1 v hv hvn
    · refine cLf.eq ((e.ad (z_up a i 0)).sy) (cLf.cg (fun v hv => ?_) hl)
      unfold z_up
      by_cases hvi : v = i
      · simp only [hvi, if_true]
        omega
      · simp only [hvi, if_false]
        omega
  · intro a x ha hl
    have ai := ha.2.1 i hi (by omega)
    have su := s5_up (a := a) hi s
    refine ⟨⟨fun v hv => ?_, fun v hv hvi => ?_, fun v hv hvn => ?_, by rw [su, ai]; have := ha.2.2.2; omega⟩, ?_, by unfold cVl; rw [su, ai]; split <;> omega⟩
    · unfold z_up
      split
      · exact hs
      · exact ha.1 v hv
    · unfold z_up
      rw [if_neg (by omega)]
      exact ha.2.1 v hv (by omega)
    · unfold z_up
      split
      · next e => exact absurd (e ▸ hn) hvn
      · exact ha.2.2.1 v hv hvn
    · refine cLf.cg (fun v hv => ?_) (cLf.eq (e.ad a) hl)
      unfold z_up
      by_cases hvi : v = i
      · subst hvi
        simp only [if_true, ai]
        omega
      · simp only [hvi, if_false]
        omega
end CX
section CY
variable {S : Nat → Nat → Int}
theorem k_plC {i : Nat} (hi : i < 5) (f : Nat → Int) : k_C (18 + i) f = .inr (0, 5, f) := by
  rcases i with _ | _ | _ | _ | _ | i <;> first | rfl | omega
theorem k_pl {i : Nat} (hi : i < 5) : z_arr (k_W X S) (18 + i) 0 = some (5, S (18 + i)) := k_arr (by omega) (k_plC hi _) (by decide)
theorem k_pls {i : Nat} (hi : i < 5) (g : Nat → Int) : (k_W X S).set (18 + i) (.inr (0, 5, g)) = k_W X (k_u S (18 + i) g) := k_set (k_plC hi g).symm
theorem k_q17 {i : Nat} (hi : i < 5) : (if i < 5 then ((18 + 1 * i : Nat) : Int) else -1) = ((18 + i : Nat) : Int) := by
  rw [if_pos hi, Nat.one_mul]
theorem k_cp {i j : Nat} (hi : i < 5) (hj : j < 5) : z_acopy [vR (18 + i), vI 0, vR (18 + j), vI 0, vI 5] (k_W X S) = some (.inl none, k_W X (k_u S (18 + j) (fun k => if k < 5 then S (18 + i) k else S (18 + j) k))) := by
  have e := s_copy (sp := 0) (dp := 0) (n := 5) ((k_get (X := X) (S := S) (show 18 + i < 85 by omega)).trans (congrArg some (k_plC hi _))) ((k_get (X := X) (S := S) (show 18 + j < 85 by omega)).trans (congrArg some (k_plC hj _))) (by decide) (by decide) (by decide) (by decide) (by decide) (by decide) (by decide)
  rw [e, k_pls hj]
  congr 4
  funext k
  unfold z_cp
  simp
theorem cRd.cg {B : Nat → Nat → Int} {q : Nat} {V W : Nat → Int} (h : cRd B q V) (e : ∀ v, v < 5 → W v = V v) : cRd B q W := by
  refine ⟨fun v hv hne hn => by rw [e v hv]; exact h.1 v hv hne hn, fun s hs h1 h2 => h.2 s hs h1 (fun v hv mv => ?_)⟩
  have := h2 v hv mv
  rwa [e v hv] at this
theorem nDg_cg {B : Nat → Nat → Int} {V W : Nat → Int} (e : ∀ v, v < 5 → W v = V v) : nDg B W 5 = nDg B V 5 := by
  rw [nDg_5, nDg_5]
  refine s5_eq (fun v hv => ?_)
  rw [e v hv]
/-- a pile of the search: reduced, its degree with what was taken is that of the start -/
def rPl (B : Nat → Nat → Int) (V : Nat → Int) (t : Int) : Prop := cRd B 0 V ∧ (0 ≤ t ∧ t ≤ 8) ∧ (0 ≤ nDg B V 5 + t ∧ nDg B V 5 + t ≤ 8) ∧ ∀ v, v < 5 → ¬ nHv B v → -113 ≤ V v ∧ V v ≤ 113
theorem rPl.bd {B : Nat → Nat → Int} (h : gOk B) {V : Nat → Int} {t : Int} (p : rPl B V t) : ∀ v, v < 5 → -120 ≤ V v ∧ V v ≤ 120 := by
  intro v hv
  by_cases h0 : v = 0
  · subst h0
    have := p.1.z h
    have := p.2.1
    have := p.2.2.1
    omega
  · by_cases hn : nHv B v
    · have := p.1.1 v hv h0 hn
      have := p.1.hi h hv h0 hn
      omega
    · have := p.2.2.2 v hv hn
      omega
theorem rPl.cg {B : Nat → Nat → Int} {V W : Nat → Int} {t : Int} (p : rPl B V t) (e : ∀ v, v < 5 → W v = V v) : rPl B W t :=
  ⟨p.1.cg e, p.2.1, by rw [nDg_cg e]; exact p.2.2.1, fun v hv hn => by rw [e v hv]; exact p.2.2.2 v hv hn⟩
/-- what the search's call for what is behind is known to do -/
def slH (d j : Nat) : Prop := ∀ (S : Nat → Nat → Int) (t K F : Int), cOk (kF S 10 5) 0 → (∀ k, k < 5 → S 16 k = (nNr (kF S 10 5) 0 k : Int)) → rPl (kF S 10 5) (S (18 + j)) t → -1 ≤ K → K ≤ 8 → (-100 ≤ F ∧ F ≤ 100) → rFl (kF S 10 5) (S (18 + j)) (j + 1) t F →
    ∃ r S', m_X3_leastWithTaken d [vR 8, vI (((j + 1 : Nat)) : Int), vI t, vI K, vI F] (k_W X S) = some (.inl (some (vI r)), k_W X S') ∧ (∀ x, x < 19 + j ∨ 22 < x → S' x = S x) ∧ rSp (kF S 10 5) (S (18 + j)) (j + 1) t K r ∧ -1 ≤ r
theorem kF_eq {S S' : Nat → Nat → Int} (h : ∀ x, x < 15 → S' x = S x) : kF S' 10 5 = kF S 10 5 := by
  funext x
  unfold kF
  split
  · rw [h _ (by omega)]
  · rfl
/-- one more is taken: the pile is reduced anew -/
theorem sl_red {j : Nat} (hj4 : j < 4) (c : cOk (kF S 10 5) 0) (hN : ∀ k, k < 5 → S 16 k = (nNr (kF S 10 5) 0 k : Int)) (hn : nHv (kF S 10 5) (j + 1)) {T : Int} (pl : rPl (kF S 10 5) (S (18 + (j + 1))) T) : ∃ W, m_X3_reduce [vR 8, vR (18 + (j + 1))] (k_W X (k_u S (18 + (j + 1)) (z_up (S (18 + (j + 1))) (j + 1) (S (18 + (j + 1)) (j + 1) - 1)))) = some (.inl none, k_W X (k_u S (18 + (j + 1)) W)) ∧ hEq (kF S 10 5) (fun v => S (18 + (j + 1)) v - (if v = j + 1 then 1 else 0)) W ∧ (T + 1 ≤ 8 → rPl (kF S 10 5) W (T + 1)) := by
  have pb := pl.bd c.1
  have kB : kF (k_u S (18 + (j + 1)) (z_up (S (18 + (j + 1))) (j + 1) (S (18 + (j + 1)) (j + 1) - 1))) 10 5 = kF S 10 5 := kF_eq (fun x hx => k_u_n (by omega))
  have kP : kF (k_u S (18 + (j + 1)) (z_up (S (18 + (j + 1))) (j + 1) (S (18 + (j + 1)) (j + 1) - 1))) 18 5 (j + 1) = z_up (S (18 + (j + 1))) (j + 1) (S (18 + (j + 1)) (j + 1) - 1) := by rw [kF_l (by omega), k_u_s]
  have r := nAt.redW (k_net (X := X) (S := k_u S (18 + (j + 1)) (z_up (S (18 + (j + 1))) (j + 1) (S (18 + (j + 1)) (j + 1) - 1)))) (q := 0) (by rw [kB]; exact c) (i := j + 1) (by omega) (fun k hk => by rw [kB, k_u_n (by omega)]; exact hN k hk) (fun v hv => by
    rw [kP]
    have := pb v hv
    have pj := pb (j + 1) (by omega)
    unfold z_up
    split <;> omega)
  rw [kB, kP] at r
  obtain ⟨W, m, e, hi, hm, hr⟩ := r
  rw [k_pls (show j + 1 < 5 by omega), k_u_u] at e
  have e2 : ∀ v, v < 5 → z_up (S (18 + (j + 1))) (j + 1) (S (18 + (j + 1)) (j + 1) - 1) v = S (18 + (j + 1)) v - (if v = j + 1 then 1 else 0) := fun v _ => by
    unfold z_up
    by_cases h : v = j + 1
    · rw [if_pos h, if_pos h, h]
    · rw [if_neg h, if_neg h]
      omega
  refine ⟨W, e, hEq.cg (fun v hv => (e2 v hv).symm) hi.1, fun ht => ⟨hr, ⟨by have := pl.2.1; omega, ht⟩, ?_, fun v hv hnv => ?_⟩⟩
  · have d : nDg (kF S 10 5) (z_up (S (18 + (j + 1))) (j + 1) (S (18 + (j + 1)) (j + 1) - 1)) 5 = nDg (kF S 10 5) (S (18 + (j + 1))) 5 - 1 := by
      rw [nDg_5, nDg_5]
      have : s5 (fun v => if z_dec (nHv (kF S 10 5) v) = true then z_up (S (18 + (j + 1))) (j + 1) (S (18 + (j + 1)) (j + 1) - 1) v else 0) = s5 (fun v => (if z_dec (nHv (kF S 10 5) v) = true then S (18 + (j + 1)) v else 0) - (if v = j + 1 then 1 else 0)) := s5_eq (fun v hv => by
        rw [e2 v hv]
        by_cases h : v = j + 1
        · rw [if_pos h, if_pos ((z_dec_iff _).mpr (by rw [h]; exact hn)), if_pos ((z_dec_iff _).mpr (by rw [h]; exact hn))]
        · rw [if_neg h]
          split <;> omega)
      rw [this, s5_sub]
      have o : s5 (fun v => if v = j + 1 then 1 else 0) = 1 := by
        simp only [s5]
        rcases (show j = 0 ∨ j = 1 ∨ j = 2 ∨ j = 3 by omega) with rfl | rfl | rfl | rfl <;> simp
      omega
    have d2 := nDg_eq c.1 hi.1
    have := pl.2.2.1
    omega
  · rw [hi.2.2.2.2 v hv hnv, e2 v hv, if_neg (fun h => hnv (by rw [h]; exact hn))]
    have := pl.2.2.2 v hv hnv
    omega
theorem sl_loop {d j : Nat} {S S0 : Nat → Nat → Int} {t K F r0 : Int} (c : cOk (kF S 10 5) 0) (hj4 : j < 4) (hN : ∀ k, k < 5 → S 16 k = (nNr (kF S 10 5) 0 k : Int)) (hP : rPl (kF S 10 5) (S (18 + j)) t) (hK1 : -1 ≤ K) (hK8 : K ≤ 8) (hF : -100 ≤ F ∧ F ≤ 100) (hFl : rFl (kF S 10 5) (S (18 + j)) (j + 1) t F) (hn : nHv (kF S 10 5) (j + 1)) (ih : slH (X := X) d (j + 1))
    (fr0 : ∀ x, x < 19 + j ∨ 22 < x → S0 x = S x) (P0 : ∀ v, v < 5 → S0 (18 + (j + 1)) v = S (18 + j) v) (w0 : r0 ≤ K) (lo0 : -1 ≤ r0) (rfn : ∀ a x, aOk (kF S 10 5) (j + 1) t a → a (j + 1) = 0 → cLf (kF S 10 5) (fun v => S (18 + j) v - a v) x → r0 ≤ cVl t a x) (att : r0 = K ∨ ∃ a x, aOk (kF S 10 5) (j + 1) t a ∧ cLf (kF S 10 5) (fun v => S (18 + j) v - a v) x ∧ r0 = cVl t a x) {Q : z_Oc → z_Hp → Prop}
    (hQ : ∀ ρ w Ss, ρ[6]? = some (vI w) → (∀ x, x < 19 + j ∨ 22 < x → Ss x = S x) → rSp (kF S 10 5) (S (18 + j)) (j + 1) t K w → -1 ≤ w → Q (oN ρ) (k_W X Ss)) :
    qS (sLoop (bAnd (bCmp cLe (eL 7) (eL 6)) (bCmp cGt (eL 6) (eL 4))) (sSeq (sAOp 0 oSub (eLR 5) (eL 1) (eC 1)) (sSeq (sCl m_X3_reduce (aS vR (aS vR aN (eLR 0)) (eLR 5))) (sSet vI 6 (eCl (m_X3_leastWithTaken d) (aS vI (aS vI (aS vI (aS vI (aS vR aN (eLR 0)) (e2 oAdd (eL 1) (eC 1))) (eL 7)) (eL 6)) (eL 4)))))) (sInc 7 1) z_fuel) [vR 8, vI ((j + 1 : Nat) : Int), vI t, vI K, vI F, vR (18 + (j + 1)), vI r0, vI (t + 1)] (k_W X S0) Q := by
  have tb := hP.2.1
  refine qS_wh (fun m ρ h' => ∃ (s : Nat) (w : Int) (Ss : Nat → Nat → Int), h' = k_W X Ss ∧ (∀ x, x < 19 + j ∨ 22 < x → Ss x = S x) ∧ rPl (kF S 10 5) (Ss (18 + (j + 1))) (t + s) ∧ hEq (kF S 10 5) (fun v => S (18 + j) v - (if v = j + 1 then (s : Int) else 0)) (Ss (18 + (j + 1))) ∧ w ≤ K ∧ -1 ≤ w ∧ (∀ a x, aOk (kF S 10 5) (j + 1) t a → a (j + 1) ≤ (s : Int) → cLf (kF S 10 5) (fun v => S (18 + j) v - a v) x → w ≤ cVl t a x) ∧ (w = K ∨ ∃ a x, aOk (kF S 10 5) (j + 1) t a ∧ cLf (kF S 10 5) (fun v => S (18 + j) v - a v) x ∧ w = cVl t a x) ∧ K - t - s ≤ (m : Int) ∧ ρ = [vR 8, vI ((j + 1 : Nat) : Int), vI t, vI K, vI F, vR (18 + (j + 1)), vI w, vI (t + (s : Int) + 1)]) ?_ 20 z_fuel _ _ (z_fuel_lt (by decide)) ⟨0, r0, S0, rfl, fr0, ?_, ?_, w0, lo0, fun a x ha h0 hl => rfn a x ha (by have := ha.1 (j + 1) (by omega); omega) hl, att, by omega, ?_⟩
  · rintro m ρ h' ⟨s, w, Ss, rfl, fr, pl, eq, w1, w2, low, att2, hm, rfl⟩
    have kBs : kF Ss 10 5 = kF S 10 5 := kF_eq (fun x hx => fr x (by omega))
    have ts := pl.2.1
    have exit : ¬ (t + (s : Int) + 1 ≤ w ∧ F < w) → rSp (kF S 10 5) (S (18 + j)) (j + 1) t K w := fun ne => ⟨w1, fun a x ha hl => by
      rcases Int.lt_or_le (s : Int) (a (j + 1)) with l | l
      · have f := hFl a x ha hl
        have g : a (j + 1) ≤ s5 a := s5_one (by omega) ha.1
        have cv : t + s5 a - 1 ≤ cVl t a x := by unfold cVl; split <;> omega
        omega
      · exact low a x ha l hl, att2⟩
    have red := sl_red (X := X) (S := Ss) hj4 (by rw [kBs]; exact c) (fun k hk => by rw [kBs, fr _ (by omega)]; exact hN k hk) (by rw [kBs]; exact hn) (by rw [kBs]; exact pl)
    rw [kBs] at red
    have rcc : ∀ W, t + (s : Int) + 1 ≤ w → F < w → hEq (kF S 10 5) (fun v => Ss (18 + (j + 1)) v - (if v = j + 1 then 1 else 0)) W → rPl (kF S 10 5) W (t + s + 1) → ∃ r S3, m_X3_leastWithTaken d [vR 8, vI (((j + 1 : Nat) : Int) + 1), vI (t + (s : Int) + 1), vI w, vI F] (k_W X (k_u Ss (18 + (j + 1)) W)) = some (.inl (some (vI r)), k_W X S3) ∧ (∀ x, x < 19 + j ∨ 22 < x → S3 x = S x) ∧ rPl (kF S 10 5) (S3 (18 + (j + 1))) (t + ((s + 1 : Nat) : Int)) ∧ hEq (kF S 10 5) (fun v => S (18 + j) v - (if v = j + 1 then ((s + 1 : Nat) : Int) else 0)) (S3 (18 + (j + 1))) ∧ r ≤ K ∧ -1 ≤ r ∧ (∀ a x, aOk (kF S 10 5) (j + 1) t a → a (j + 1) ≤ ((s + 1 : Nat) : Int) → cLf (kF S 10 5) (fun v => S (18 + j) v - a v) x → r ≤ cVl t a x) ∧ (r = K ∨ ∃ a x, aOk (kF S 10 5) (j + 1) t a ∧ cLf (kF S 10 5) (fun v => S (18 + j) v - a v) x ∧ r = cVl t a x) := by
      intro W p1 p2 eW pW
      have kB2 : kF (k_u Ss (18 + (j + 1)) W) 10 5 = kF S 10 5 := (kF_eq (fun x hx => k_u_n (by omega))).trans kBs
      have eq2 : hEq (kF S 10 5) (fun v => S (18 + j) v - (if v = j + 1 then ((s + 1 : Nat) : Int) else 0)) W := by
        refine hEq.tr (hEq.cg (fun v hv => ?_) (eq.ad (fun v => if v = j + 1 then 1 else 0))) eW
        split <;> omega
      have sh := rSp_sh (V := S (18 + j)) (Vs := W) (i := j + 1) (by omega) hn (t := t) (s := ((s + 1 : Nat) : Int)) (by omega) eq2
      rw [show t + ((s + 1 : Nat) : Int) = t + (s : Int) + 1 by omega] at sh ⊢
      have i2 := ih (k_u Ss (18 + (j + 1)) W) (t + (s : Int) + 1) w F (by rw [kB2]; exact c) (fun k hk => by rw [kB2, k_u_n (by omega), fr _ (by omega)]; exact hN k hk) (by rw [kB2, k_u_s]; exact pW) w2 (by omega) hF (by
        rw [kB2, k_u_s]
        intro a x ha hl
        obtain ⟨q1, q2, q3⟩ := sh.2 a x ha hl
        rw [q3]
        exact hFl _ x q1 q2)
      rw [kB2, k_u_s] at i2
      obtain ⟨r, S3, e, f3, sp, lo⟩ := i2
      rw [Int.natCast_add (j + 1), Int.natCast_one] at e
      have e18 : S3 (18 + (j + 1)) = W := by rw [f3 _ (by omega), k_u_s]
      refine ⟨r, S3, e, fun x hx => by rw [f3 x (by omega), k_u_n (by omega)]; exact fr x hx, by rw [e18]; exact pW, by rw [e18]; exact eq2, by have := sp.1; omega, lo, fun a x ha h0 hl => ?_, ?_⟩
      · rcases Int.lt_or_le (s : Int) (a (j + 1)) with l | l
        · obtain ⟨q1, q2, q3⟩ := sh.1 a x ha (by omega) hl
          rw [← q3]
          exact sp.2.1 _ x q1 q2
        · have := low a x ha l hl
          have := sp.1
          omega
      · rcases sp.2.2 with e | ⟨a, x, ha, hl, e⟩
        · rw [e]; exact att2
        · obtain ⟨q1, q2, q3⟩ := sh.2 a x ha hl
          exact Or.inr ⟨_, x, q1, q2, by rw [e, q3]⟩
    refine red.elim fun W hW => ?_
    have er := hW.1
    have kp := k_pl (X := X) (S := Ss) (show j + 1 < 5 by omega)
    have ks := fun g => k_pls (X := X) (S := Ss) (show j + 1 < 5 by omega) g
    simp only [kp, ks, er, qS_nop, qS_seq, qS_set, qS_setJ, qS_if, qS_brk, qS_ret, qS_retV, qS_throw, qS_inc, qS_cl, qS_ast, qS_aop, qS_fst, qS_fop, qS_sw, qT_eC, qT_eCB, qT_eL, qT_eLJ, qT_eLR, qT_eLB, qT_e1, qT_e2, qT_bCmp, qT_bCmpJ, qT_bAnd, qT_bOr, qT_bNot, qT_eBI, qT_eIf, qT_eLd, qT_eLdR, qT_eLen, qT_eF, qT_eFR, qT_aN, qT_aS, qT_eCl, qT_eClR, qT_eClB, qT_some, qT_x, z_nx_N, z_nx_B, z_nx_R, z_nx_X, z_bk_N, z_bk_B, z_bk_R, z_bk_X, oAdd, oSub, oMul, oNeg, cLt, cLe, cGt, cGe, cEq, cNe, Option.some.injEq, Sum.inl.injEq, Sum.inr.injEq, Prod.mk.injEq, exists_eq_left, exists_eq_left', exists_eq_right, exists_and_left, reduceCtorEq, and_true, true_and, and_false, false_and, List.getElem?_cons_zero, List.getElem?_cons_succ, List.set_cons_zero, List.set_cons_succ, List.replicate, List.length_cons, List.length_nil, List.cons_append, List.nil_append, Nat.reduceAdd, Nat.reduceSub, decide_eq_true_eq, decide_eq_false_iff_not, Bool.true_eq_false, Bool.false_eq_true, true_implies, false_implies, implies_true, Nat.reduceLT, exists_const, z_vB_inj, and_assoc, z_in_iff, oI2L, oL2I, Int.toNat_natCast, z_toNat0, Bool.not_eq_true', Bool.not_eq_false', ne_eq, Bool.not_true, Bool.not_false, Nat.add_zero, Int.add_zero, z_sl_s]
    repeat (refine And.intro (by omega) ?_)
    refine ⟨fun p1 => ⟨by omega, by omega, by omega, by omega, fun p2 => ?_, fun p2 => ?_⟩, fun p1 => ?_⟩
    · refine ⟨m - 1, by omega, ?_⟩
      repeat (refine And.intro (by omega) ?_)
      refine (rcc W p1 p2 hW.2.1 (hW.2.2 (by omega))).elim fun r hr => hr.elim fun S3 hr => ?_
      simp only [hr.1, qS_nop, qS_seq, qS_set, qS_setJ, qS_if, qS_brk, qS_ret, qS_retV, qS_throw, qS_inc, qS_cl, qS_ast, qS_aop, qS_fst, qS_fop, qS_sw, qT_eC, qT_eCB, qT_eL, qT_eLJ, qT_eLR, qT_eLB, qT_e1, qT_e2, qT_bCmp, qT_bCmpJ, qT_bAnd, qT_bOr, qT_bNot, qT_eBI, qT_eIf, qT_eLd, qT_eLdR, qT_eLen, qT_eF, qT_eFR, qT_aN, qT_aS, qT_eCl, qT_eClR, qT_eClB, qT_some, qT_x, z_nx_N, z_nx_B, z_nx_R, z_nx_X, z_bk_N, z_bk_B, z_bk_R, z_bk_X, oAdd, oSub, oMul, oNeg, cLt, cLe, cGt, cGe, cEq, cNe, Option.some.injEq, Sum.inl.injEq, Sum.inr.injEq, Prod.mk.injEq, exists_eq_left, exists_eq_left', exists_eq_right, exists_and_left, reduceCtorEq, and_true, true_and, and_false, false_and, List.getElem?_cons_zero, List.getElem?_cons_succ, List.set_cons_zero, List.set_cons_succ, List.replicate, List.length_cons, List.length_nil, List.cons_append, List.nil_append, Nat.reduceAdd, Nat.reduceSub, decide_eq_true_eq, decide_eq_false_iff_not, Bool.true_eq_false, Bool.false_eq_true, true_implies, false_implies, implies_true, Nat.reduceLT, exists_const, z_vB_inj, and_assoc, z_in_iff, oI2L, oL2I, Int.toNat_natCast, z_toNat0, Bool.not_eq_true', Bool.not_eq_false', ne_eq, Bool.not_true, Bool.not_false, Nat.add_zero, Int.add_zero, z_sl_s]
      exact ⟨s + 1, r, S3, rfl, hr.2.1, hr.2.2.1, hr.2.2.2.1, hr.2.2.2.2.1, hr.2.2.2.2.2.1, hr.2.2.2.2.2.2.1, hr.2.2.2.2.2.2.2.imp id (fun ⟨a, x, h1, h2, h3⟩ => ⟨a, h1, x, h2, h3⟩), by omega, by rw [show t + (s : Int) + 1 + 1 = t + ((s + 1 : Nat) : Int) + 1 by omega]⟩
    · exact hQ _ w Ss rfl fr (exit (fun w => p2 w.2)) w2
    · exact hQ _ w Ss rfl fr (exit (fun w => p1 w.1)) w2
  · have := hP.cg P0
    simpa using this
  · refine ⟨fun _ => 0, fun v hv => ?_⟩
    rw [cL_c, P0 v hv]
    simp
  · rw [show t + ((0 : Nat) : Int) + 1 = t + 1 by omega]
theorem q_bodyY {nL : Nat} {s : z_St} {L : List z_V} {h : z_Hp} {R : Int → (Nat → Nat → Int) → Prop} (H : qS s (L ++ List.replicate (nL - L.length) vU) h (fun oc h1 => ∃ r S', oc = oR (some (vI r)) ∧ h1 = k_W X S' ∧ R r S')) : ∃ r S', z_body nL s L h = some (.inl (some (vI r)), k_W X S') ∧ R r S' := by
  unfold qS at H
  unfold z_body
  generalize s (L ++ List.replicate (nL - L.length) vU) h = w at H ⊢
  rcases w with _ | ⟨oc, h1⟩
  · exact H.elim
  · obtain ⟨r, S', rfl, rfl, hp⟩ := H
    exact ⟨r, S', rfl, hp⟩
theorem sl_least : ∀ (d j : Nat), d + j = 5 → 0 < d → ∀ (S : Nat → Nat → Int) (t K F : Int), cOk (kF S 10 5) 0 → (∀ k, k < 5 → S 16 k = (nNr (kF S 10 5) 0 k : Int)) → rPl (kF S 10 5) (S (18 + j)) t → -1 ≤ K → K ≤ 8 → (-100 ≤ F ∧ F ≤ 100) → rFl (kF S 10 5) (S (18 + j)) (j + 1) t F →
    ∃ r S', m_X3_leastWithTaken d [vR 8, vI (((j + 1 : Nat)) : Int), vI t, vI K, vI F] (k_W X S) = some (.inl (some (vI r)), k_W X S') ∧ (∀ x, x < 19 + j ∨ 22 < x → S' x = S x) ∧ rSp (kF S 10 5) (S (18 + j)) (j + 1) t K r ∧ -1 ≤ r
  | 0, _, _, h0 => absurd h0 (Nat.lt_irrefl 0)
  | d + 1, j, hdj, _ => by
    intro S t K F c hN hP hK1 hK8 hF hFl
    have hb := hP.bd c.1
    by_cases hj : j = 4
    · subst hj
      have r4 := k_q17 (show 4 < 5 by omega)
      have tb := hP.2.1
      have b0 : -120 ≤ S 22 0 ∧ S 22 0 ≤ 120 := hb 0 (by omega)
      have lf : ∀ a x, aOk (kF S 10 5) 5 t a → (cLf (kF S 10 5) (fun v => S 22 v - a v) x ↔ x = S 22 0) ∧ s5 a = 0 := fun a x ha => by
        have z : ∀ v, v < 5 → a v = 0 := fun v hv => ha.2.1 v hv hv
        have e : cLf (kF S 10 5) (fun v => S 22 v - a v) (S 22 0) := ⟨S 22, hEq.cg (fun v hv => by rw [z v hv]; omega) (hEq.rf _), hP.1, rfl⟩
        exact ⟨⟨fun w => cLf.un c w e, fun w => w ▸ e⟩, s5_0 z⟩
      have ok0 : aOk (kF S 10 5) 5 t (fun _ => 0) := ⟨fun _ _ => Int.le_refl _, fun _ _ _ => rfl, fun _ _ _ => rfl, by have : s5 (fun _ => (0 : Int)) = 0 := rfl; omega⟩
      have l0 := lf _ (S 22 0) ok0
      have ep : z_arr (k_W X S) 22 0 = some (5, S 22) := k_pl (X := X) (S := S) (i := 4) (by omega)
      have kk : ∀ a x, aOk (kF S 10 5) 5 t a → cLf (kF S 10 5) (fun v => S 22 v - a v) x → (if S 22 0 < 0 then t - 1 else t + S 22 0) = cVl t a x := fun a x ha hl => by
        have := lf a x ha
        rw [this.1.mp hl]
        unfold cVl
        rw [this.2]
        split <;> omega
      have by1 : -200 ≤ (if S 22 0 < 0 then t - 1 else t + S 22 0) ∧ (if S 22 0 < 0 then t - 1 else t + S 22 0) ≤ 200 ∧ -1 ≤ (if S 22 0 < 0 then t - 1 else t + S 22 0) := by split <;> omega
      have fin : rSp (kF S 10 5) (S 22) 5 t K (if (if S 22 0 < 0 then t - 1 else t + S 22 0) < K then (if S 22 0 < 0 then t - 1 else t + S 22 0) else K) := by
        have l1 := l0.1.mpr rfl
        generalize (if S 22 0 < 0 then t - 1 else t + S 22 0) = y at kk
        refine ⟨by split <;> omega, fun a x ha hl => ?_, ?_⟩
        · rw [← kk a x ha hl]
          split <;> omega
        · split
          · exact Or.inr ⟨_, _, ok0, l1, kk _ _ ok0 l1⟩
          · exact Or.inl rfl
      refine ⟨_, S, ?_, fun _ _ => rfl, fin, by split <;> omega⟩
      unfold m_X3_leastWithTaken
      apply q_body
      have b6 : INF = 1000000 := rfl
      have em : z_mmin [vI K, vI (if S 22 0 < 0 then t - 1 else t + S 22 0)] (k_W X S) = some (.inl (some (vI (if (if S 22 0 < 0 then t - 1 else t + S 22 0) < K then (if S 22 0 < 0 then t - 1 else t + S 22 0) else K))), k_W X S) := s_min ⟨by omega, by omega⟩ ⟨by omega, by omega⟩
      have e4 : (4 : Int).toNat = 4 := rfl
      have e5 : (((4 + 1 : Nat)) : Int) = 5 := rfl
      have c1 : ((5 : Int) < 1) = False := eq_false (by omega)
      have c2 : ((5 : Int) ≤ 5) = True := eq_true (by omega)
      simp only [b_X3_leastWithTaken, k_o8, k_a17, e4, r4, ep, e5, if_true, c1, c2, not_false_eq_true, not_true_eq_false, Nat.one_mul, qS_nop, qS_seq, qS_set, qS_setJ, qS_if, qS_brk, qS_ret, qS_retV, qS_throw, qS_inc, qS_cl, qS_ast, qS_aop, qS_fst, qS_fop, qS_sw, qT_eC, qT_eCB, qT_eL, qT_eLJ, qT_eLR, qT_eLB, qT_e1, qT_e2, qT_bCmp, qT_bCmpJ, qT_bAnd, qT_bOr, qT_bNot, qT_eBI, qT_eIf, qT_eLd, qT_eLdR, qT_eLen, qT_eF, qT_eFR, qT_aN, qT_aS, qT_eCl, qT_eClR, qT_eClB, qT_some, qT_x, z_nx_N, z_nx_B, z_nx_R, z_nx_X, z_bk_N, z_bk_B, z_bk_R, z_bk_X, oAdd, oSub, oMul, oNeg, cLt, cLe, cGt, cGe, cEq, cNe, Option.some.injEq, Sum.inl.injEq, Sum.inr.injEq, Prod.mk.injEq, exists_eq_left, exists_eq_left', exists_eq_right, exists_and_left, reduceCtorEq, and_true, true_and, and_false, false_and, List.getElem?_cons_zero, List.getElem?_cons_succ, List.set_cons_zero, List.set_cons_succ, List.replicate, List.length_cons, List.length_nil, List.cons_append, List.nil_append, Nat.reduceAdd, Nat.reduceSub, decide_eq_true_eq, decide_eq_false_iff_not, Bool.true_eq_false, Bool.false_eq_true, true_implies, false_implies, implies_true, Nat.reduceLT, exists_const, z_vB_inj, and_assoc, z_in_iff, oI2L, oL2I, Int.toNat_natCast, z_toNat0, Bool.not_eq_true', Bool.not_eq_false', ne_eq, Bool.not_true, Bool.not_false, Nat.add_zero, Int.add_zero, z_sl_s]
      have c3 : S 22 0 < 0 ∨ ¬ S 22 0 < 0 := Classical.em _
      rcases c3 with c3 | c3
      · rw [if_pos c3] at em
        simp only [em, c3, if_true, not_true_eq_false, qS_nop, qS_seq, qS_set, qS_setJ, qS_if, qS_brk, qS_ret, qS_retV, qS_throw, qS_inc, qS_cl, qS_ast, qS_aop, qS_fst, qS_fop, qS_sw, qT_eC, qT_eCB, qT_eL, qT_eLJ, qT_eLR, qT_eLB, qT_e1, qT_e2, qT_bCmp, qT_bCmpJ, qT_bAnd, qT_bOr, qT_bNot, qT_eBI, qT_eIf, qT_eLd, qT_eLdR, qT_eLen, qT_eF, qT_eFR, qT_aN, qT_aS, qT_eCl, qT_eClR, qT_eClB, qT_some, qT_x, z_nx_N, z_nx_B, z_nx_R, z_nx_X, z_bk_N, z_bk_B, z_bk_R, z_bk_X, oAdd, oSub, oMul, oNeg, cLt, cLe, cGt, cGe, cEq, cNe, Option.some.injEq, Sum.inl.injEq, Sum.inr.injEq, Prod.mk.injEq, exists_eq_left, exists_eq_left', exists_eq_right, exists_and_left, reduceCtorEq, and_true, true_and, and_false, false_and, List.getElem?_cons_zero, List.getElem?_cons_succ, List.set_cons_zero, List.set_cons_succ, List.replicate, List.length_cons, List.length_nil, List.cons_append, List.nil_append, Nat.reduceAdd, Nat.reduceSub, decide_eq_true_eq, decide_eq_false_iff_not, Bool.true_eq_false, Bool.false_eq_true, true_implies, false_implies, implies_true, Nat.reduceLT, exists_const, z_vB_inj, and_assoc, z_in_iff, oI2L, oL2I, Int.toNat_natCast, z_toNat0, Bool.not_eq_true', Bool.not_eq_false', ne_eq, Bool.not_true, Bool.not_false, Nat.add_zero, Int.add_zero, z_sl_s]
        omega
      · rw [if_neg c3] at em
        simp only [em, c3, if_false, not_false_eq_true, qS_nop, qS_seq, qS_set, qS_setJ, qS_if, qS_brk, qS_ret, qS_retV, qS_throw, qS_inc, qS_cl, qS_ast, qS_aop, qS_fst, qS_fop, qS_sw, qT_eC, qT_eCB, qT_eL, qT_eLJ, qT_eLR, qT_eLB, qT_e1, qT_e2, qT_bCmp, qT_bCmpJ, qT_bAnd, qT_bOr, qT_bNot, qT_eBI, qT_eIf, qT_eLd, qT_eLdR, qT_eLen, qT_eF, qT_eFR, qT_aN, qT_aS, qT_eCl, qT_eClR, qT_eClB, qT_some, qT_x, z_nx_N, z_nx_B, z_nx_R, z_nx_X, z_bk_N, z_bk_B, z_bk_R, z_bk_X, oAdd, oSub, oMul, oNeg, cLt, cLe, cGt, cGe, cEq, cNe, Option.some.injEq, Sum.inl.injEq, Sum.inr.injEq, Prod.mk.injEq, exists_eq_left, exists_eq_left', exists_eq_right, exists_and_left, reduceCtorEq, and_true, true_and, and_false, false_and, List.getElem?_cons_zero, List.getElem?_cons_succ, List.set_cons_zero, List.set_cons_succ, List.replicate, List.length_cons, List.length_nil, List.cons_append, List.nil_append, Nat.reduceAdd, Nat.reduceSub, decide_eq_true_eq, decide_eq_false_iff_not, Bool.true_eq_false, Bool.false_eq_true, true_implies, false_implies, implies_true, Nat.reduceLT, exists_const, z_vB_inj, and_assoc, z_in_iff, oI2L, oL2I, Int.toNat_natCast, z_toNat0, Bool.not_eq_true', Bool.not_eq_false', ne_eq, Bool.not_true, Bool.not_false, Nat.add_zero, Int.add_zero, z_sl_s]
        omega
    · have hj4 : j < 4 := by omega
      have ih := sl_least d (j + 1) (by omega) (by omega)
      have tb := hP.2.1
      have r17 := k_q17 (show j + 1 < 5 by omega)
      have r16 := k_q17 (show j < 5 by omega)
      have t1 : (((j + 1 : Nat) : Int) - 1).toNat = j := by omega
      have kB : ∀ (f : Nat → Int) (S : Nat → Nat → Int), kF (k_u S (18 + (j + 1)) f) 10 5 = kF S 10 5 := fun f S => kF_u (by omega)
      -- the first call, with nothing taken here
      have f0 : ∃ r0 S0, m_X3_leastWithTaken d [vR 8, vI (((j + 1 : Nat) : Int) + 1), vI t, vI K, vI F] (k_W X (k_u S (18 + (j + 1)) (fun k => if k < 5 then S (18 + j) k else S (18 + (j + 1)) k))) = some (.inl (some (vI r0)), k_W X S0) ∧ (∀ x, x < 19 + (j + 1) ∨ 22 < x → S0 x = k_u S (18 + (j + 1)) (fun k => if k < 5 then S (18 + j) k else S (18 + (j + 1)) k) x) ∧ rSp (kF S 10 5) (S (18 + j)) (j + 2) t K r0 ∧ -1 ≤ r0 := by
        have ev : ∀ v, v < 5 → k_u S (18 + (j + 1)) (fun k => if k < 5 then S (18 + j) k else S (18 + (j + 1)) k) (18 + (j + 1)) v = S (18 + j) v := fun v hv => by rw [k_u_s, if_pos hv]
        obtain ⟨r0, S0, e0, fr, sp, lo⟩ := ih (k_u S (18 + (j + 1)) (fun k => if k < 5 then S (18 + j) k else S (18 + (j + 1)) k)) t K F (by rw [kB]; exact c) (fun k hk => by rw [kB, k_u_n (by omega)]; exact hN k hk) (by rw [kB]; exact hP.cg ev) hK1 hK8 hF (by
          rw [kB]
          intro a x ha hl
          exact hFl a x ⟨ha.1, fun v hv hvi => ha.2.1 v hv (by omega), ha.2.2⟩ (hl.cg (fun v hv => by rw [ev v hv])))
        rw [Int.natCast_add (j + 1), Int.natCast_one] at e0
        refine ⟨r0, S0, e0, fr, ?_, lo⟩
        rw [kB] at sp
        refine ⟨sp.1, fun a x ha hl => sp.2.1 a x ha (hl.cg (fun v hv => by rw [ev v hv])), ?_⟩
        rcases sp.2.2 with e | ⟨a, x, ha, hl, e⟩
        · exact Or.inl e
        · exact Or.inr ⟨a, x, ha, hl.cg (fun v hv => by rw [ev v hv]), e⟩
      obtain ⟨r0, S0, e0, fr0, sp0, lo0⟩ := f0
      have kB0 : kF S0 10 5 = kF S 10 5 := by
        funext x
        unfold kF
        split
        · rw [fr0 _ (by omega), k_u_n (by omega)]
        · rfl
      have hv0 := s_hv (k_net (X := X) (S := S0)) (by rw [kB0]; exact c.1.bd) (show j + 1 < 5 by omega)
      rw [kB0] at hv0
      have ecp := k_cp (X := X) (S := S) (show j < 5 by omega) (show j + 1 < 5 by omega)
      have P0 : ∀ v, v < 5 → S0 (18 + (j + 1)) v = S (18 + j) v := fun v hv => by rw [fr0 _ (by omega), k_u_s, if_pos hv]
      rw [show m_X3_leastWithTaken (d + 1) = z_body 8 (b_X3_leastWithTaken (m_X3_leastWithTaken d)) from rfl]
      apply q_bodyY
      have c1 : (((j + 1 : Nat) : Int) < 1) = False := eq_false (by omega)
      have c2 : ((5 : Int) ≤ ((j + 1 : Nat) : Int)) = False := eq_false (by omega)
      simp only [b_X3_leastWithTaken, k_o8, k_a17, r17, r16, t1, ecp, e0, hv0, c1, c2, not_false_eq_true, qS_nop, qS_seq, qS_set, qS_setJ, qS_if, qS_brk, qS_ret, qS_retV, qS_throw, qS_inc, qS_cl, qS_ast, qS_aop, qS_fst, qS_fop, qS_sw, qT_eC, qT_eCB, qT_eL, qT_eLJ, qT_eLR, qT_eLB, qT_e1, qT_e2, qT_bCmp, qT_bCmpJ, qT_bAnd, qT_bOr, qT_bNot, qT_eBI, qT_eIf, qT_eLd, qT_eLdR, qT_eLen, qT_eF, qT_eFR, qT_aN, qT_aS, qT_eCl, qT_eClR, qT_eClB, qT_some, qT_x, z_nx_N, z_nx_B, z_nx_R, z_nx_X, z_bk_N, z_bk_B, z_bk_R, z_bk_X, oAdd, oSub, oMul, oNeg, cLt, cLe, cGt, cGe, cEq, cNe, Option.some.injEq, Sum.inl.injEq, Sum.inr.injEq, Prod.mk.injEq, exists_eq_left, exists_eq_left', exists_eq_right, exists_and_left, reduceCtorEq, and_true, true_and, and_false, false_and, List.getElem?_cons_zero, List.getElem?_cons_succ, List.set_cons_zero, List.set_cons_succ, List.replicate, List.length_cons, List.length_nil, List.cons_append, List.nil_append, Nat.reduceAdd, Nat.reduceSub, decide_eq_true_eq, decide_eq_false_iff_not, Bool.true_eq_false, Bool.false_eq_true, true_implies, false_implies, implies_true, Nat.reduceLT, exists_const, z_vB_inj, and_assoc, z_in_iff, oI2L, oL2I, Int.toNat_natCast, z_toNat0, Bool.not_eq_true', Bool.not_eq_false', ne_eq, Bool.not_true, Bool.not_false, Nat.add_zero, Int.add_zero, z_sl_s]
      have rfn : ∀ r, rSp (kF S 10 5) (S (18 + j)) (j + 2) t K r → ∀ a x, aOk (kF S 10 5) (j + 1) t a → a (j + 1) = 0 → cLf (kF S 10 5) (fun v => S (18 + j) v - a v) x → r ≤ cVl t a x := fun r sp a x ha h0 hl => sp.2.1 a x ⟨ha.1, fun v hv hvi => by
          rcases Nat.lt_or_ge v (j + 1) with l | l
          · exact ha.2.1 v hv l
          · rw [show v = j + 1 by omega]; exact h0, ha.2.2⟩ hl
      have att : ∀ r, rSp (kF S 10 5) (S (18 + j)) (j + 2) t K r → (r = K ∨ ∃ a x, aOk (kF S 10 5) (j + 1) t a ∧ cLf (kF S 10 5) (fun v => S (18 + j) v - a v) x ∧ r = cVl t a x) := fun r sp => sp.2.2.elim Or.inl (fun ⟨a, x, ha, hl, e⟩ => Or.inr ⟨a, x, ⟨ha.1, fun v hv hvi => ha.2.1 v hv (by omega), ha.2.2⟩, hl, e⟩)
      have fr0' : ∀ x, x < 19 + j ∨ 22 < x → S0 x = S x := fun x hx => by rw [fr0 x (by omega), k_u_n (by omega)]
      repeat (refine And.intro (by omega) ?_)
      refine ⟨fun hn => ⟨S0, rfl, fun x hx => ?_, ⟨sp0.1, fun a x ha hl => rfn r0 sp0 a x ha (ha.2.2.1 (j + 1) (by omega) ((z_dec_f _).mp hn)) hl, att r0 sp0⟩, lo0⟩, fun hn => ?_⟩
      · rw [fr0 x (by omega), k_u_n (by omega)]
      have hn := (z_dec_iff _).mp hn
      refine sl_loop (S0 := S0) (r0 := r0) c hj4 hN hP hK1 hK8 hF hFl hn ih fr0' P0 sp0.1 lo0 (rfn r0 sp0) (att r0 sp0) (fun ρ w Ss e1 e2 e3 e4 => ?_)
      simp only [e1, qS_nop, qS_seq, qS_set, qS_setJ, qS_if, qS_brk, qS_ret, qS_retV, qS_throw, qS_inc, qS_cl, qS_ast, qS_aop, qS_fst, qS_fop, qS_sw, qT_eC, qT_eCB, qT_eL, qT_eLJ, qT_eLR, qT_eLB, qT_e1, qT_e2, qT_bCmp, qT_bCmpJ, qT_bAnd, qT_bOr, qT_bNot, qT_eBI, qT_eIf, qT_eLd, qT_eLdR, qT_eLen, qT_eF, qT_eFR, qT_aN, qT_aS, qT_eCl, qT_eClR, qT_eClB, qT_some, qT_x, z_nx_N, z_nx_B, z_nx_R, z_nx_X, z_bk_N, z_bk_B, z_bk_R, z_bk_X, oAdd, oSub, oMul, oNeg, cLt, cLe, cGt, cGe, cEq, cNe, Option.some.injEq, Sum.inl.injEq, Sum.inr.injEq, Prod.mk.injEq, exists_eq_left, exists_eq_left', exists_eq_right, exists_and_left, reduceCtorEq, and_true, true_and, and_false, false_and, List.getElem?_cons_zero, List.getElem?_cons_succ, List.set_cons_zero, List.set_cons_succ, List.replicate, List.length_cons, List.length_nil, List.cons_append, List.nil_append, Nat.reduceAdd, Nat.reduceSub, decide_eq_true_eq, decide_eq_false_iff_not, Bool.true_eq_false, Bool.false_eq_true, true_implies, false_implies, implies_true, Nat.reduceLT, exists_const, z_vB_inj, and_assoc, z_in_iff, oI2L, oL2I, Int.toNat_natCast, z_toNat0, Bool.not_eq_true', Bool.not_eq_false', ne_eq, Bool.not_true, Bool.not_false, Nat.add_zero, Int.add_zero, z_sl_s]
      exact ⟨Ss, rfl, e2, e3, e4⟩
end CY
