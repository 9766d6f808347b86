/-! CHIPS, the mathematics: how far vertices are; a weight that falls with each firing -/
section CN
variable {B : Nat → Nat → Int}
theorem nCe_pos (h : gOk B) {v : Nat} (hv : v < 5) (s : Int) : 0 < nCe B v s 5 ↔ ∃ u, u < 5 ∧ iB s u ∧ 0 < B v u := by
  rw [nCe_5]
  constructor
  · intro p
    refine Classical.byContradiction (fun c => ?_)
    have : s5 (fun u => if iB s u then B v u else 0) ≤ s5 (fun _ => 0) := s5_le (fun u hu => by
      by_cases hm : iB s u
      · rw [if_pos hm]
        rcases Int.lt_or_le 0 (B v u) with l | l
        · exact absurd ⟨u, hu, hm, l⟩ c
        · exact l
      · rw [if_neg hm]
        omega)
    have e : s5 (fun _ => (0 : Int)) = 0 := rfl
    omega
  · rintro ⟨u, hu, hm, l⟩
    have := s5_one (F := fun u => if iB s u then B v u else 0) hu (fun w hw => by
      have := (h v w hv hw).1
      split <;> omega)
    simp only [if_pos hm] at this
    omega
theorem nNrV_m {X : Nat} (hX : X < 32) : ∀ v, v ≤ 5 → ∀ u, u < 5 → (m5 (nNrV B X v) u ↔ m5 X u ∨ (u < v ∧ 0 < nCe B u (X : Int) 5))
  | 0, _, u, _ => ⟨Or.inl, fun q => q.elim id (fun q => absurd q.1 (by omega))⟩
  | v + 1, hv, u, hu => by
    have ih := nNrV_m hX v (by omega) u hu
    have b := nNrV_b (B := B) hX v (by omega)
    unfold nNrV
    split
    · next q =>
      have e := m5_or ⟨_, b⟩ ⟨v, hv⟩ ⟨u, hu⟩
      simp only at e
      rw [e, ih]
      constructor
      · rintro ((w | w) | w)
        · exact Or.inl w
        · exact Or.inr ⟨by omega, w.2⟩
        · subst w
          exact Or.inr ⟨by omega, q⟩
      · rintro (w | w)
        · exact Or.inl (Or.inl w)
        · rcases Nat.lt_succ_iff_lt_or_eq.mp w.1 with l | l
          · exact Or.inl (Or.inr ⟨l, w.2⟩)
          · exact Or.inr l
    · next q =>
      rw [ih]
      constructor
      · rintro (w | w)
        · exact Or.inl w
        · exact Or.inr ⟨by omega, w.2⟩
      · rintro (w | w)
        · exact Or.inl w
        · rcases Nat.lt_succ_iff_lt_or_eq.mp w.1 with l | l
          · exact Or.inr ⟨l, w.2⟩
          · subst l
            exact absurd w.2 q
theorem nNr_m {q : Nat} (hq : q < 5) (k : Nat) {u : Nat} (hu : u < 5) : m5 (nNr B q (k + 1)) u ↔ m5 (nNr B q k) u ∨ 0 < nCe B u (nNr B q k : Int) 5 := by
  have := nNrV_m (B := B) (nNr_b (B := B) hq k) 5 (by omega) u hu
  rw [nNr, this]
  constructor
  · rintro (w | w)
    · exact Or.inl w
    · exact Or.inr w.2
  · rintro (w | w)
    · exact Or.inl w
    · exact Or.inr ⟨hu, w⟩
theorem nNr_mono {q : Nat} (hq : q < 5) {u : Nat} (hu : u < 5) (k : Nat) : ∀ j, m5 (nNr B q k) u → m5 (nNr B q (k + j)) u
  | 0 => id
  | j + 1 => fun m => (nNr_m hq (k + j) hu).mpr (Or.inl (nNr_mono hq hu k j m))
theorem nb_sup : ∀ s t : Fin 32, (∀ u : Fin 5, m5 s.val u.val → m5 t.val u.val) → s.val = t.val ∨ nb s.val < nb t.val := by decide +kernel
theorem nNr_cl (h : gOk B) {q : Nat} (hq : q < 5) {u v : Nat} (hu : u < 5) (hv : v < 5) (m : m5 (nNr B q 4) u) (e : 0 < B v u) : m5 (nNr B q 4) v := by
  have go : ∀ k, m5 (nNr B q k) u → m5 (nNr B q (k + 1)) v := fun k m => (nNr_m hq k hv).mpr (Or.inr ((nCe_pos h hv _).mpr ⟨u, hu, m, e⟩))
  have st : ∀ {k}, nNr B q (k + 1) = nNr B q k → ∀ j, nNr B q (k + j) = nNr B q k := by
    intro k e j
    induction j with
    | zero => rfl
    | succ j ih =>
      show nNrV B (nNr B q (k + j)) 5 = _
      rw [ih]
      exact e
  by_cases hk : ∃ k, k < 4 ∧ nNr B q (k + 1) = nNr B q k
  · obtain ⟨k, hk, e1⟩ := hk
    have f := st e1 (4 - k)
    rw [show k + (4 - k) = 4 by omega] at f
    rw [f] at m ⊢
    have := go k m
    rwa [e1] at this
  · have up : ∀ k, k ≤ 4 → k + 1 ≤ nb (nNr B q k) := by
      intro k
      induction k with
      | zero =>
        intro _
        have := nb_1 ⟨q, hq⟩
        simp only at this
        show 1 ≤ nb (2 ^ q)
        omega
      | succ k ih =>
        intro hk2
        have a := ih (by omega)
        have := nb_sup ⟨_, nNr_b (B := B) hq k⟩ ⟨_, nNr_b (B := B) hq (k + 1)⟩ (fun u m => (nNr_m hq k u.isLt).mpr (Or.inl m))
        simp only at this
        rcases this with b | b
        · exact absurd ⟨k, by omega, b.symm⟩ hk
        · omega
    exact nb_5 ⟨_, nNr_b (B := B) hq 4⟩ (up 4 (by omega)) ⟨v, hv⟩
/-- how far a vertex is: 5 where it is not come to -/
def cFar (B : Nat → Nat → Int) (q v : Nat) : Nat := (if m5 (nNr B q 0) v then 0 else 1) + (if m5 (nNr B q 1) v then 0 else 1) + (if m5 (nNr B q 2) v then 0 else 1) + (if m5 (nNr B q 3) v then 0 else 1) + (if m5 (nNr B q 4) v then 0 else 1)
theorem cFar_5 (q v : Nat) : cFar B q v ≤ 5 := by
  unfold cFar
  split <;> split <;> split <;> split <;> split <;> omega
theorem cFar_k {q : Nat} (hq : q < 5) {v : Nat} (hv : v < 5) {k : Nat} (hk : k ≤ 4) : m5 (nNr B q k) v ↔ cFar B q v ≤ k := by
  have m0 := nNr_mono (B := B) hq hv 0 1
  have m1 := nNr_mono (B := B) hq hv 1 1
  have m2 := nNr_mono (B := B) hq hv 2 1
  have m3 := nNr_mono (B := B) hq hv 3 1
  simp only [Nat.zero_add, Nat.reduceAdd] at m0 m1 m2 m3
  unfold cFar
  have f : ∀ i, (m5 (nNr B q i) v ∧ (if m5 (nNr B q i) v then 0 else 1) = 0) ∨ (¬ m5 (nNr B q i) v ∧ (if m5 (nNr B q i) v then 0 else 1) = 1) := fun i => by
    by_cases p : m5 (nNr B q i) v
    · exact Or.inl ⟨p, if_pos p⟩
    · exact Or.inr ⟨p, if_neg p⟩
  have f0 := f 0
  have f1 := f 1
  have f2 := f 2
  have f3 := f 3
  have f4 := f 4
  clear f
  generalize (if m5 (nNr B q 0) v then 0 else 1) = E0 at *
  generalize (if m5 (nNr B q 1) v then 0 else 1) = E1 at *
  generalize (if m5 (nNr B q 2) v then 0 else 1) = E2 at *
  generalize (if m5 (nNr B q 3) v then 0 else 1) = E3 at *
  generalize (if m5 (nNr B q 4) v then 0 else 1) = E4 at *
  rcases (show k = 0 ∨ k = 1 ∨ k = 2 ∨ k = 3 ∨ k = 4 by omega) with rfl | rfl | rfl | rfl | rfl
  · generalize m5 (nNr B q 0) v = P0 at *
    generalize m5 (nNr B q 1) v = P1 at *
    generalize m5 (nNr B q 2) v = P2 at *
    generalize m5 (nNr B q 3) v = P3 at *
    generalize m5 (nNr B q 4) v = P4 at *
    grind
  · generalize m5 (nNr B q 0) v = P0 at *
    generalize m5 (nNr B q 1) v = P1 at *
    generalize m5 (nNr B q 2) v = P2 at *
    generalize m5 (nNr B q 3) v = P3 at *
    generalize m5 (nNr B q 4) v = P4 at *
    grind
  · generalize m5 (nNr B q 0) v = P0 at *
    generalize m5 (nNr B q 1) v = P1 at *
    generalize m5 (nNr B q 2) v = P2 at *
    generalize m5 (nNr B q 3) v = P3 at *
    generalize m5 (nNr B q 4) v = P4 at *
    grind
  · generalize m5 (nNr B q 0) v = P0 at *
    generalize m5 (nNr B q 1) v = P1 at *
    generalize m5 (nNr B q 2) v = P2 at *
    generalize m5 (nNr B q 3) v = P3 at *
    generalize m5 (nNr B q 4) v = P4 at *
    grind
  · generalize m5 (nNr B q 0) v = P0 at *
    generalize m5 (nNr B q 1) v = P1 at *
    generalize m5 (nNr B q 2) v = P2 at *
    generalize m5 (nNr B q 3) v = P3 at *
    generalize m5 (nNr B q 4) v = P4 at *
    grind
/-- what is asked of how far vertices are -/
def cLv (B : Nat → Nat → Int) (q : Nat) (l : Nat → Nat) : Prop := (∀ v, v < 5 → l v ≤ 5 ∧ (l v = 0 ↔ v = q)) ∧ (∀ u v, u < 5 → v < 5 → 0 < B u v → l u ≤ 4 → l v ≤ 4 ∧ l v ≤ l u + 1) ∧ (∀ v, v < 5 → 1 ≤ l v → l v ≤ 4 → ∃ u, u < 5 ∧ l u + 1 = l v ∧ 0 < B v u)
theorem cFar_lv (h : gOk B) {q : Nat} (hq : q < 5) : cLv B q (cFar B q) := by
  refine ⟨fun v hv => ⟨cFar_5 q v, ?_⟩, fun u v hu hv e lu => ?_, fun v hv l1 l4 => ?_⟩
  · have a := cFar_k (B := B) hq hv (show 0 ≤ 4 by omega)
    have b := m5_p ⟨q, hq⟩ ⟨v, hv⟩
    simp only at b
    rw [show nNr B q 0 = 2 ^ q from rfl, b] at a
    omega
  · have m := (cFar_k (B := B) hq hu (show 4 ≤ 4 by omega)).mpr lu
    have m4 := (cFar_k (B := B) hq hv (show 4 ≤ 4 by omega)).mp (nNr_cl h hq hu hv m (by rw [(h v u hv hu).2.2.1]; exact e))
    refine ⟨m4, ?_⟩
    rcases Nat.lt_or_ge (cFar B q u) 4 with l | l
    · have mu := (cFar_k (B := B) hq hu (show cFar B q u ≤ 4 by omega)).mpr (Nat.le_refl _)
      have e2 : 0 < B v u := by rw [(h v u hv hu).2.2.1]; exact e
      exact (cFar_k (B := B) hq hv (show cFar B q u + 1 ≤ 4 by omega)).mp ((nNr_m hq _ hv).mpr (Or.inr ((nCe_pos h hv _).mpr ⟨u, hu, mu, e2⟩)))
    · omega
  · obtain ⟨k, hk⟩ : ∃ k, cFar B q v = k + 1 := ⟨cFar B q v - 1, by omega⟩
    have m := (cFar_k (B := B) hq hv (show k + 1 ≤ 4 by omega)).mpr (by omega)
    rw [nNr_m hq k hv] at m
    rcases m with m | m
    · have := (cFar_k (B := B) hq hv (show k ≤ 4 by omega)).mp m
      omega
    · obtain ⟨u, hu, mu, e⟩ := (nCe_pos h hv _).mp m
      have lu := (cFar_k (B := B) hq hu (show k ≤ 4 by omega)).mp mu
      refine ⟨u, hu, ?_, e⟩
      rcases Nat.lt_or_ge (cFar B q u) k with l | l
      · exfalso
        have mu := (cFar_k (B := B) hq hu (show cFar B q u ≤ 4 by omega)).mpr (Nat.le_refl _)
        have := (cFar_k (B := B) hq hv (show cFar B q u + 1 ≤ 4 by omega)).mp ((nNr_m hq _ hv).mpr (Or.inr ((nCe_pos h hv _).mpr ⟨u, hu, mu, e⟩)))
        omega
      · omega
end CN
/-- how many are so far; the weights -/
def cn (l : Nat → Nat) (k : Nat) : Int := s5 (fun u => if l u = k then 1 else 0)
def cd3 (l : Nat → Nat) : Int := 1 + 3 * cn l 4
def cd2 (l : Nat → Nat) : Int := 1 + 3 * cn l 3 * cd3 l
def cd1 (l : Nat → Nat) : Int := 1 + 3 * cn l 2 * cd2 l
def cd (l : Nat → Nat) (k : Nat) : Int := if k = 1 then cd1 l else if k = 2 then cd2 l else if k = 3 then cd3 l else if k = 4 then 1 else 0
def cG (l : Nat → Nat) (k : Nat) : Int := if k = 1 then cd1 l else if k = 2 then cd1 l + cd2 l else if k = 3 then cd1 l + cd2 l + cd3 l else if k = 4 then cd1 l + cd2 l + cd3 l + 1 else 0
def cg (l : Nat → Nat) (v : Nat) : Int := cG l (l v)
theorem cn_b (l : Nat → Nat) (k : Nat) : 0 ≤ cn l k ∧ cn l k ≤ 5 := by
  simp only [cn, s5]
  split <;> split <;> split <;> split <;> split <;> omega
theorem cd_b (l : Nat → Nat) : 1 ≤ cd3 l ∧ 1 ≤ cd2 l ∧ 1 ≤ cd1 l := by
  have b2 := cn_b l 2
  have b3 := cn_b l 3
  have b4 := cn_b l 4
  have h3 : 1 ≤ cd3 l := by unfold cd3; omega
  have h2 : 1 ≤ cd2 l := by
    unfold cd2
    have := Int.mul_nonneg (show 0 ≤ 3 * cn l 3 by omega) (show 0 ≤ cd3 l by omega)
    omega
  have h1 : 1 ≤ cd1 l := by
    unfold cd1
    have := Int.mul_nonneg (show 0 ≤ 3 * cn l 2 by omega) (show 0 ≤ cd2 l by omega)
    omega
  exact ⟨h3, h2, h1⟩
theorem cd_0 (l : Nat → Nat) (k : Nat) : 0 ≤ cd l k := by
  have := cd_b l
  unfold cd
  (repeat' split) <;> omega
theorem cd_s (l : Nat → Nat) {k : Nat} (h1 : 1 ≤ k) (h4 : k ≤ 4) : cd l k = 1 + 3 * cn l (k + 1) * cd l (k + 1) := by
  rcases (show k = 1 ∨ k = 2 ∨ k = 3 ∨ k = 4 by omega) with rfl | rfl | rfl | rfl
  · rfl
  · rfl
  · show cd3 l = 1 + 3 * cn l 4 * 1
    unfold cd3
    omega
  · show (1 : Int) = 1 + 3 * cn l 5 * 0
    omega
theorem cG_s (l : Nat → Nat) {k : Nat} (h4 : k < 4) : cG l (k + 1) = cG l k + cd l (k + 1) := by
  rcases (show k = 0 ∨ k = 1 ∨ k = 2 ∨ k = 3 by omega) with rfl | rfl | rfl | rfl
  · show cd1 l = 0 + cd1 l
    omega
  · rfl
  · rfl
  · rfl
theorem cG_b (l : Nat → Nat) (k : Nat) : 0 ≤ cG l k ∧ (1 ≤ k → k ≤ 4 → 1 ≤ cG l k) := by
  have := cd_b l
  unfold cG
  (repeat' split) <;> omega
theorem cg_kb : ∀ a b c d e : Fin 6, cn (fun v => if v = 0 then a.val else if v = 1 then b.val else if v = 2 then c.val else if v = 3 then d.val else e.val) 0 = 1 → s5 (fun v => cg (fun v => if v = 0 then a.val else if v = 1 then b.val else if v = 2 then c.val else if v = 3 then d.val else e.val) v * (1 + 3 * cn (fun v => if v = 0 then a.val else if v = 1 then b.val else if v = 2 then c.val else if v = 3 then d.val else e.val) ((if v = 0 then a.val else if v = 1 then b.val else if v = 2 then c.val else if v = 3 then d.val else e.val) - 1) * cd (fun v => if v = 0 then a.val else if v = 1 then b.val else if v = 2 then c.val else if v = 3 then d.val else e.val) (if v = 0 then a.val else if v = 1 then b.val else if v = 2 then c.val else if v = 3 then d.val else e.val))) ≤ 7933 := by decide +kernel
theorem cn_cg {l m : Nat → Nat} (e : ∀ v, v < 5 → l v = m v) (k : Nat) : cn l k = cn m k := s5_eq (fun u hu => by rw [e u hu])
theorem cg_b {l : Nat → Nat} (h5 : ∀ v, v < 5 → l v ≤ 5) (h0 : cn l 0 = 1) : s5 (fun v => cg l v * (1 + 3 * cn l (l v - 1) * cd l (l v))) ≤ 7933 := by
  have k := cg_kb ⟨l 0, by have := h5 0 (by omega); omega⟩ ⟨l 1, by have := h5 1 (by omega); omega⟩ ⟨l 2, by have := h5 2 (by omega); omega⟩ ⟨l 3, by have := h5 3 (by omega); omega⟩ ⟨l 4, by have := h5 4 (by omega); omega⟩
  simp only at k
  generalize hm : (fun v => if v = 0 then l 0 else if v = 1 then l 1 else if v = 2 then l 2 else if v = 3 then l 3 else l 4) = m at k
  have e : ∀ v, v < 5 → l v = m v := fun v hv => by
    rw [← hm]
    rcases (show v = 0 ∨ v = 1 ∨ v = 2 ∨ v = 3 ∨ v = 4 by omega) with rfl | rfl | rfl | rfl | rfl <;> rfl
  have n := cn_cg e
  have d3 : cd3 l = cd3 m := by unfold cd3; rw [n]
  have d2 : cd2 l = cd2 m := by unfold cd2; rw [n, d3]
  have d1 : cd1 l = cd1 m := by unfold cd1; rw [n, d2]
  refine Int.le_trans (Int.le_of_eq (s5_eq (fun v hv => ?_))) (k (by rw [← n]; exact h0))
  have w : (if v = 0 then l 0 else if v = 1 then l 1 else if v = 2 then l 2 else if v = 3 then l 3 else l 4) = m v := by rw [← hm]
  rw [w]
  unfold cg cG cd
  rw [e v hv, n, d1, d2, d3]
section CP
variable {B : Nat → Nat → Int} {q : Nat} {l : Nat → Nat}
theorem cL_lo (h : gOk B) (hl : cLv B q l) {v : Nat} (hv : v < 5) (l1 : 1 ≤ l v) (l4 : l v ≤ 4) : 1 ≤ cL B (cg l) v := by
  obtain ⟨x, hx, ex, bx⟩ := hl.2.2 v hv l1 l4
  have dk := cd_0 l (l v)
  have dk1 := cd_0 l (l v + 1)
  have es := cd_s l l1 l4
  have lo : ∀ u, u < 5 → (if u = x then cd l (l v) else 0) - (3 * cd l (l v + 1)) * (if l u = l v + 1 then 1 else 0) ≤ B v u * (cg l v - cg l u) := by
    intro u hu
    have b := h v u hv hu
    rcases Int.lt_or_le 0 (B v u) with p | p
    · have a1 := hl.2.1 v u hv hu p l4
      have a2 := hl.2.1 u v hu hv (by rw [← b.2.2.1]; exact p) a1.1
      rcases (show l u + 1 = l v ∨ l u = l v ∨ l u = l v + 1 by omega) with c | c | c
      · have e : cg l v - cg l u = cd l (l v) := by
          unfold cg
          rw [← c, cG_s l (by omega)]
          omega
        rw [e, if_neg (show ¬ l u = l v + 1 by omega)]
        have := Int.mul_le_mul_of_nonneg_right (show 1 ≤ B v u by omega) dk
        split <;> omega
      · have e : cg l v - cg l u = 0 := by
          unfold cg
          rw [c]
          omega
        rw [e, if_neg (show ¬ l u = l v + 1 by omega), if_neg (show ¬ u = x by rintro rfl; omega)]
        omega
      · have e : cg l v - cg l u = - cd l (l v + 1) := by
          unfold cg
          rw [c, cG_s l (by omega)]
          omega
        rw [e, if_pos c, if_neg (show ¬ u = x by rintro rfl; omega), Int.mul_neg]
        have := Int.mul_le_mul_of_nonneg_right b.2.1 dk1
        omega
    · have : B v u = 0 := by omega
      rw [this, Int.zero_mul, if_neg (show ¬ u = x by rintro rfl; omega)]
      split <;> omega
  have s := s5_le lo
  rw [s5_sub, s5_mul] at s
  have sx : s5 (fun u => if u = x then cd l (l v) else 0) = cd l (l v) := by
    simp only [s5]
    rcases (show x = 0 ∨ x = 1 ∨ x = 2 ∨ x = 3 ∨ x = 4 by omega) with rfl | rfl | rfl | rfl | rfl <;> simp
  have sn : s5 (fun u => if l u = l v + 1 then 1 else 0) = cn l (l v + 1) := rfl
  rw [sx, sn] at s
  rw [Int.mul_assoc, Int.mul_comm (cn l (l v + 1)), ← Int.mul_assoc] at es
  show 1 ≤ s5 (fun u => B v u * (cg l v - cg l u))
  omega
theorem cL_hi (h : gOk B) (hl : cLv B q l) {v : Nat} (hv : v < 5) (l1 : 1 ≤ l v) (l4 : l v ≤ 4) : cL B (cg l) v ≤ 3 * cn l (l v - 1) * cd l (l v) := by
  have dk := cd_0 l (l v)
  have dk1 := cd_0 l (l v + 1)
  have hi : ∀ u, u < 5 → B v u * (cg l v - cg l u) ≤ (3 * cd l (l v)) * (if l u = l v - 1 then 1 else 0) := by
    intro u hu
    have b := h v u hv hu
    rcases Int.lt_or_le 0 (B v u) with p | p
    · have a1 := hl.2.1 v u hv hu p l4
      have a2 := hl.2.1 u v hu hv (by rw [← b.2.2.1]; exact p) a1.1
      rcases (show l u + 1 = l v ∨ l u = l v ∨ l u = l v + 1 by omega) with c | c | c
      · have e : cg l v - cg l u = cd l (l v) := by
          unfold cg
          rw [← c, cG_s l (by omega)]
          omega
        rw [e, if_pos (show l u = l v - 1 by omega)]
        have := Int.mul_le_mul_of_nonneg_right b.2.1 dk
        omega
      · have e : cg l v - cg l u = 0 := by
          unfold cg
          rw [c]
          omega
        rw [e]
        split <;> omega
      · have e : cg l v - cg l u = - cd l (l v + 1) := by
          unfold cg
          rw [c, cG_s l (by omega)]
          omega
        rw [e, Int.mul_neg]
        have := Int.mul_nonneg b.1 dk1
        split <;> omega
    · have : B v u = 0 := by omega
      rw [this, Int.zero_mul]
      split <;> omega
  have s := s5_le hi
  rw [s5_mul] at s
  have sn : s5 (fun u => if l u = l v - 1 then 1 else 0) = cn l (l v - 1) := rfl
  rw [sn] at s
  show s5 (fun u => B v u * (cg l v - cg l u)) ≤ _
  rw [Int.mul_assoc, Int.mul_comm (cn l (l v - 1)), ← Int.mul_assoc]
  exact s
/-- what the weight is of chips that are paid by borrowing no more than M times the weight -/
theorem cW_b (h : gOk B) (hq : q < 5) (hl : cLv B q l) {M : Int} (hM : 0 ≤ M) {V b W : Nat → Int} (hV : ∀ v, v < 5 → V v ≤ M) (hb : ∀ v, v < 5 → 0 ≤ b v ∧ b v ≤ M * cg l v) (hW : ∀ v, v < 5 → W v = V v + cL B b v) : s5 (fun v => cg l v * W v) ≤ M * 7933 := by
  have h0 : cn l 0 = 1 := by
    have e : cn l 0 = s5 (fun u => if u = q then 1 else 0) := s5_eq (fun u hu => by
      have := (hl.1 u hu).2
      by_cases c : u = q
      · rw [if_pos c, if_pos (this.mpr c)]
      · rw [if_neg c, if_neg (fun w => c (this.mp w))])
    rw [e]
    simp only [s5]
    rcases (show q = 0 ∨ q = 1 ∨ q = 2 ∨ q = 3 ∨ q = 4 by omega) with rfl | rfl | rfl | rfl | rfl <;> simp
  have e : s5 (fun v => cg l v * W v) = s5 (fun v => cg l v * V v) + s5 (fun v => b v * cL B (cg l) v) := by
    rw [← cL_sym h, ← s5_add]
    refine s5_eq (fun v hv => ?_)
    rw [hW v hv, Int.mul_add]
  have t : s5 (fun v => cg l v * V v + b v * cL B (cg l) v) ≤ s5 (fun v => M * (cg l v * (1 + 3 * cn l (l v - 1) * cd l (l v)))) := by
    refine s5_le (fun v hv => ?_)
    have g0 := cG_b l (l v)
    have gb : cg l v = cG l (l v) := rfl
    have b1 := hb v hv
    have v1 := hV v hv
    have x1 : cg l v * V v ≤ cg l v * M := Int.mul_le_mul_of_nonneg_left v1 (by omega)
    have nn := cn_b l (l v - 1)
    have dd := cd_0 l (l v)
    by_cases hk : 1 ≤ l v ∧ l v ≤ 4
    · have lo := cL_lo h hl hv hk.1 hk.2
      have hi := cL_hi h hl hv hk.1 hk.2
      have x2 : b v * cL B (cg l) v ≤ (M * cg l v) * cL B (cg l) v := Int.mul_le_mul_of_nonneg_right b1.2 (by omega)
      have x3 : (M * cg l v) * cL B (cg l) v ≤ (M * cg l v) * (3 * cn l (l v - 1) * cd l (l v)) := Int.mul_le_mul_of_nonneg_left hi (by omega)
      have x4 : M * (cg l v * (1 + 3 * cn l (l v - 1) * cd l (l v))) = cg l v * M + (M * cg l v) * (3 * cn l (l v - 1) * cd l (l v)) := by
        rw [Int.mul_add, Int.mul_one, Int.mul_add, Int.mul_comm M (cg l v), ← Int.mul_assoc M, Int.mul_comm M (cg l v)]
      omega
    · have z : cg l v = 0 := by
        have := (hl.1 v hv).1
        rcases (show l v = 0 ∨ l v = 5 by omega) with c | c <;> (unfold cg; rw [c]; rfl)
      rw [z] at b1 ⊢
      rw [Int.mul_zero] at b1
      have : b v = 0 := by omega
      rw [this]
      omega
  rw [s5_add, s5_mul] at t
  have k := Int.mul_le_mul_of_nonneg_left (cg_b (fun v hv => (hl.1 v hv).1) h0) hM
  omega
end CP
