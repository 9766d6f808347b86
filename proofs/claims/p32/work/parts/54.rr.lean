/-! RANKS, both ways: what can be taken away; an order of the vertices for what is not; the rest of the canonical ones -/
theorem ite_nn {P : Prop} [Decidable P] {x : Int} (h : 0 ≤ x) : 0 ≤ if P then x else 0 := by
  split
  · exact h
  · exact Int.le_refl 0
theorem ite_n0 {P : Prop} [Decidable P] {x : Int} (h : 0 ≤ x) : 0 ≤ if P then 0 else x := by
  split
  · exact Int.le_refl 0
  · exact h
section RR
variable {B : Nat → Nat → Int}
/-- some ALIKE one has 0 or more everywhere -/
def cEf (B : Nat → Nat → Int) (V : Nat → Int) : Prop := ∃ W, hEq B V W ∧ ∀ v, v < 5 → nHv B v → 0 ≤ W v
theorem cEf.eq {V W : Nat → Int} (e : hEq B V W) (h : cEf B W) : cEf B V := by
  obtain ⟨U, a, b⟩ := h
  exact ⟨U, e.tr a, b⟩
theorem cEf.cg {V V' : Nat → Int} (e : ∀ v, v < 5 → nHv B v → V' v = V v) (h : cEf B V) : cEf B V' := by
  obtain ⟨W, ⟨f, hf⟩, b⟩ := h
  refine ⟨fun v => V' v - cL B f v, ⟨f, fun v _ => rfl⟩, fun v hv hn => ?_⟩
  have := b v hv hn
  rw [hf v hv] at this
  show 0 ≤ V' v - cL B f v
  rw [e v hv hn]
  exact this
theorem cEf.up {V V' : Nat → Int} (e : ∀ v, v < 5 → nHv B v → V v ≤ V' v) (h : cEf B V) : cEf B V' := by
  obtain ⟨W, ⟨f, hf⟩, b⟩ := h
  refine ⟨fun v => V' v - cL B f v, ⟨f, fun v _ => rfl⟩, fun v hv hn => ?_⟩
  have := b v hv hn
  rw [hf v hv] at this
  have := e v hv hn
  show 0 ≤ V' v - cL B f v
  omega
theorem cL_top (g : gOk B) {f : Nat → Int} {q : Nat} (hq : q < 5) (t : ∀ v, v < 5 → nHv B v → f v ≤ f q) : 0 ≤ cL B f q := by
  have h0 : s5 (fun _ => (0 : Int)) = 0 := rfl
  rw [← h0]
  refine s5_le (fun u hu => ?_)
  rcases Int.lt_or_le 0 (B q u) with hb | hb
  · have nu := (hv_e g hu hq hb).1
    exact Int.mul_nonneg (Int.le_of_lt hb) (by have := t u hu nu; omega)
  · have : B q u = 0 := by have := (g q u hq hu).1; omega
    rw [this]
    simp
theorem cEf.red (c : cOk B 0) {V W : Nat → Int} (e : hEq B V W) (r : cRd B 0 W) : cEf B V ↔ 0 ≤ W 0 := by
  constructor
  · rintro ⟨U, e2, hU⟩
    obtain ⟨f, hf⟩ := e.sy.tr e2
    have t := r.top c.1 hf (fun v hv _ hn => hU v hv hn) (by decide) (Or.inl rfl)
    have h1 := cL_top c.1 (by decide) t
    have h2 := hU 0 (by decide) (Or.inl rfl)
    rw [hf 0 (by decide)] at h2
    omega
  · intro h
    refine ⟨W, e, fun v hv hn => ?_⟩
    by_cases h0 : v = 0
    · subst h0; exact h
    · exact r.1 v hv h0 hn
theorem rd_ex (c : cOk B 0) {V : Nat → Int} (hV : nVb V 126) : ∃ W, hEq B V W ∧ cRd B 0 W := by
  obtain ⟨-, -, m, r3, -, r5⟩ := nRed c hV
  exact ⟨_, r3.1, r5⟩
/-- an order's chips: of each vertex, its edges to those ahead of it, less 1 -/
def cNu (B : Nat → Nat → Int) (p : Nat → Nat) (v : Nat) : Int := s5 (fun u => if p u < p v then B v u else 0) - 1
def cIj (B : Nat → Nat → Int) (p : Nat → Nat) : Prop := ∀ u v, u < 5 → v < 5 → nHv B u → nHv B v → u ≠ v → p u ≠ p v
theorem cNu.no (g : gOk B) {p : Nat → Nat} (hp : cIj B p) : ¬ cEf B (cNu B p) := by
  rintro ⟨W, ⟨f, hf⟩, hW⟩
  obtain ⟨w, hw, pw, mw⟩ := mx5 (nHv B) f 5 ⟨0, by decide, Or.inl rfl⟩
  obtain ⟨v, hv, ⟨pv, fv⟩, mv⟩ := mx5 (fun u => nHv B u ∧ f u = f w) (fun u => -(p u : Int)) 5 ⟨w, hw, pw, rfl⟩
  have h1 := hW v hv pv
  rw [hf v hv] at h1
  have h2 : s5 (fun u => if p u < p v then B v u else 0) ≤ cL B f v := by
    refine s5_le (fun u hu => ?_)
    rcases Int.lt_or_le 0 (B v u) with hb | hb
    · have nu := (hv_e g hu hv hb).1
      have l1 := mw u hu nu
      split
      · next hlt =>
        have l2 : f u ≠ f w := fun q => by
          have := mv u hu ⟨nu, q⟩
          omega
        have := Int.mul_le_mul_of_nonneg_left (show (1 : Int) ≤ f v - f u by omega) (Int.le_of_lt hb)
        omega
      · exact Int.mul_nonneg (Int.le_of_lt hb) (by omega)
    · have : B v u = 0 := by have := (g v u hv hu).1; omega
      rw [this]
      simp
  unfold cNu at h1
  omega
/-- the order in which the fire comes -/
theorem cRd.ord (g : gOk B) {U : Nat → Int} (r : cRd B 0 U) : ∀ n s : Nat, s < 32 → nb s = n → (∀ v, v < 5 → m5 s v → nHv B v ∧ v ≠ 0) → ∃ p : Nat → Nat, (∀ v, v < 5 → ¬ m5 s v → p v = 0) ∧ (∀ v, v < 5 → m5 s v → 1 ≤ p v ∧ p v ≤ n) ∧ (∀ u v, u < 5 → v < 5 → m5 s u → m5 s v → u ≠ v → p u ≠ p v) ∧ ∀ v, v < 5 → m5 s v → U v + 1 ≤ s5 (fun u => if p u < p v then B v u else 0) := by
  intro n
  induction n with
  | zero =>
    intro s hs hn hm
    have h0 : s = 0 := nb_0 ⟨s, hs⟩ hn
    subst h0
    exact ⟨fun _ => 0, fun _ _ _ => rfl, fun v hv m => absurd m (m5_0 ⟨v, hv⟩), fun u v hu hv m => absurd m (m5_0 ⟨u, hu⟩), fun v hv m => absurd m (m5_0 ⟨v, hv⟩)⟩
  | succ n ih =>
    intro s hs hn hm
    have hex : ∃ v, v < 5 ∧ m5 s v ∧ U v < nCe B v (-(s : Int) - 1) 5 := by
      rcases Classical.em (∃ v, v < 5 ∧ m5 s v ∧ U v < nCe B v (-(s : Int) - 1) 5) with h | h
      · exact h
      · have h0 := r.2 s hs hm (fun v hv m => Int.not_lt.mp fun q => h ⟨v, hv, m, q⟩)
        subst h0
        have : nb 0 = 0 := by decide
        omega
    obtain ⟨w, hw, mw, lw⟩ := hex
    have e1 := nb_rm ⟨s, hs⟩ ⟨w, hw⟩ mw
    have e2 : ∀ u, u < 5 → (m5 (s - 2 ^ w) u ↔ m5 s u ∧ u ≠ w) := fun u hu => m5_sub ⟨s, hs⟩ ⟨w, hw⟩ ⟨u, hu⟩ mw
    simp only at e1
    obtain ⟨p, p1, p2, p3, p4⟩ := ih (s - 2 ^ w) (Nat.lt_of_le_of_lt (Nat.sub_le _ _) hs) (by omega) (fun v hv m => hm v hv ((e2 v hv).mp m).1)
    have q0 : ∀ u, u < 5 → m5 s u → u ≠ w → 1 ≤ p u ∧ p u ≤ n := fun u hu m ne => p2 u hu ((e2 u hu).mpr ⟨m, ne⟩)
    refine ⟨fun u => if u = w then 1 else if m5 s u then p u + 1 else 0, fun v hv m => ?_, fun v hv m => ?_, fun u v hu hv mu mv ne => ?_, fun v hv m => ?_⟩
    · by_cases c : v = w
      · subst c; exact absurd mw m
      · simp [c, m]
    · by_cases c : v = w
      · simp [c]
      · have := q0 v hv m c
        simp only [if_neg c, if_pos m]
        omega
    · by_cases c : u = w
      · by_cases d : v = w
        · omega
        · have := q0 v hv mv d
          simp only [if_pos c, if_neg d, if_pos mv]
          omega
      · have := q0 u hu mu c
        by_cases d : v = w
        · simp only [if_neg c, if_pos d, if_pos mu]
          omega
        · have := p3 u v hu hv ((e2 u hu).mpr ⟨mu, c⟩) ((e2 v hv).mpr ⟨mv, d⟩) ne
          simp only [if_neg c, if_neg d, if_pos mu, if_pos mv]
          omega
    · by_cases c : v = w
      · subst c
        have e3 : s5 (fun u => if (if u = v then 1 else if m5 s u then p u + 1 else 0) < (if v = v then 1 else if m5 s v then p v + 1 else 0) then B v u else 0) = nCe B v (-(s : Int) - 1) 5 := by
          rw [nCe_5]
          refine s5_eq (fun u hu => ?_)
          have e := m5_not ⟨s, hs⟩ ⟨u, hu⟩
          simp only at e
          by_cases hm2 : m5 s u
          · rw [if_neg (fun q => e.mp q hm2)]
            by_cases d : u = v
            · simp [d]
            · simp [d, hm2]
          · rw [if_pos (e.mpr hm2)]
            have d : u ≠ v := fun q => hm2 (q ▸ mw)
            simp [d, hm2]
        show U v + 1 ≤ s5 (fun u => if (if u = v then 1 else if m5 s u then p u + 1 else 0) < (if v = v then 1 else if m5 s v then p v + 1 else 0) then B v u else 0)
        rw [e3]
        omega
      · have h1 := p4 v hv ((e2 v hv).mpr ⟨m, c⟩)
        have h2 := q0 v hv m c
        refine Int.le_trans h1 (s5_le (fun u hu => ?_))
        have b0 := (g v u hv hu).1
        simp only [if_neg c, if_pos m]
        by_cases l : p u < p v
        · rw [if_pos l, if_pos]
          · exact Int.le_refl _
          · split
            · omega
            · split <;> omega
        · rw [if_neg l]
          exact ite_nn b0
/-- what isn't ALIKE to any with 0 or more everywhere stands below some order's -/
theorem cEf.ord (c : cOk B 0) {D : Nat → Int} (hD : nVb D 126) (h : ¬ cEf B D) : ∃ (p : Nat → Nat) (E : Nat → Int), cIj B p ∧ (∀ v, v < 5 → p v ≤ 5) ∧ hEq B (fun v => cNu B p v - D v) E ∧ ∀ v, v < 5 → nHv B v → 0 ≤ E v := by
  obtain ⟨U, e, r⟩ := rd_ex c hD
  have hU : U 0 < 0 := Int.not_le.mp fun q => h ((cEf.red c e r).mpr q)
  obtain ⟨s, hs, ms⟩ := m5_of (fun v => nHv B v ∧ v ≠ 0)
  obtain ⟨p, p1, p2, p3, p4⟩ := r.ord c.1 (nb s) s hs rfl (fun v hv m => (ms v hv).mp m)
  have n5 : nb s ≤ 5 := nb_le ⟨s, hs⟩
  have hp0 : p 0 = 0 := p1 0 (by decide) (fun m => ((ms 0 (by decide)).mp m).2 rfl)
  obtain ⟨f, hf⟩ := e
  refine ⟨p, fun v => cNu B p v - U v, fun u v hu hv nu nv ne => ?_, fun v hv => ?_, ⟨fun x => - f x, fun v hv => ?_⟩, fun v hv hn => ?_⟩
  · by_cases cu : u = 0
    · have mv := (ms v hv).mpr ⟨nv, fun q => ne (cu.trans q.symm)⟩
      have := p2 v hv mv
      rw [cu, hp0]
      omega
    · have mu := (ms u hu).mpr ⟨nu, cu⟩
      by_cases cv : v = 0
      · have := p2 u hu mu
        rw [cv, hp0]
        omega
      · exact p3 u v hu hv mu ((ms v hv).mpr ⟨nv, cv⟩) ne
  · by_cases m : m5 s v
    · have := p2 v hv m; omega
    · rw [p1 v hv m]; omega
  · have : cL B (fun x => - f x) v = - cL B f v := by
      have := cL_mul (B := B) (-1) f v
      rw [show (fun x => - f x) = fun x => -1 * f x from funext fun x => by omega, this]
      omega
    show cNu B p v - U v = cNu B p v - D v - cL B (fun x => - f x) v
    rw [this, hf v hv]
    omega
  · show 0 ≤ cNu B p v - U v
    unfold cNu
    by_cases h0 : v = 0
    · subst h0
      have : s5 (fun u => if p u < p 0 then B 0 u else 0) = 0 := s5_0 (fun u _ => by rw [hp0]; simp)
      omega
    · have := p4 v hv ((ms v hv).mpr ⟨hn, h0⟩)
      omega
theorem hEq.off0 (g : gOk B) {V W : Nat → Int} (e : hEq B V W) {v : Nat} (hv : v < 5) (hn : ¬ nHv B v) : W v = V v := by
  obtain ⟨f, hf⟩ := e
  rw [hf v hv, cL_iso g hv hn]
  omega
theorem cRd.bd (c : cOk B 0) {V W : Nat → Int} (hV : nVb V 113) (e : hEq B V W) (r : cRd B 0 W) (h0 : 0 ≤ W 0) (hd : nDg B V 5 ≤ 8) : nVb W 113 := fun v hv => by
  by_cases hn : nHv B v
  · by_cases h : v = 0
    · subst h
      have z := (r.z c.1).1
      rw [nDg_eq c.1 e] at z
      omega
    · have := r.1 v hv h hn
      have := r.hi c.1 hv h hn
      omega
  · rw [e.off0 c.1 hv hn]
    exact hV v hv
/-- as much as the rank may be taken -/
theorem rk_1 (c : cOk B 0) {V : Nat → Int} {r : Int} (hV : nVb V 113) (hd : nDg B V 5 ≤ 8) (h : rkOf B V r) {a : Nat → Int} (ha : ∀ v, v < 5 → 0 ≤ a v) (hn : ∀ v, v < 5 → ¬ nHv B v → a v = 0) (hs : s5 a ≤ r) : cEf B (fun v => V v - a v) := by
  obtain ⟨W, e, rd, h3⟩ := h
  have sa := s5_nn ha
  rcases h3 with ⟨h4, h5⟩ | ⟨h4, h5, h6, -⟩
  · omega
  · have z := (rd.z c.1).1
    rw [nDg_eq c.1 e] at z
    have bW := rd.bd c hV e h4 hd
    have hs0 : s5 (fun v => if v = 0 then 0 else a v) = s5 a - a 0 := by
      unfold s5
      simp
      omega
    have a0 := ha 0 (by decide)
    have sa' : 0 ≤ s5 (fun v => if v = 0 then 0 else a v) := s5_nn (fun v hv => ite_n0 (ha v hv))
    have one : ∀ v, v < 5 → a v ≤ s5 a := fun v hv => s5_one hv ha
    have aok : aOk B 1 0 (fun v => if v = 0 then 0 else a v) := ⟨fun v hv => ite_n0 (ha v hv), fun v hv h1 => if_pos (by omega), fun v hv hn2 => (if_neg (fun q => hn2 (Or.inl q))).trans (hn v hv hn2), by omega⟩
    obtain ⟨U, e2, rd2⟩ := rd_ex c (V := fun v => W v - (if v = 0 then 0 else a v)) (fun v hv => by
      have := bW v hv
      have := one v hv
      have := ha v hv
      show -126 ≤ W v - (if v = 0 then 0 else a v) ∧ W v - (if v = 0 then 0 else a v) ≤ 126
      split <;> omega)
    have h7 := h6 _ _ aok ⟨U, e2, rd2, rfl⟩
    unfold cVl at h7
    rw [hs0] at h7 sa'
    have hx : 0 ≤ U 0 := by
      rcases Int.lt_or_le (U 0) 0 with q | q
      · rw [if_pos q] at h7; omega
      · exact q
    rw [if_neg (by omega)] at h7
    have e3 : hEq B (fun v => V v - a v) (fun v => U v - (if v = 0 then a 0 else 0)) := by
      have t1 : hEq B (fun v => V v - a v) (fun v => W v - a v) := e.ad a
      have t2 := e2.ad (fun v => if v = 0 then a 0 else 0)
      refine t1.tr (hEq.cg (fun v hv => ?_) t2)
      by_cases q : v = 0
      · subst q; simp
      · simp [q]
    refine (cEf.red c e3 (rd2.at0 _)).mpr ?_
    show 0 ≤ U 0 - (if 0 = 0 then a 0 else 0)
    rw [if_pos rfl]
    omega
theorem s5_e0 (a : Nat → Int) (x : Int) : s5 (fun v => a v + (if v = 0 then x else 0)) = s5 a + x := by
  unfold s5
  simp
  omega
/-- some that are one more may not -/
theorem rk_2 (c : cOk B 0) {V : Nat → Int} {r : Int} (hd : nDg B V 5 ≤ 8) (h : rkOf B V r) : ∃ a : Nat → Int, (∀ v, v < 5 → 0 ≤ a v ∧ a v ≤ 10) ∧ (∀ v, v < 5 → ¬ nHv B v → a v = 0) ∧ s5 a = r + 1 ∧ ¬ cEf B (fun v => V v - a v) := by
  obtain ⟨W, e, rd, h3⟩ := h
  rcases h3 with ⟨h4, h5⟩ | ⟨h4, h5, -, h6⟩
  · refine ⟨fun _ => 0, fun _ _ => by simp, fun _ _ _ => rfl, by rw [h5]; rfl, fun q => ?_⟩
    have := (cEf.red c e rd).mp (cEf.cg (fun v _ _ => by simp) q)
    omega
  · have z := (rd.z c.1).1
    rw [nDg_eq c.1 e] at z
    have fin : ∀ (a : Nat → Int) (x : Int) (U : Nat → Int), (∀ v, v < 5 → 0 ≤ a v) → (∀ v, v < 5 → ¬ nHv B v → a v = 0) → hEq B (fun v => W v - a v) U → cRd B 0 U → U 0 = x → 0 ≤ x → r = s5 a + x → ∃ a : Nat → Int, (∀ v, v < 5 → 0 ≤ a v ∧ a v ≤ 10) ∧ (∀ v, v < 5 → ¬ nHv B v → a v = 0) ∧ s5 a = r + 1 ∧ ¬ cEf B (fun v => V v - a v) := by
      intro a x U ha hn e2 rd2 hU hx hr
      have one : ∀ v, v < 5 → a v ≤ s5 a := fun v hv => s5_one hv ha
      have one0 := one 0 (by decide)
      have sa := s5_nn ha
      refine ⟨fun v => a v + (if v = 0 then x + 1 else 0), fun v hv => ?_, fun v hv hn2 => ?_, ?_, fun q => ?_⟩
      · have := one v hv
        have := ha v hv
        show 0 ≤ a v + (if v = 0 then x + 1 else 0) ∧ a v + (if v = 0 then x + 1 else 0) ≤ 10
        split <;> omega
      · have : v ≠ 0 := fun q => hn2 (Or.inl q)
        show a v + (if v = 0 then x + 1 else 0) = 0
        rw [if_neg this, hn v hv hn2]
        rfl
      · rw [s5_e0]; omega
      · have e3 : hEq B (fun v => V v - (a v + (if v = 0 then x + 1 else 0))) (fun v => U v - (if v = 0 then x + 1 else 0)) := by
          have t1 : hEq B (fun v => V v - (a v + (if v = 0 then x + 1 else 0))) (fun v => W v - (a v + (if v = 0 then x + 1 else 0))) := e.ad _
          have t2 := e2.ad (fun v => if v = 0 then x + 1 else 0)
          exact t1.tr (hEq.cg (fun v hv => by show W v - (a v + (if v = 0 then x + 1 else 0)) = W v - a v - (if v = 0 then x + 1 else 0); omega) t2)
        have := (cEf.red c e3 (rd2.at0 _)).mp q
        have h9 : (0 : Int) ≤ U 0 - (if 0 = 0 then x + 1 else 0) := this
        rw [if_pos rfl] at h9
        omega
    rcases h6 with h6 | ⟨a, x, ha, ⟨U, e2, rd2, hU⟩, h6⟩
    · exact fin (fun _ => 0) (W 0) W (fun _ _ => Int.le_refl 0) (fun _ _ _ => rfl) (hEq.cg (fun v _ => by simp) (hEq.rf W)) rd rfl h4 (by rw [h6]; show _ = 0 + W 0; omega)
    · unfold cVl at h6
      by_cases q : x < 0
      · rw [if_pos q] at h6
        have one : ∀ v, v < 5 → a v ≤ s5 a := fun v hv => s5_one hv ha.1
        refine ⟨a, fun v hv => ⟨ha.1 v hv, by have := one v hv; omega⟩, ha.2.2.1, by omega, fun w => ?_⟩
        have := (cEf.red c ((e.ad a).tr e2) rd2).mp w
        omega
      · rw [if_neg q] at h6
        exact fin a x U ha.1 ha.2.2.1 e2 rd2 hU (by omega) (by omega)
-- degrees
noncomputable def cT (B : Nat → Nat → Int) (p : Nat → Nat) (i j : Nat) : Int := if z_dec (nHv B i) = true then (if p j < p i then B i j else 0) else 0
theorem cT_p (g : gOk B) {p : Nat → Nat} (hp : cIj B p) {i j : Nat} (hi : i < 5) (hj : j < 5) (ne : i ≠ j) : cT B p i j + cT B p j i = B i j := by
  unfold cT
  have sy := (g i j hi hj).2.2.1
  rcases Int.lt_or_le 0 (B i j) with hb | hb
  · obtain ⟨n1, n2⟩ := hv_e g hj hi hb
    have := hp i j hi hj n2 n1 ne
    rw [if_pos ((z_dec_iff _).mpr n2), if_pos ((z_dec_iff _).mpr n1), ← sy]
    by_cases l : p j < p i
    · rw [if_pos l, if_neg (by omega)]; omega
    · rw [if_neg l, if_pos (by omega)]; omega
  · have : B i j = 0 := by have := (g i j hi hj).1; omega
    rw [← sy, this]
    simp
theorem cT_d (g : gOk B) {p : Nat → Nat} {i : Nat} (hi : i < 5) : cT B p i i = 0 := by
  unfold cT
  rw [(g i i hi hi).2.2.2 rfl]
  simp
theorem z_cnt_5 (P : Nat → Bool) : z_cnt P 5 = s5 (fun v => if P v = true then 1 else 0) := by
  simp only [z_cnt, s5]
  omega
theorem cNu_dg (g : gOk B) {p : Nat → Nat} (hp : cIj B p) : nDg B (cNu B p) 5 = nGn B - 1 := by
  have e1 : nDg B (cNu B p) 5 = s5 (fun v => s5 (fun u => cT B p v u)) - z_cnt (fun v => z_dec (nHv B v)) 5 := by
    rw [nDg_5, z_cnt_5, ← s5_sub]
    refine s5_eq (fun v hv => ?_)
    unfold cNu cT
    by_cases h : z_dec (nHv B v) = true
    · simp only [if_pos h]
    · simp only [if_neg h]
      rfl
  have e2 : s5 (fun v => s5 (fun u => cT B p v u)) = nEd B := by
    rw [nEd_e g]
    have h01 := cT_p g hp (i := 0) (j := 1) (by decide) (by decide) (by decide)
    have h02 := cT_p g hp (i := 0) (j := 2) (by decide) (by decide) (by decide)
    have h03 := cT_p g hp (i := 0) (j := 3) (by decide) (by decide) (by decide)
    have h04 := cT_p g hp (i := 0) (j := 4) (by decide) (by decide) (by decide)
    have h12 := cT_p g hp (i := 1) (j := 2) (by decide) (by decide) (by decide)
    have h13 := cT_p g hp (i := 1) (j := 3) (by decide) (by decide) (by decide)
    have h14 := cT_p g hp (i := 1) (j := 4) (by decide) (by decide) (by decide)
    have h23 := cT_p g hp (i := 2) (j := 3) (by decide) (by decide) (by decide)
    have h24 := cT_p g hp (i := 2) (j := 4) (by decide) (by decide) (by decide)
    have h34 := cT_p g hp (i := 3) (j := 4) (by decide) (by decide) (by decide)
    have d0 := cT_d g (p := p) (i := 0) (by decide)
    have d1 := cT_d g (p := p) (i := 1) (by decide)
    have d2 := cT_d g (p := p) (i := 2) (by decide)
    have d3 := cT_d g (p := p) (i := 3) (by decide)
    have d4 := cT_d g (p := p) (i := 4) (by decide)
    simp only [s5]
    omega
  rw [e1, e2]
  unfold nGn
  omega
theorem nDg_add (V W : Nat → Int) : nDg B (fun v => V v + W v) 5 = nDg B V 5 + nDg B W 5 := by
  rw [nDg_5, nDg_5, nDg_5, ← s5_add]
  exact s5_eq (fun v _ => by split <;> rfl)
theorem nDg_sub (V W : Nat → Int) : nDg B (fun v => V v - W v) 5 = nDg B V 5 - nDg B W 5 := by
  rw [nDg_5, nDg_5, nDg_5, ← s5_sub]
  exact s5_eq (fun v _ => by split <;> rfl)
theorem nDg_on {a : Nat → Int} (hn : ∀ v, v < 5 → ¬ nHv B v → a v = 0) : nDg B a 5 = s5 a := by
  rw [nDg_5]
  refine s5_eq (fun v hv => ?_)
  split
  · rfl
  · next h => rw [hn v hv (fun q => h ((z_dec_iff _).mpr q))]
/-- the rest of an order's is that of the order turned round -/
theorem cNu_rv (g : gOk B) {p : Nat → Nat} (hp : cIj B p) (h5 : ∀ v, v < 5 → p v ≤ 5) {v : Nat} (hv : v < 5) (hn : nHv B v) : nAll B v - 2 - cNu B p v = cNu B (fun u => 10 - p u) v := by
  unfold cNu
  rw [nAll_5]
  show s5 (fun u => B v u) - 2 - (s5 (fun u => if p u < p v then B v u else 0) - 1) = s5 (fun u => if 10 - p u < 10 - p v then B v u else 0) - 1
  have : s5 (fun u => B v u) = s5 (fun u => if p u < p v then B v u else 0) + s5 (fun u => if 10 - p u < 10 - p v then B v u else 0) := by
    rw [← s5_add]
    refine s5_eq (fun u hu => ?_)
    rcases Int.lt_or_le 0 (B v u) with hb | hb
    · have nu := (hv_e g hu hv hb).1
      have ne : u ≠ v := fun q => by
        subst q
        have := (g u u hu hu).2.2.2 rfl
        omega
      have := hp u v hu hv nu hn ne
      have := h5 u hu
      have := h5 v hv
      by_cases l : p u < p v
      · rw [if_pos l, if_neg (by omega)]; omega
      · rw [if_neg l, if_pos (by omega)]; omega
    · have : B v u = 0 := by have := (g v u hv hu).1; omega
      rw [this]
      simp
  omega
theorem cIj.rv {p : Nat → Nat} (hp : cIj B p) (h5 : ∀ v, v < 5 → p v ≤ 5) : cIj B (fun u => 10 - p u) := fun u v hu hv nu nv ne q => by
  have := hp u v hu hv nu nv ne
  have := h5 u hu
  have := h5 v hv
  have q : 10 - p u = 10 - p v := q
  omega
/-- the rest -/
def cRs (B : Nat → Nat → Int) (V : Nat → Int) (v : Nat) : Int := nAll B v - 2 - V v
theorem rk_bound (c : cOk B 0) {V : Nat → Int} {r : Int} (hV : nVb V 113) (hd : nDg B V 5 ≤ 8) (h : rkOf B V r) : ∃ (p : Nat → Nat) (a E : Nat → Int), cIj B p ∧ (∀ v, v < 5 → p v ≤ 5) ∧ (∀ v, v < 5 → 0 ≤ a v) ∧ hEq B (fun v => cNu B p v - (V v - a v)) E ∧ (∀ v, v < 5 → nHv B v → 0 ≤ E v) ∧ nDg B E 5 = nGn B - nDg B V 5 + r := by
  obtain ⟨a, a1, a2, a3, a4⟩ := rk_2 c hd h
  obtain ⟨p, E, p1, p2, p3, p4⟩ := cEf.ord c (D := fun v => V v - a v) (fun v hv => by
    have := hV v hv
    have := a1 v hv
    show -126 ≤ V v - a v ∧ V v - a v ≤ 126
    omega) a4
  refine ⟨p, a, E, p1, p2, fun v hv => (a1 v hv).1, p3, p4, ?_⟩
  rw [nDg_eq c.1 p3, nDg_sub, nDg_sub, nDg_on a2, cNu_dg c.1 p1, a3]
  omega
theorem nDg_nn {E : Nat → Int} (h : ∀ v, v < 5 → nHv B v → 0 ≤ E v) : 0 ≤ nDg B E 5 := by
  rw [nDg_5]
  refine s5_nn (fun v hv => ?_)
  split
  · next q => exact h v hv ((z_dec_iff _).mp q)
  · exact Int.le_refl 0
/-- at least the degree less the genus -/
theorem rk_ge (c : cOk B 0) {V : Nat → Int} {r : Int} (hV : nVb V 113) (hd : nDg B V 5 ≤ 8) (h : rkOf B V r) : nDg B V 5 - nGn B ≤ r := by
  obtain ⟨p, a, E, -, -, -, -, h4, h5⟩ := rk_bound c hV hd h
  have := nDg_nn h4
  omega
theorem rk_half (c : cOk B 0) {V : Nat → Int} {r r' : Int} (hV : nVb V 113) (hV' : nVb (cRs B V) 113) (hd : nDg B V 5 ≤ 8) (hd' : nDg B (cRs B V) 5 ≤ 8) (h : rkOf B V r) (h' : rkOf B (cRs B V) r') : r' + nDg B V 5 - nGn B + 1 ≤ r := by
  obtain ⟨p, a, E, h1, h2, h3, h4, h5, h6⟩ := rk_bound c hV hd h
  rcases Int.lt_or_le (r - r') (nDg B V 5 - nGn B + 1) with q | q
  · exfalso
    have e := rk_1 c hV' hd' h' (a := fun v => if z_dec (nHv B v) = true then E v else 0) (fun v hv => by
      show 0 ≤ if z_dec (nHv B v) = true then E v else 0
      split
      · next w => exact h5 v hv ((z_dec_iff _).mp w)
      · exact Int.le_refl 0) (fun v hv hn => by
      show (if z_dec (nHv B v) = true then E v else 0) = 0
      rw [if_neg (fun w => hn ((z_dec_iff _).mp w))]) (by rw [← nDg_5]; omega)
    refine cNu.no c.1 (h1.rv h2) ?_
    obtain ⟨f, hf⟩ := h4
    have e2 : cEf B (fun v => cRs B V v - (cNu B p v - (V v - a v))) := by
      refine cEf.eq (W := fun v => cRs B V v - E v) ⟨fun x => - f x, fun v hv => ?_⟩ (cEf.cg (fun v hv hn => ?_) e)
      · have : cL B (fun x => - f x) v = - cL B f v := by
          have := cL_mul (B := B) (-1) f v
          rw [show (fun x => - f x) = fun x => -1 * f x from funext fun x => by omega, this]
          omega
        show cRs B V v - E v = cRs B V v - (cNu B p v - (V v - a v)) - cL B (fun x => - f x) v
        rw [this, hf v hv]
        show cRs B V v - (cNu B p v - (V v - a v) - cL B f v) = _
        omega
      · show cRs B V v - E v = cRs B V v - (if z_dec (nHv B v) = true then E v else 0)
        rw [if_pos ((z_dec_iff _).mpr hn)]
    refine cEf.up (fun v hv hn => ?_) e2
    have := cNu_rv c.1 h1 h2 hv hn
    have := h3 v hv
    show cRs B V v - (cNu B p v - (V v - a v)) ≤ cNu B (fun u => 10 - p u) v
    unfold cRs
    omega
  · omega
theorem nAll_2 (v : Nat) (V : Nat → Int) : cRs B (cRs B V) v = V v := by
  unfold cRs
  omega
theorem cRs_dg (g : gOk B) (V : Nat → Int) : nDg B (cRs B V) 5 = 2 * nGn B - 2 - nDg B V 5 := by
  have e1 : nDg B (cRs B V) 5 = nDg B (fun v => nAll B v - 2) 5 - nDg B V 5 := nDg_sub (fun v => nAll B v - 2) V
  have e2 : nDg B (fun v => nAll B v - 2) 5 = 2 * nGn B - 2 := by
    have hp : cIj B (fun v => v) := fun u v _ _ _ _ ne => ne
    have h1 := cNu_dg g hp
    have h2 := cNu_dg g (hp.rv (fun v hv => by show v ≤ 5; omega))
    have h3 : nDg B (fun v => nAll B v - 2 - cNu B (fun v => v) v) 5 = nDg B (cNu B (fun u => 10 - u)) 5 := by
      rw [nDg_5, nDg_5]
      refine s5_eq (fun v hv => ?_)
      split
      · next w => exact cNu_rv g hp (fun v hv => by show v ≤ 5; omega) hv ((z_dec_iff _).mp w)
      · rfl
    rw [nDg_sub (fun v => nAll B v - 2)] at h3
    omega
  rw [e1, e2]
/-- THE RANK LESS THAT OF THE REST IS THE DEGREE LESS THE GENUS, AND 1 -/
theorem rk_rr (c : cOk B 0) {V : Nat → Int} {r r' : Int} (hV : nVb V 113) (hV' : nVb (cRs B V) 113) (hd : nDg B V 5 ≤ 8) (hd' : nDg B (cRs B V) 5 ≤ 8) (h : rkOf B V r) (h' : rkOf B (cRs B V) r') : r - r' = nDg B V 5 - nGn B + 1 := by
  have h1 := rk_half c hV hV' hd hd' h h'
  have eq : cRs B (cRs B V) = V := funext fun v => nAll_2 v V
  have h2 := rk_half c (V := cRs B V) (r := r') (r' := r) hV' (by rw [eq]; exact hV) hd' (by rw [eq]; exact hd) h' (by rw [eq]; exact h)
  rw [cRs_dg c.1] at h2
  omega
theorem rk_le (c : cOk B 0) {V : Nat → Int} {r : Int} (h : rkOf B V r) : -1 ≤ r ∧ (nDg B V 5 < 0 → r = -1) ∧ (0 ≤ nDg B V 5 → r ≤ nDg B V 5) := by
  obtain ⟨W, e, rd, h3⟩ := h
  have z := (rd.z c.1).1
  rw [nDg_eq c.1 e] at z
  rcases h3 with ⟨h4, h5⟩ | ⟨h4, h5, h6, h7⟩
  · omega
  · refine ⟨?_, fun q => by omega, fun q => by omega⟩
    rcases h7 with h7 | ⟨a, x, ha, -, h7⟩
    · omega
    · have := s5_nn ha.1
      unfold cVl at h7
      split at h7 <;> omega
end RR
