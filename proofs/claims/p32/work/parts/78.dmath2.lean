/-! DETERMINANTS: of products -/
section DM2
set_option maxRecDepth 100000 in
theorem b_add1 : ∀ (n : Fin 6) (s : Fin 32) (c : Fin 5), s.val < 2 ^ n.val → c.val < n.val → s.val.testBit c.val = false → s.val + 2 ^ c.val < 2 ^ n.val ∧ (s.val + 2 ^ c.val).testBit c.val = true ∧ nb (s.val + 2 ^ c.val) = nb s.val + 1 := by decide
set_option maxRecDepth 100000 in
theorem b_add2 : ∀ (s : Fin 32) (c d : Fin 5), s.val.testBit c.val = false → d ≠ c → (s.val + 2 ^ c.val).testBit d.val = s.val.testBit d.val := by decide
theorem b_full : ∀ (n : Fin 6) (s : Fin 32), s.val < 2 ^ n.val → nb s.val = n.val → s.val = 2 ^ n.val - 1 := by decide
theorem b_nbf : ∀ n : Fin 6, nb (2 ^ n.val - 1) = n.val := by decide
/-- the columns of the first rows; their sum -/
def chS (σ : Nat → Nat) : Nat → Nat
  | 0 => 0
  | k + 1 => chS σ k + 2 ^ σ k
def chV (M : Nat → Nat → Int) (σ : Nat → Nat) : Nat → Int
  | 0 => 0
  | k + 1 => z_plus (chV M σ k) (M k (σ k))
def chO (n : Nat) (σ : Nat → Nat) (k : Nat) : Prop := ∀ r, r < k → σ r < n ∧ (chS σ r).testBit (σ r) = false
theorem chS_cg {σ τ : Nat → Nat} : ∀ k, (∀ r, r < k → σ r = τ r) → chS σ k = chS τ k
  | 0, _ => rfl
  | k + 1, h => by rw [chS, chS, chS_cg k (fun r hr => h r (by omega)), h k (by omega)]
theorem chV_cg {M : Nat → Nat → Int} {σ τ : Nat → Nat} : ∀ k, (∀ r, r < k → σ r = τ r) → chV M σ k = chV M τ k
  | 0, _ => rfl
  | k + 1, h => by rw [chV, chV, chV_cg k (fun r hr => h r (by omega)), h k (by omega)]
theorem p2_32 {n : Nat} (hn : n ≤ 5) : 2 ^ n ≤ 32 := by
  have := Nat.pow_le_pow_right (show 2 > 0 by decide) hn
  omega
theorem chS_b {n : Nat} (hn : n ≤ 5) {σ : Nat → Nat} : ∀ k, chO n σ k → chS σ k < 2 ^ n ∧ nb (chS σ k) = k
  | 0, _ => ⟨Nat.pow_pos (by decide), by show nb 0 = 0; decide⟩
  | k + 1, h => by
    have ih := chS_b hn k (fun r hr => h r (by omega))
    have p := p2_32 hn
    have a := h k (by omega)
    have b := b_add1 ⟨n, by omega⟩ ⟨chS σ k, by omega⟩ ⟨σ k, by omega⟩ ih.1 a.1 a.2
    simp only at b
    exact ⟨b.1, by rw [chS, b.2.2, ih.2]⟩
theorem ch_in {n : Nat} (hn : n ≤ 5) {σ : Nat → Nat} : ∀ k, chO n σ k → ∀ r, r < k → (chS σ k).testBit (σ r) = true
  | 0, _, r, hr => absurd hr (Nat.not_lt_zero r)
  | k + 1, h, r, hr => by
    have hb := chS_b hn k (fun r hr => h r (by omega))
    have p := p2_32 hn
    have a := h k (by omega)
    have b := b_add1 ⟨n, by omega⟩ ⟨chS σ k, by omega⟩ ⟨σ k, by omega⟩ hb.1 a.1 a.2
    simp only at b
    by_cases c : σ r = σ k
    · rw [c]
      exact b.2.1
    · have d := b_add2 ⟨chS σ k, by omega⟩ ⟨σ k, by omega⟩ ⟨σ r, by have := h r hr; omega⟩ a.2 (fun e => c (congrArg Fin.val e))
      simp only at d
      rw [chS, d]
      rcases Nat.lt_succ_iff_lt_or_eq.mp hr with l | l
      · exact ch_in hn k (fun r hr => h r (by omega)) r l
      · subst l
        exact absurd rfl c
theorem ch_out {n : Nat} (hn : n ≤ 5) {σ : Nat → Nat} {c : Nat} (hc : c < 5) : ∀ k, chO n σ k → (∀ r, r < k → σ r ≠ c) → (chS σ k).testBit c = false
  | 0, _, _ => by show Nat.testBit 0 c = false; exact Nat.zero_testBit c
  | k + 1, h, hd => by
    have hb := chS_b hn k (fun r hr => h r (by omega))
    have p := p2_32 hn
    have a := h k (by omega)
    have d := b_add2 ⟨chS σ k, by omega⟩ ⟨σ k, by omega⟩ ⟨c, hc⟩ a.2 (fun e => hd k (by omega) (congrArg Fin.val e).symm)
    simp only at d
    rw [chS, d]
    exact ch_out hn hc k (fun r hr => h r (by omega)) (fun r hr => hd r (by omega))
theorem ch_inj {n : Nat} (hn : n ≤ 5) {σ : Nat → Nat} {k : Nat} (h : chO n σ k) {r q : Nat} (hr : r < q) (hq : q < k) : σ r ≠ σ q := fun e => by
  have a := ch_in hn q (fun r hr => h r (by omega)) r hr
  rw [e, (h q hq).2] at a
  cases a
theorem ch_comp {n : Nat} (hn : n ≤ 5) {σ τ : Nat → Nat} (hs : chO n σ n) (ht : chO n τ n) : ∀ k, k ≤ n → chO n (fun r => τ (σ r)) k
  | 0, _ => fun r hr => absurd hr (Nat.not_lt_zero r)
  | k + 1, hk => fun r hr => by
    have ih := ch_comp hn hs ht k (by omega)
    rcases Nat.lt_succ_iff_lt_or_eq.mp hr with l | l
    · exact ih r l
    · subst l
      have a := hs r (by omega)
      have b := ht (σ r) a.1
      refine ⟨b.1, ch_out hn (Nat.lt_of_lt_of_le b.1 hn) r ih (fun q hq e => ?_)⟩
      have i := ch_inj hn hs hq (by omega : r < n)
      have aq := hs q (by omega)
      rcases Nat.lt_trichotomy (σ q) (σ r) with w | w | w
      · exact ch_inj hn ht w a.1 e
      · exact i w
      · exact ch_inj hn ht w aq.1 e.symm
/-- a set's sum -/
def bS (g : Nat → Int) (s : Nat) : Int := (if s.testBit 0 = true then g 0 else 0) + (if s.testBit 1 = true then g 1 else 0) + (if s.testBit 2 = true then g 2 else 0) + (if s.testBit 3 = true then g 3 else 0) + (if s.testBit 4 = true then g 4 else 0)
theorem bS_add {n : Nat} (hn : n ≤ 5) {s c : Nat} (hs : s < 2 ^ n) (hc : c < n) (h : s.testBit c = false) (g : Nat → Int) : bS g (s + 2 ^ c) = bS g s + g c := by
  have p := p2_32 hn
  have b := (b_add1 ⟨n, by omega⟩ ⟨s, by omega⟩ ⟨c, by omega⟩ hs hc h).2.1
  simp only at b
  have d : ∀ x : Nat, x < 5 → x ≠ c → (s + 2 ^ c).testBit x = s.testBit x := fun x h5 hx => b_add2 ⟨s, by omega⟩ ⟨c, by omega⟩ ⟨x, h5⟩ h (fun e => hx (congrArg Fin.val e))
  have d0 := d 0 (by decide)
  have d1 := d 1 (by decide)
  have d2 := d 2 (by decide)
  have d3 := d 3 (by decide)
  have d4 := d 4 (by decide)
  unfold bS
  rcases (by omega : c = 0 ∨ c = 1 ∨ c = 2 ∨ c = 3 ∨ c = 4) with rfl | rfl | rfl | rfl | rfl
  · rw [b, h, d1 (by decide), d2 (by decide), d3 (by decide), d4 (by decide)]; simp only [if_true, Bool.false_eq_true, if_false]; omega
  · rw [b, h, d0 (by decide), d2 (by decide), d3 (by decide), d4 (by decide)]; simp only [if_true, Bool.false_eq_true, if_false]; omega
  · rw [b, h, d0 (by decide), d1 (by decide), d3 (by decide), d4 (by decide)]; simp only [if_true, Bool.false_eq_true, if_false]; omega
  · rw [b, h, d0 (by decide), d1 (by decide), d2 (by decide), d4 (by decide)]; simp only [if_true, Bool.false_eq_true, if_false]; omega
  · rw [b, h, d0 (by decide), d1 (by decide), d2 (by decide), d3 (by decide)]; simp only [if_true, Bool.false_eq_true, if_false]; omega
def sm (g : Nat → Int) : Nat → Int
  | 0 => 0
  | k + 1 => sm g k + g k
theorem sm_le {f g : Nat → Int} : ∀ k, (∀ r, r < k → f r ≤ g r) → sm f k ≤ sm g k
  | 0, _ => Int.le_refl 0
  | k + 1, h => by
    have := sm_le k (fun r hr => h r (by omega))
    have := h k (by omega)
    show sm f k + f k ≤ sm g k + g k
    omega
theorem sm_add {f g : Nat → Int} : ∀ k, sm (fun r => f r + g r) k = sm f k + sm g k
  | 0 => rfl
  | k + 1 => by
    have := sm_add (f := f) (g := g) k
    show sm _ k + (f k + g k) = sm f k + f k + (sm g k + g k)
    omega
theorem sm_bS {n : Nat} (hn : n ≤ 5) {σ : Nat → Nat} (g : Nat → Int) : ∀ k, chO n σ k → sm (fun r => g (σ r)) k = bS g (chS σ k)
  | 0, _ => by
    show (0 : Int) = bS g 0
    simp [bS]
  | k + 1, h => by
    have ih := sm_bS hn g k (fun r hr => h r (by omega))
    have hb := chS_b hn k (fun r hr => h r (by omega))
    have a := h k (by omega)
    show sm _ k + g (σ k) = _
    rw [ih, chS, bS_add hn hb.1 a.1 a.2]
theorem ch_full {n : Nat} (hn : n ≤ 5) {σ : Nat → Nat} (h : chO n σ n) : chS σ n = 2 ^ n - 1 := by
  have hb := chS_b hn n h
  have p := p2_32 hn
  exact b_full ⟨n, by omega⟩ ⟨chS σ n, by omega⟩ hb.1 hb.2
theorem ch_id {n : Nat} (hn : n ≤ 5) : ∀ k, k ≤ n → chO n (fun r => r) k
  | 0, _ => fun r hr => absurd hr (Nat.not_lt_zero r)
  | k + 1, hk => fun r hr => by
    have ih := ch_id hn k (by omega)
    rcases Nat.lt_succ_iff_lt_or_eq.mp hr with l | l
    · exact ih r l
    · subst l
      exact ⟨show r < n by omega, ch_out hn (show r < 5 by omega) r ih (fun q hq e => by have : q = r := e; omega)⟩
theorem sm_perm {n : Nat} (hn : n ≤ 5) {σ : Nat → Nat} (h : chO n σ n) (g : Nat → Int) : sm (fun r => g (σ r)) n = sm g n := by
  rw [sm_bS hn g n h, ch_full hn h]
  have := sm_bS hn g n (ch_id hn n (Nat.le_refl n))
  rw [ch_full hn (ch_id hn n (Nat.le_refl n))] at this
  exact this.symm
theorem chV_sm {M : Nat → Nat → Int} {n : Nat} (hn : n ≤ 5) (hM : ∀ i j, i < 5 → j < 5 → M i j = INF ∨ (-99999 ≤ M i j ∧ M i j ≤ 99999)) {σ : Nat → Nat} (ho : chO n σ n) : ∀ k, k ≤ n → ((∀ r, r < k → M r (σ r) ≠ INF) → chV M σ k = sm (fun r => M r (σ r)) k ∧ -(100000 * (k : Int)) ≤ chV M σ k ∧ chV M σ k ≤ 100000 * (k : Int)) ∧ (chV M σ k ≠ INF → ∀ r, r < k → M r (σ r) ≠ INF)
  | 0, _ => ⟨fun _ => ⟨rfl, by show -(100000 * ((0 : Nat) : Int)) ≤ 0; decide, by show (0 : Int) ≤ 100000 * ((0 : Nat) : Int); decide⟩, fun _ r hr => absurd hr (Nat.not_lt_zero r)⟩
  | k + 1, hk => by
    have b6 : INF = 1000000 := rfl
    have ih := chV_sm hn hM ho k (by omega)
    have m := hM k (σ k) (by omega) (by have := (ho k (by omega)).1; omega)
    refine ⟨fun h => ?_, fun h r hr => ?_⟩
    · have i := ih.1 (fun r hr => h r (by omega))
      have mk := h k (by omega)
      have e : chV M σ (k + 1) = chV M σ k + M k (σ k) := by
        show z_plus _ _ = _
        unfold z_plus
        rw [if_neg (by omega)]
      have e2 : sm (fun r => M r (σ r)) (k + 1) = sm (fun r => M r (σ r)) k + M k (σ k) := rfl
      rw [e, e2]
      exact ⟨by omega, by omega, by omega⟩
    · have q : chV M σ k ≠ INF ∧ M k (σ k) ≠ INF := by
        refine ⟨fun w => h ?_, fun w => h ?_⟩
        · show z_plus _ _ = _
          unfold z_plus
          rw [if_pos (Or.inl w)]
        · show z_plus _ _ = _
          unfold z_plus
          rw [if_pos (Or.inr w)]
      rcases Nat.lt_succ_iff_lt_or_eq.mp hr with l | l
      · exact ih.2 q.1 r l
      · subst l
        exact q.2
/-- the determinant is at most what a choice has -/
theorem dS_ub {M : Nat → Nat → Int} {n : Nat} (hn : n ≤ 5) (hM : ∀ i j, i < 5 → j < 5 → M i j = INF ∨ (-99999 ≤ M i j ∧ M i j ≤ 99999)) {σ : Nat → Nat} : ∀ k, chO n σ k → (∀ r, r < k → M r (σ r) ≠ INF) → dS M n (chS σ k) ≤ sm (fun r => M r (σ r)) k ∧ dS M n (chS σ k) ≠ INF
  | 0, _, _ => ⟨Int.le_refl 0, by show (0 : Int) ≠ 1000000; decide⟩
  | k + 1, ho, hf => by
    have b6 : INF = 1000000 := rfl
    have ho' : chO n σ k := fun r hr => ho r (by omega)
    have ih := dS_ub hn hM k ho' (fun r hr => hf r (by omega))
    have hb := chS_b hn (k + 1) ho
    have p := p2_32 hn
    have a := ho k (by omega)
    have hk' := chS_b hn k ho'
    have g := dG_all hn hM 32 (chS σ (k + 1)) (by omega) (by omega)
    have g0 := dG_all hn hM 32 (chS σ k) (by omega) (by omega)
    have nbl := nb_le ⟨chS σ (k + 1), by omega⟩
    simp only at nbl
    have b := b_add1 ⟨n, by omega⟩ ⟨chS σ k, by omega⟩ ⟨σ k, by omega⟩ hk'.1 a.1 a.2
    simp only at b
    have pos : 1 ≤ chS σ (k + 1) := by
      have := Nat.pow_pos (n := σ k) (show 0 < 2 by decide)
      show 1 ≤ chS σ k + 2 ^ σ k
      omega
    have r1 := (g.2.2.2 pos).1 (σ k) a.1 b.2.1
    have e1 : chS σ (k + 1) - 2 ^ σ k = chS σ k := by
      show chS σ k + 2 ^ σ k - 2 ^ σ k = _
      omega
    rw [e1, hb.2, Nat.add_sub_cancel] at r1
    have mk := hf k (by omega)
    have mb := hM k (σ k) (by omega) (by omega)
    have e2 : sm (fun r => M r (σ r)) (k + 1) = sm (fun r => M r (σ r)) k + M k (σ k) := rfl
    have z : z_plus (dS M n (chS σ k)) (M k (σ k)) = dS M n (chS σ k) + M k (σ k) := by
      unfold z_plus
      rw [if_neg (by omega)]
    rw [z] at r1
    have gb := g0.1
    rw [hk'.2] at gb
    rw [e2]
    omega
/-- a choice has it -/
theorem dS_at {M : Nat → Nat → Int} {n : Nat} (hn : n ≤ 5) (hM : ∀ i j, i < 5 → j < 5 → M i j = INF ∨ (-99999 ≤ M i j ∧ M i j ≤ 99999)) : ∀ k s, nb s = k → s < 2 ^ n → dS M n s = INF ∨ ∃ σ, chO n σ k ∧ chS σ k = s ∧ (∀ r, r < k → M r (σ r) ≠ INF) ∧ sm (fun r => M r (σ r)) k = dS M n s
  | 0, s, hk, hs => by
    have p := p2_32 hn
    have s0 : s = 0 := by
      rcases Nat.eq_zero_or_pos s with q | q
      · exact q
      · have := nb_pos ⟨s, by omega⟩ q
        simp only at this
        omega
    subst s0
    exact Or.inr ⟨fun r => r, fun r hr => absurd hr (Nat.not_lt_zero r), rfl, fun r hr => absurd hr (Nat.not_lt_zero r), rfl⟩
  | k + 1, s, hk, hs => by
    have p := p2_32 hn
    have g := dG_all hn hM 32 s (by omega) (by omega)
    have pos : 1 ≤ s := by
      rcases Nat.eq_zero_or_pos s with q | q
      · subst q
        have : nb 0 = 0 := by decide
        omega
      · exact q
    rcases (g.2.2.2 pos).2 with q | ⟨c, hc, tb, d1, d2, e⟩
    · exact Or.inl q
    · right
      have ns := nb_sub ⟨s, by omega⟩ ⟨c, by omega⟩ tb
      simp only at ns
      rcases dS_at hn hM k (s - 2 ^ c) (by omega) (Nat.lt_of_le_of_lt (Nat.sub_le _ _) hs) with q | ⟨σ, h1, h2, h3, h4⟩
      · exact absurd q d1
      · obtain ⟨τ, hτ⟩ : ∃ τ : Nat → Nat, τ = fun r => if r < k then σ r else c := ⟨_, rfl⟩
        have t1 : ∀ r, r < k → τ r = σ r := fun r hr => by rw [hτ]; exact if_pos hr
        have t2 : τ k = c := by rw [hτ]; exact if_neg (Nat.lt_irrefl k)
        have t3 : chS τ k = s - 2 ^ c := (chS_cg k t1).trans h2
        have ts : ∀ x : Fin 32, ∀ y : Fin 5, x.val.testBit y.val = true → (x.val - 2 ^ y.val).testBit y.val = false := by decide
        have tc := ts ⟨s, by omega⟩ ⟨c, by omega⟩ tb
        simp only at tc
        refine ⟨τ, fun r hr => ?_, ?_, fun r hr => ?_, ?_⟩
        · rcases Nat.lt_succ_iff_lt_or_eq.mp hr with l | l
          · rw [t1 r l, chS_cg r (fun q hq => t1 q (by omega))]
            exact h1 r l
          · subst l
            rw [t2, t3]
            exact ⟨hc, tc⟩
        · show chS τ k + 2 ^ τ k = s
          rw [t2, t3]
          omega
        · rcases Nat.lt_succ_iff_lt_or_eq.mp hr with l | l
          · rw [t1 r l]
            exact h3 r l
          · subst l
            rw [t2]
            rw [hk, Nat.add_sub_cancel] at d2
            exact d2
        · show sm (fun r => M r (τ r)) k + M k (τ k) = _
          rw [t2, e, hk, Nat.add_sub_cancel, ← h4]
          have : ∀ j, j ≤ k → sm (fun r => M r (τ r)) j = sm (fun r => M r (σ r)) j := by
            intro j
            induction j with
            | zero => exact fun _ => rfl
            | succ j ih =>
              intro hj
              show sm _ j + M j (τ j) = sm _ j + M j (σ j)
              rw [ih (by omega), t1 j (by omega)]
          rw [this k (Nat.le_refl k)]
/-- the determinant -/
def dT (M : Nat → Nat → Int) (n : Nat) : Int := dS M n (2 ^ n - 1)
theorem dT_mul {A B C : Nat → Nat → Int} {n : Nat} (hn : n ≤ 5) (hA : ∀ i j, i < 5 → j < 5 → A i j = INF ∨ (-99999 ≤ A i j ∧ A i j ≤ 99999)) (hB : ∀ i j, i < 5 → j < 5 → B i j = INF ∨ (-99999 ≤ B i j ∧ B i j ≤ 99999)) (hC : ∀ i j, i < 5 → j < 5 → C i j = INF ∨ (-99999 ≤ C i j ∧ C i j ≤ 99999)) (h : ∀ i j, i < n → j < n → C i j = mMul A B n i j) : dT C n ≤ z_plus (dT A n) (dT B n) := by
  have b6 : INF = 1000000 := rfl
  have p := p2_32 hn
  have pp := Nat.pow_pos (n := n) (show 0 < 2 by decide)
  have nf := b_nbf ⟨n, by omega⟩
  simp only at nf
  have top : dT C n ≤ INF := by
    have g := (dG_all hn hC 32 (2 ^ n - 1) (by omega) (by omega)).1
    rw [nf] at g
    unfold dT
    omega
  unfold dT at *
  rcases dS_at hn hA n (2 ^ n - 1) nf (by omega) with q | ⟨σ, a1, a2, a3, a4⟩
  · unfold z_plus
    rw [if_pos (Or.inl q)]
    exact top
  · rcases dS_at hn hB n (2 ^ n - 1) nf (by omega) with q | ⟨τ, c1, c2, c3, c4⟩
    · unfold z_plus
      rw [if_pos (Or.inr q)]
      exact top
    · have o := ch_comp hn a1 c1 n (Nat.le_refl n)
      have ent : ∀ r, r < n → C r (τ (σ r)) ≤ A r (σ r) + B (σ r) (τ (σ r)) ∧ C r (τ (σ r)) ≠ INF := fun r hr => by
        have s1 := (a1 r hr).1
        have s2 := (c1 (σ r) s1).1
        have x := hA r (σ r) (by omega) (by omega)
        have y := hB (σ r) (τ (σ r)) (by omega) (by omega)
        have x2 := a3 r hr
        have y2 := c3 (σ r) s1
        rw [h r _ hr s2]
        have w := z_mn_lb (fun k => z_plus (A r k) (B k (τ (σ r)))) n (σ r) s1
        have e : z_plus (A r (σ r)) (B (σ r) (τ (σ r))) = A r (σ r) + B (σ r) (τ (σ r)) := by
          unfold z_plus
          rw [if_neg (by omega)]
        simp only [e] at w
        unfold mMul
        omega
      have u := dS_ub hn hC n o (fun r hr => (ent r hr).2)
      rw [ch_full hn o] at u
      have l := sm_le (f := fun r => C r (τ (σ r))) (g := fun r => A r (σ r) + B (σ r) (τ (σ r))) n (fun r hr => (ent r hr).1)
      rw [sm_add (f := fun r => A r (σ r)) (g := fun r => B (σ r) (τ (σ r)))] at l
      have pm := sm_perm hn a1 (fun c => B c (τ c))
      have ga := (dG_all hn hA 32 (2 ^ n - 1) (by omega) (by omega)).1
      have gb := (dG_all hn hB 32 (2 ^ n - 1) (by omega) (by omega)).1
      rw [nf] at ga gb
      unfold z_plus
      split
      · exact top
      · omega
end DM2
