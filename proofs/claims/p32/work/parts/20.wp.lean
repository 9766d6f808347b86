/-! WHAT A PIECE COMES TO, as a plain sentence: qE x ρ h Q: x has a value v with Q v; qS s ρ h Q: s ends as o with Q o -/
def qR {α : Type} (x : z_Rs α) (Q : α → z_Hp → Prop) : Prop := match x with
  | some (.inl v, h) => Q v h
  | _ => False
def qE {α : Type} (x : z_Ev α) (ρ : List z_V) (h : z_Hp) (Q : α → z_Hp → Prop) : Prop := qR (x ρ h) Q
def qO (x : Option (z_Oc × z_Hp)) (Q : z_Oc → z_Hp → Prop) : Prop := match x with
  | some (o, h) => Q o h
  | none => False
def qS (s : z_St) (ρ : List z_V) (h : z_Hp) (Q : z_Oc → z_Hp → Prop) : Prop := qO (s ρ h) Q
theorem qR_bind {α β : Type} (x : z_Rs α) (k : α → z_Hp → z_Rs β) (Q : β → z_Hp → Prop) : qR (z_bind x k) Q ↔ qR x (fun a h => qR (k a h) Q) := by
  rcases x with _ | ⟨a | E, h⟩ <;> exact Iff.rfl
theorem qR_some {α : Type} (v : α) (h : z_Hp) (Q : α → z_Hp → Prop) : qR (some (.inl v, h)) Q ↔ Q v h := Iff.rfl
theorem qR_none {α : Type} (Q : α → z_Hp → Prop) : qR (none : z_Rs α) Q ↔ False := Iff.rfl
theorem qR_x {α : Type} (E : String) (h : z_Hp) (Q : α → z_Hp → Prop) : qR (some (.inr E, h) : z_Rs α) Q ↔ False := Iff.rfl
theorem qR_ite {α : Type} (c : Prop) [Decidable c] (x y : z_Rs α) (Q : α → z_Hp → Prop) : qR (if c then x else y) Q ↔ if c then qR x Q else qR y Q := by
  split <;> exact Iff.rfl
/-- an expression that may throw: X for what is thrown -/
def qT {α : Type} (x : z_Rs α) (Q : α → z_Hp → Prop) (X : String → z_Hp → Prop) : Prop := match x with
  | some (.inl v, h) => Q v h
  | some (.inr E, h) => X E h
  | none => False
theorem qT_bind {α β : Type} (x : z_Rs α) (k : α → z_Hp → z_Rs β) (Q : β → z_Hp → Prop) (X : String → z_Hp → Prop) : qT (z_bind x k) Q X ↔ qT x (fun a h => qT (k a h) Q X) X := by
  rcases x with _ | ⟨a | E, h⟩ <;> exact Iff.rfl
theorem qT_some {α : Type} (v : α) (h : z_Hp) (Q : α → z_Hp → Prop) (X : String → z_Hp → Prop) : qT (some (.inl v, h)) Q X ↔ Q v h := Iff.rfl
theorem qT_x {α : Type} (E : String) (h : z_Hp) (Q : α → z_Hp → Prop) (X : String → z_Hp → Prop) : qT (some (.inr E, h) : z_Rs α) Q X ↔ X E h := Iff.rfl
theorem qT_none {α : Type} (Q : α → z_Hp → Prop) (X : String → z_Hp → Prop) : qT (none : z_Rs α) Q X ↔ False := Iff.rfl
theorem qT_of {α : Type} {x : z_Rs α} {Q : α → z_Hp → Prop} {X : String → z_Hp → Prop} (h : qR x Q) : qT x Q X := by
  rcases x with _ | ⟨a | E, h'⟩
  · exact h
  · exact h
  · exact False.elim h
theorem qO_bindS {α : Type} (x : z_Rs α) (k : α → z_Hp → Option (z_Oc × z_Hp)) (Q : z_Oc → z_Hp → Prop) : qO (z_bindS x k) Q ↔ qT x (fun a h => qO (k a h) Q) (fun E h => Q (oX E) h) := by
  rcases x with _ | ⟨a | E, h⟩ <;> exact Iff.rfl
theorem qO_some (o : z_Oc) (h : z_Hp) (Q : z_Oc → z_Hp → Prop) : qO (some (o, h)) Q ↔ Q o h := Iff.rfl
theorem qO_none (Q : z_Oc → z_Hp → Prop) : qO none Q ↔ False := Iff.rfl
def z_nx (K : List z_V → z_Hp → Prop) (Q : z_Oc → z_Hp → Prop) : z_Oc → z_Hp → Prop := fun o h => match o with
  | .inl ρ => K ρ h
  | o => Q o h
theorem z_nx_N (K : List z_V → z_Hp → Prop) (Q : z_Oc → z_Hp → Prop) (ρ : List z_V) (h : z_Hp) : z_nx K Q (oN ρ) h ↔ K ρ h := Iff.rfl
theorem z_nx_B (K : List z_V → z_Hp → Prop) (Q : z_Oc → z_Hp → Prop) (ρ : List z_V) (h : z_Hp) : z_nx K Q (oB ρ) h ↔ Q (oB ρ) h := Iff.rfl
theorem z_nx_R (K : List z_V → z_Hp → Prop) (Q : z_Oc → z_Hp → Prop) (r : Option z_V) (h : z_Hp) : z_nx K Q (oR r) h ↔ Q (oR r) h := Iff.rfl
theorem z_nx_X (K : List z_V → z_Hp → Prop) (Q : z_Oc → z_Hp → Prop) (E : String) (h : z_Hp) : z_nx K Q (oX E) h ↔ Q (oX E) h := Iff.rfl
theorem qO_then (x : Option (z_Oc × z_Hp)) (k : List z_V → z_Hp → Option (z_Oc × z_Hp)) (Q : z_Oc → z_Hp → Prop) : qO (z_then x k) Q ↔ qO x (z_nx (fun ρ h => qO (k ρ h) Q) Q) := by
  rcases x with _ | ⟨ρ | o, h⟩ <;> exact Iff.rfl
-- statements
theorem qS_nop (ρ : List z_V) (h : z_Hp) (Q : z_Oc → z_Hp → Prop) : qS sNop ρ h Q ↔ Q (oN ρ) h := Iff.rfl
theorem qS_seq (a b : z_St) (ρ : List z_V) (h : z_Hp) (Q : z_Oc → z_Hp → Prop) : qS (sSeq a b) ρ h Q ↔ qS a ρ h (z_nx (fun ρ h => qS b ρ h Q) Q) := qO_then _ _ _
theorem qS_set {α : Type} (w : α → z_V) (i : Nat) (x : z_Ev α) (ρ : List z_V) (h : z_Hp) (Q : z_Oc → z_Hp → Prop) : qS (sSet w i x) ρ h Q ↔ qT (x ρ h) (fun v h => Q (oN (ρ.set i (w v))) h) (fun E h => Q (oX E) h) := qO_bindS _ _ _
theorem qS_setJ (i : Nat) (x : z_Ev Int) (ρ : List z_V) (h : z_Hp) (Q : z_Oc → z_Hp → Prop) : qS (sSetJ i x) ρ h Q ↔ qT (x ρ h) (fun v h => Q (oN ((ρ.set i (vJ v)).set (i + 1) vU)) h) (fun E h => Q (oX E) h) := qO_bindS _ _ _
theorem qS_if (b : z_Ev Bool) (s t : z_St) (ρ : List z_V) (h : z_Hp) (Q : z_Oc → z_Hp → Prop) : qS (sIf b s t) ρ h Q ↔ qT (b ρ h) (fun v h => (v = true → qS s ρ h Q) ∧ (v = false → qS t ρ h Q)) (fun E h => Q (oX E) h) := by
  unfold qS sIf
  rw [qO_bindS]
  rcases b ρ h with _ | ⟨a | E, h'⟩
  · exact Iff.rfl
  · cases a <;> simp [qT]
  · exact Iff.rfl
theorem qS_brk (ρ : List z_V) (h : z_Hp) (Q : z_Oc → z_Hp → Prop) : qS sBrk ρ h Q ↔ Q (oB ρ) h := Iff.rfl
theorem qS_ret {α : Type} (w : α → z_V) (x : z_Ev α) (ρ : List z_V) (h : z_Hp) (Q : z_Oc → z_Hp → Prop) : qS (sRet w x) ρ h Q ↔ qT (x ρ h) (fun v h => Q (oR (some (w v))) h) (fun E h => Q (oX E) h) := qO_bindS _ _ _
theorem qS_retV (ρ : List z_V) (h : z_Hp) (Q : z_Oc → z_Hp → Prop) : qS sRetV ρ h Q ↔ Q (oR none) h := Iff.rfl
theorem qS_throw (E : String) (ρ : List z_V) (h : z_Hp) (Q : z_Oc → z_Hp → Prop) : qS (sThrow E) ρ h Q ↔ Q (oX E) h := Iff.rfl
theorem qS_inc (i : Nat) (n : Int) (ρ : List z_V) (h : z_Hp) (Q : z_Oc → z_Hp → Prop) : qS (sInc i n) ρ h Q ↔ ∃ x, ρ[i]? = some (vI x) ∧ Q (oN (ρ.set i (vI (x + n)))) h := by
  unfold qS sInc
  constructor
  · intro q
    split at q
    · next x hx => exact ⟨x, hx, q⟩
    · exact False.elim q
  · rintro ⟨x, hx, q⟩
    rw [hx]
    exact q
theorem qS_cl (f : z_Mt) (xs : z_Ev (List z_V)) (ρ : List z_V) (h : z_Hp) (Q : z_Oc → z_Hp → Prop) : qS (sCl f xs) ρ h Q ↔ qT (xs ρ h) (fun L h => qT (f L h) (fun r h => r = none ∧ Q (oN ρ) h) (fun E h => Q (oX E) h)) (fun E h => Q (oX E) h) := by
  unfold qS sCl
  rw [qO_bindS]
  rcases xs ρ h with _ | ⟨L | E, h'⟩
  · exact Iff.rfl
  · show qO (z_bindS (f L h') _) Q ↔ qT (f L h') _ _
    rw [qO_bindS]
    rcases f L h' with _ | ⟨r | E, h2⟩
    · exact Iff.rfl
    · cases r
      · exact ⟨fun q => ⟨rfl, q⟩, fun q => q.2⟩
      · exact ⟨fun q => False.elim q, fun q => by cases q.1⟩
    · exact Iff.rfl
  · exact Iff.rfl
theorem qS_ast (t : Nat) (a : z_Ev Nat) (i x : z_Ev Int) (ρ : List z_V) (h : z_Hp) (Q : z_Oc → z_Hp → Prop) : qS (sASt t a i x) ρ h Q ↔ qT (a ρ h) (fun r h => qT (i ρ h) (fun j h => qT (x ρ h) (fun v h => ∃ n f, z_arr h r t = some (n, f) ∧ (0 ≤ j ∧ j < (n : Int)) ∧ Q (oN ρ) (h.set r (.inr (t, n, z_up f j.toNat v)))) (fun E h => Q (oX E) h)) (fun E h => Q (oX E) h)) (fun E h => Q (oX E) h) := by
  unfold qS sASt
  simp only [qO_bindS]
  rcases a ρ h with _ | ⟨r | E, h1⟩ <;> try exact Iff.rfl
  simp only [qT_some]
  rcases i ρ h1 with _ | ⟨j | E, h2⟩ <;> try exact Iff.rfl
  simp only [qT_some]
  rcases x ρ h2 with _ | ⟨v | E, h3⟩ <;> try exact Iff.rfl
  simp only [qT_some]
  rcases z_arr h3 r t with _ | ⟨n, f⟩
  · simp [qO]
  · by_cases hj : 0 ≤ j ∧ j < (n : Int)
    · simp [qO, hj]
    · simp only [if_neg hj, qO]
      constructor
      · intro q; exact q.elim
      · rintro ⟨n', f', e, hj', -⟩
        cases e
        exact hj hj'
theorem qS_aop (t : Nat) (o : Int → Int → Option Int) (a : z_Ev Nat) (i x : z_Ev Int) (ρ : List z_V) (h : z_Hp) (Q : z_Oc → z_Hp → Prop) : qS (sAOp t o a i x) ρ h Q ↔ qT (a ρ h) (fun r h => qT (i ρ h) (fun j h => ∃ n0 f0, z_arr h r t = some (n0, f0) ∧ (0 ≤ j ∧ j < (n0 : Int)) ∧ qT (x ρ h) (fun v h => ∃ z, o (f0 j.toNat) v = some z ∧ ∃ n f, z_arr h r t = some (n, f) ∧ j < (n : Int) ∧ Q (oN ρ) (h.set r (.inr (t, n, z_up f j.toNat z)))) (fun E h => Q (oX E) h)) (fun E h => Q (oX E) h)) (fun E h => Q (oX E) h) := by
  unfold qS sAOp
  simp only [qO_bindS]
  rcases a ρ h with _ | ⟨r | E, h1⟩ <;> try exact Iff.rfl
  simp only [qT_some]
  rcases i ρ h1 with _ | ⟨j | E, h2⟩ <;> try exact Iff.rfl
  simp only [qT_some]
  rcases z_arr h2 r t with _ | ⟨n0, f0⟩
  · simp [qO]
  by_cases hj : 0 ≤ j ∧ j < (n0 : Int)
  · simp only [if_pos hj, qO_bindS]
    generalize x ρ h2 = y
    constructor
    · intro q
      refine ⟨n0, f0, rfl, hj, ?_⟩
      rcases y with _ | ⟨v | E, h3⟩ <;> try exact q
      simp only [qT_some] at q ⊢
      generalize o (f0 j.toNat) v = w at q ⊢
      rcases w with _ | z
      · exact False.elim q
      · refine ⟨z, rfl, ?_⟩
        generalize z_arr h3 r t = w at q ⊢
        rcases w with _ | ⟨n, f⟩
        · exact False.elim q
        · by_cases hn : j < (n : Int)
          · simp only [if_pos hn] at q
            exact ⟨n, f, rfl, hn, q⟩
          · simp only [if_neg hn] at q
            exact q.elim
    · rintro ⟨n', f', e, -, q⟩
      cases e
      rcases y with _ | ⟨v | E, h3⟩ <;> try exact q
      simp only [qT_some] at q ⊢
      obtain ⟨z, hz, n, f, e, hn, q⟩ := q
      simp only [hz, e, if_pos hn]
      exact q
  · simp only [if_neg hj]
    constructor
    · intro q; exact q.elim
    · rintro ⟨n', f', e, hj', -⟩
      cases e
      exact absurd hj' hj
theorem qS_fst {α : Type} (w : α → z_V) (ci k : Nat) (o : z_Ev Nat) (x : z_Ev α) (ρ : List z_V) (h : z_Hp) (Q : z_Oc → z_Hp → Prop) : qS (sFSt w ci k o x) ρ h Q ↔ qT (o ρ h) (fun r h => qT (x ρ h) (fun v h => ∃ fs, z_obj h r ci = some fs ∧ k < fs.length ∧ Q (oN ρ) (h.set r (.inl (ci, fs.set k (w v))))) (fun E h => Q (oX E) h)) (fun E h => Q (oX E) h) := by
  unfold qS sFSt
  simp only [qO_bindS]
  rcases o ρ h with _ | ⟨r | E, h1⟩ <;> try exact Iff.rfl
  simp only [qT_some]
  rcases x ρ h1 with _ | ⟨v | E, h2⟩ <;> try exact Iff.rfl
  simp only [qT_some]
  rcases z_obj h2 r ci with _ | fs
  · simp [qO]
  · by_cases hk : k < fs.length
    · simp [qO, hk]
    · simp [qO, hk]
theorem qS_fop (ci k : Nat) (op : Int → Int → Option Int) (o : z_Ev Nat) (x : z_Ev Int) (ρ : List z_V) (h : z_Hp) (Q : z_Oc → z_Hp → Prop) : qS (sFOp ci k op o x) ρ h Q ↔ qT (o ρ h) (fun r h => ∃ fs y, z_obj h r ci = some fs ∧ fs[k]? = some (vI y) ∧ qT (x ρ h) (fun v h => ∃ z, op y v = some z ∧ ∃ fs, z_obj h r ci = some fs ∧ k < fs.length ∧ Q (oN ρ) (h.set r (.inl (ci, fs.set k (vI z))))) (fun E h => Q (oX E) h)) (fun E h => Q (oX E) h) := by
  unfold qS sFOp
  simp only [qO_bindS]
  rcases o ρ h with _ | ⟨r | E, h1⟩ <;> try exact Iff.rfl
  simp only [qT_some]
  rcases z_obj h1 r ci with _ | fs
  · simp [qO]
  simp only
  rcases hk : fs[k]? with _ | (y | y)
  · simp [qO, hk]
  · simp only [qO_bindS]
    generalize x ρ h1 = yy
    constructor
    · intro q
      refine ⟨fs, y, rfl, hk, ?_⟩
      rcases yy with _ | ⟨v | E, h3⟩ <;> try exact q
      simp only [qT_some] at q ⊢
      generalize op y v = w at q ⊢
      rcases w with _ | z
      · exact False.elim q
      · refine ⟨z, rfl, ?_⟩
        generalize z_obj h3 r ci = w at q ⊢
        rcases w with _ | fs2
        · exact False.elim q
        · by_cases hn : k < fs2.length
          · simp only [if_pos hn] at q
            exact ⟨fs2, rfl, hn, q⟩
          · simp only [if_neg hn] at q
            exact q.elim
    · rintro ⟨fs', y', e, e2, q⟩
      cases e
      rw [hk] at e2
      cases e2
      rcases yy with _ | ⟨v | E, h3⟩ <;> try exact q
      simp only [qT_some] at q ⊢
      obtain ⟨z, hz, fs2, e, hn, q⟩ := q
      simp only [hz, e, if_pos hn]
      exact q
  · simp only [qO]
    constructor
    · intro q; exact q.elim
    · rintro ⟨fs', y', e, e2, -⟩
      cases e
      rw [hk] at e2
      cases e2
theorem qS_sw (x : z_Ev Int) (cs : List z_St) (d : z_St) (ρ : List z_V) (h : z_Hp) (Q : z_Oc → z_Hp → Prop) : qS (sSw x cs d) ρ h Q ↔ qT (x ρ h) (fun v h => if 0 ≤ v ∧ v < cs.length then (∃ s, cs[v.toNat]? = some s ∧ qS s ρ h Q) else z_in v = true ∧ qS d ρ h Q) (fun E h => Q (oX E) h) := by
  unfold qS sSw
  simp only [qO_bindS]
  rcases x ρ h with _ | ⟨v | E, h1⟩ <;> try exact Iff.rfl
  simp only [qT_some]
  split
  · rcases cs[v.toNat]? with _ | s
    · simp [qO]
    · simp
  · split
    · next hz => simp [hz]
    · next hz => simp [hz, qO]
-- expressions
theorem qT_eC (n : Int) (ρ : List z_V) (h : z_Hp) (Q : Int → z_Hp → Prop) (X : String → z_Hp → Prop) : qT (eC n ρ h) Q X ↔ Q n h := Iff.rfl
theorem qT_eCB (b : Bool) (ρ : List z_V) (h : z_Hp) (Q : Bool → z_Hp → Prop) (X : String → z_Hp → Prop) : qT (eCB b ρ h) Q X ↔ Q b h := Iff.rfl
theorem qT_eL (i : Nat) (ρ : List z_V) (h : z_Hp) (Q : Int → z_Hp → Prop) (X : String → z_Hp → Prop) : qT (eL i ρ h) Q X ↔ ∃ n, ρ[i]? = some (vI n) ∧ Q n h := by
  unfold eL
  rcases ρ[i]? with _ | (n | n | n | n) <;> simp [qT]
theorem qT_eLJ (i : Nat) (ρ : List z_V) (h : z_Hp) (Q : Int → z_Hp → Prop) (X : String → z_Hp → Prop) : qT (eLJ i ρ h) Q X ↔ ∃ n, ρ[i]? = some (vJ n) ∧ Q n h := by
  unfold eLJ
  rcases ρ[i]? with _ | (n | n | n | n) <;> simp [qT]
theorem qT_eLR (i : Nat) (ρ : List z_V) (h : z_Hp) (Q : Nat → z_Hp → Prop) (X : String → z_Hp → Prop) : qT (eLR i ρ h) Q X ↔ ∃ n, ρ[i]? = some (vR n) ∧ Q n h := by
  unfold eLR
  rcases ρ[i]? with _ | (n | n | n | n) <;> simp [qT]
theorem z_bool_b (b : Bool) : z_bool (if b = true then 1 else 0) = some b := by cases b <;> rfl
theorem qT_eLB (i : Nat) (ρ : List z_V) (h : z_Hp) (Q : Bool → z_Hp → Prop) (X : String → z_Hp → Prop) : qT (eLB i ρ h) Q X ↔ ∃ b, ρ[i]? = some (vB b) ∧ Q b h := by
  unfold eLB
  rcases ρ[i]? with _ | (n | n)
  · simp [qT]
  · simp only
    rcases hb : z_bool n with _ | b
    · simp only [qT]
      constructor
      · intro q; exact q.elim
      · rintro ⟨b, e, -⟩
        cases e
        rw [z_bool_b] at hb
        cases hb
    · have hn := z_bool_some hb
      simp only [qT]
      constructor
      · intro q; exact ⟨b, by rw [hn], q⟩
      · rintro ⟨b', e, q⟩
        cases e
        rw [z_bool_b] at hb
        cases hb
        exact q
  · simp [qT]
theorem qT_e1 (f : Int → Option Int) (a : z_Ev Int) (ρ : List z_V) (h : z_Hp) (Q : Int → z_Hp → Prop) (X : String → z_Hp → Prop) : qT (e1 f a ρ h) Q X ↔ qT (a ρ h) (fun x h => ∃ z, f x = some z ∧ Q z h) X := by
  unfold e1
  rw [qT_bind]
  rcases a ρ h with _ | ⟨x | E, h1⟩ <;> try exact Iff.rfl
  simp only [qT_some]
  rcases f x with _ | z <;> simp [qT]
theorem qT_e2 (f : Int → Int → Option Int) (a b : z_Ev Int) (ρ : List z_V) (h : z_Hp) (Q : Int → z_Hp → Prop) (X : String → z_Hp → Prop) : qT (e2 f a b ρ h) Q X ↔ qT (a ρ h) (fun x h => qT (b ρ h) (fun y h => ∃ z, f x y = some z ∧ Q z h) X) X := by
  unfold e2
  rw [qT_bind]
  rcases a ρ h with _ | ⟨x | E, h1⟩ <;> try exact Iff.rfl
  simp only [qT_some, qT_bind]
  rcases b ρ h1 with _ | ⟨y | E, h2⟩ <;> try exact Iff.rfl
  simp only [qT_some]
  rcases f x y with _ | z <;> simp [qT]
theorem qT_bCmp (f : Int → Int → Bool) (a b : z_Ev Int) (ρ : List z_V) (h : z_Hp) (Q : Bool → z_Hp → Prop) (X : String → z_Hp → Prop) : qT (bCmp f a b ρ h) Q X ↔ qT (a ρ h) (fun x h => qT (b ρ h) (fun y h => z_in x = true ∧ z_in y = true ∧ Q (f x y) h) X) X := by
  unfold bCmp
  rw [qT_bind]
  rcases a ρ h with _ | ⟨x | E, h1⟩ <;> try exact Iff.rfl
  simp only [qT_some, qT_bind]
  rcases b ρ h1 with _ | ⟨y | E, h2⟩ <;> try exact Iff.rfl
  simp only [qT_some]
  cases z_in x <;> cases z_in y <;> simp [qT]
theorem qT_bCmpJ (f : Int → Int → Bool) (a b : z_Ev Int) (ρ : List z_V) (h : z_Hp) (Q : Bool → z_Hp → Prop) (X : String → z_Hp → Prop) : qT (bCmpJ f a b ρ h) Q X ↔ qT (a ρ h) (fun x h => qT (b ρ h) (fun y h => z_inJ x = true ∧ z_inJ y = true ∧ Q (f x y) h) X) X := by
  unfold bCmpJ
  rw [qT_bind]
  rcases a ρ h with _ | ⟨x | E, h1⟩ <;> try exact Iff.rfl
  simp only [qT_some, qT_bind]
  rcases b ρ h1 with _ | ⟨y | E, h2⟩ <;> try exact Iff.rfl
  simp only [qT_some]
  cases z_inJ x <;> cases z_inJ y <;> simp [qT]
theorem qT_bAnd (a b : z_Ev Bool) (ρ : List z_V) (h : z_Hp) (Q : Bool → z_Hp → Prop) (X : String → z_Hp → Prop) : qT (bAnd a b ρ h) Q X ↔ qT (a ρ h) (fun x h => (x = true → qT (b ρ h) Q X) ∧ (x = false → Q false h)) X := by
  unfold bAnd
  rw [qT_bind]
  rcases a ρ h with _ | ⟨x | E, h1⟩ <;> try exact Iff.rfl
  cases x <;> simp [qT]
theorem qT_bOr (a b : z_Ev Bool) (ρ : List z_V) (h : z_Hp) (Q : Bool → z_Hp → Prop) (X : String → z_Hp → Prop) : qT (bOr a b ρ h) Q X ↔ qT (a ρ h) (fun x h => (x = true → Q true h) ∧ (x = false → qT (b ρ h) Q X)) X := by
  unfold bOr
  rw [qT_bind]
  rcases a ρ h with _ | ⟨x | E, h1⟩ <;> try exact Iff.rfl
  cases x <;> simp [qT]
theorem qT_bNot (a : z_Ev Bool) (ρ : List z_V) (h : z_Hp) (Q : Bool → z_Hp → Prop) (X : String → z_Hp → Prop) : qT (bNot a ρ h) Q X ↔ qT (a ρ h) (fun x h => Q (!x) h) X := qT_bind _ _ _ _
theorem qT_eBI (a : z_Ev Bool) (ρ : List z_V) (h : z_Hp) (Q : Int → z_Hp → Prop) (X : String → z_Hp → Prop) : qT (eBI a ρ h) Q X ↔ qT (a ρ h) (fun x h => Q (if x = true then 1 else 0) h) X := qT_bind _ _ _ _
theorem qT_eIf {α : Type} (b : z_Ev Bool) (x y : z_Ev α) (ρ : List z_V) (h : z_Hp) (Q : α → z_Hp → Prop) (X : String → z_Hp → Prop) : qT (eIf b x y ρ h) Q X ↔ qT (b ρ h) (fun v h => (v = true → qT (x ρ h) Q X) ∧ (v = false → qT (y ρ h) Q X)) X := by
  unfold eIf
  rw [qT_bind]
  rcases b ρ h with _ | ⟨v | E, h1⟩ <;> try exact Iff.rfl
  cases v <;> simp [qT]
theorem qT_eLd (t : Nat) (a : z_Ev Nat) (i : z_Ev Int) (ρ : List z_V) (h : z_Hp) (Q : Int → z_Hp → Prop) (X : String → z_Hp → Prop) : qT (eLd t a i ρ h) Q X ↔ qT (a ρ h) (fun r h => qT (i ρ h) (fun j h => ∃ n f, z_arr h r t = some (n, f) ∧ (0 ≤ j ∧ j < (n : Int)) ∧ Q (f j.toNat) h) X) X := by
  unfold eLd
  rw [qT_bind]
  rcases a ρ h with _ | ⟨r | E, h1⟩ <;> try exact Iff.rfl
  simp only [qT_some, qT_bind]
  rcases i ρ h1 with _ | ⟨j | E, h2⟩ <;> try exact Iff.rfl
  simp only [qT_some]
  rcases z_arr h2 r t with _ | ⟨n, f⟩
  · simp [qT]
  · by_cases hj : 0 ≤ j ∧ j < (n : Int)
    · simp [qT, hj]
    · simp only [if_neg hj, qT]
      constructor
      · intro q; exact q.elim
      · rintro ⟨n', f', e, hj', -⟩
        cases e
        exact hj hj'
theorem qT_eLdR (t : Nat) (a : z_Ev Nat) (i : z_Ev Int) (ρ : List z_V) (h : z_Hp) (Q : Nat → z_Hp → Prop) (X : String → z_Hp → Prop) : qT (eLdR t a i ρ h) Q X ↔ qT (a ρ h) (fun r h => qT (i ρ h) (fun j h => ∃ n f, z_arr h r t = some (n, f) ∧ (0 ≤ j ∧ j < (n : Int) ∧ 0 ≤ f j.toNat) ∧ Q (f j.toNat).toNat h) X) X := by
  unfold eLdR
  rw [qT_bind]
  rcases a ρ h with _ | ⟨r | E, h1⟩ <;> try exact Iff.rfl
  simp only [qT_some, qT_bind]
  rcases i ρ h1 with _ | ⟨j | E, h2⟩ <;> try exact Iff.rfl
  simp only [qT_some]
  rcases z_arr h2 r t with _ | ⟨n, f⟩
  · simp [qT]
  · by_cases hj : 0 ≤ j ∧ j < (n : Int) ∧ 0 ≤ f j.toNat
    · simp [qT, hj]
    · simp only [if_neg hj, qT]
      constructor
      · intro q; exact q.elim
      · rintro ⟨n', f', e, hj', -⟩
        cases e
        exact hj hj'
theorem qT_eLen (t : Nat) (a : z_Ev Nat) (ρ : List z_V) (h : z_Hp) (Q : Int → z_Hp → Prop) (X : String → z_Hp → Prop) : qT (eLen t a ρ h) Q X ↔ qT (a ρ h) (fun r h => ∃ n f, z_arr h r t = some (n, f) ∧ Q (n : Int) h) X := by
  unfold eLen
  rw [qT_bind]
  rcases a ρ h with _ | ⟨r | E, h1⟩ <;> try exact Iff.rfl
  simp only [qT_some]
  rcases z_arr h1 r t with _ | ⟨n, f⟩
  · simp [qT]
  · simp [qT]
theorem qT_eF (ci k : Nat) (o : z_Ev Nat) (ρ : List z_V) (h : z_Hp) (Q : Int → z_Hp → Prop) (X : String → z_Hp → Prop) : qT (eF ci k o ρ h) Q X ↔ qT (o ρ h) (fun r h => ∃ fs n, z_obj h r ci = some fs ∧ fs[k]? = some (vI n) ∧ Q n h) X := by
  unfold eF
  rw [qT_bind]
  rcases o ρ h with _ | ⟨r | E, h1⟩ <;> try exact Iff.rfl
  simp only [qT_some]
  rcases z_obj h1 r ci with _ | fs
  · simp [qT]
  · simp only
    rcases hk : fs[k]? with _ | (n | n | n | n) <;> simp [qT, hk]
theorem qT_eFR (ci k : Nat) (o : z_Ev Nat) (ρ : List z_V) (h : z_Hp) (Q : Nat → z_Hp → Prop) (X : String → z_Hp → Prop) : qT (eFR ci k o ρ h) Q X ↔ qT (o ρ h) (fun r h => ∃ fs n, z_obj h r ci = some fs ∧ fs[k]? = some (vR n) ∧ Q n h) X := by
  unfold eFR
  rw [qT_bind]
  rcases o ρ h with _ | ⟨r | E, h1⟩ <;> try exact Iff.rfl
  simp only [qT_some]
  rcases z_obj h1 r ci with _ | fs
  · simp [qT]
  · simp only
    rcases hk : fs[k]? with _ | (n | n | n | n) <;> simp [qT, hk]
theorem qT_aN (ρ : List z_V) (h : z_Hp) (Q : List z_V → z_Hp → Prop) (X : String → z_Hp → Prop) : qT (aN ρ h) Q X ↔ Q [] h := Iff.rfl
theorem qT_aS {α : Type} (w : α → z_V) (xs : z_Ev (List z_V)) (x : z_Ev α) (ρ : List z_V) (h : z_Hp) (Q : List z_V → z_Hp → Prop) (X : String → z_Hp → Prop) : qT (aS w xs x ρ h) Q X ↔ qT (xs ρ h) (fun L h => qT (x ρ h) (fun v h => Q (L ++ [w v]) h) X) X := by
  unfold aS
  rw [qT_bind]
  rcases xs ρ h with _ | ⟨L | E, h1⟩ <;> try exact Iff.rfl
  simp only [qT_some, qT_bind]
theorem qT_eCl (f : z_Mt) (xs : z_Ev (List z_V)) (ρ : List z_V) (h : z_Hp) (Q : Int → z_Hp → Prop) (X : String → z_Hp → Prop) : qT (eCl f xs ρ h) Q X ↔ qT (xs ρ h) (fun L h => qT (f L h) (fun r h => ∃ n, r = some (vI n) ∧ Q n h) X) X := by
  unfold eCl
  rw [qT_bind]
  rcases xs ρ h with _ | ⟨L | E, h1⟩ <;> try exact Iff.rfl
  simp only [qT_some, qT_bind]
  rcases f L h1 with _ | ⟨r | E, h2⟩ <;> try exact Iff.rfl
  simp only [qT_some]
  rcases r with _ | (n | n | n | n) <;> simp [qT]
theorem qT_eClR (f : z_Mt) (xs : z_Ev (List z_V)) (ρ : List z_V) (h : z_Hp) (Q : Nat → z_Hp → Prop) (X : String → z_Hp → Prop) : qT (eClR f xs ρ h) Q X ↔ qT (xs ρ h) (fun L h => qT (f L h) (fun r h => ∃ n, r = some (vR n) ∧ Q n h) X) X := by
  unfold eClR
  rw [qT_bind]
  rcases xs ρ h with _ | ⟨L | E, h1⟩ <;> try exact Iff.rfl
  simp only [qT_some, qT_bind]
  rcases f L h1 with _ | ⟨r | E, h2⟩ <;> try exact Iff.rfl
  simp only [qT_some]
  rcases r with _ | (n | n | n | n) <;> simp [qT]
theorem qT_eClB (f : z_Mt) (xs : z_Ev (List z_V)) (ρ : List z_V) (h : z_Hp) (Q : Bool → z_Hp → Prop) (X : String → z_Hp → Prop) : qT (eClB f xs ρ h) Q X ↔ qT (xs ρ h) (fun L h => qT (f L h) (fun r h => ∃ b, r = some (vB b) ∧ Q b h) X) X := by
  unfold eClB
  rw [qT_bind]
  rcases xs ρ h with _ | ⟨L | E, h1⟩ <;> try exact Iff.rfl
  simp only [qT_some, qT_bind]
  rcases f L h1 with _ | ⟨r | E, h2⟩ <;> try exact Iff.rfl
  simp only [qT_some]
  rcases r with _ | (n | n)
  · simp [qT]
  · simp only
    rcases hb : z_bool n with _ | b
    · simp only [qT]
      constructor
      · intro q; exact q.elim
      · rintro ⟨b, e, -⟩
        cases e
        rw [z_bool_b] at hb
        cases hb
    · have hn := z_bool_some hb
      simp only [qT]
      constructor
      · intro q; exact ⟨b, by rw [hn], q⟩
      · rintro ⟨b', e, q⟩
        cases e
        rw [z_bool_b] at hb
        cases hb
        exact q
  · simp [qT]
/-- a method's body: what its outcome is -/
theorem q_body {nL : Nat} {s : z_St} {L : List z_V} {h : z_Hp} {o : Option z_V ⊕ String} {h' : z_Hp} (H : qS s (L ++ List.replicate (nL - L.length) vU) h (fun oc h1 => (match o with | .inl r => oc = oR r | .inr E => oc = oX E) ∧ h1 = h')) : z_body nL s L h = some (o, h') := by
  unfold qS at H
  unfold z_body
  rcases hs : s (L ++ List.replicate (nL - L.length) vU) h with _ | ⟨oc, h1⟩
  · rw [hs] at H
    exact H.elim
  · rw [hs] at H
    obtain ⟨e1, rfl⟩ := H
    cases o <;> (simp only at e1; subst e1; rfl)
theorem q_vm {ci : Nat} {f : z_Mt} {r : Nat} {L : List z_V} {h : z_Hp} {fs : List z_V} (ho : h[r]? = some (.inl (ci, fs))) : z_vm ci f (vR r :: L) h = f (vR r :: L) h := by
  unfold z_vm z_obj
  simp [ho]
theorem q_arr {h : z_Hp} {r t n : Nat} {f : Nat → Int} (e : h[r]? = some (.inr (t, n, f))) (hn : n < 2147483648) : z_arr h r t = some (n, f) := by
  unfold z_arr
  simp [e, hn]
theorem q_obj {h : z_Hp} {r ci : Nat} {fs : List z_V} (e : h[r]? = some (.inl (ci, fs))) : z_obj h r ci = some fs := by
  unfold z_obj
  simp [e]
/-- a loop that counts: I k at the k-th test; at k = n it ends -/
def z_bk (K : List z_V → z_Hp → Prop) (Q : z_Oc → z_Hp → Prop) : z_Oc → z_Hp → Prop := fun o h => match o with
  | .inl ρ => K ρ h
  | .inr (.inl ρ) => Q (oN ρ) h
  | .inr (.inr o) => Q (.inr (.inr o)) h
theorem qS_loop_step (b : z_Ev Bool) (s u : z_St) (N : Nat) (ρ : List z_V) (h : z_Hp) (Q : z_Oc → z_Hp → Prop) : qS (sLoop b s u (N + 1)) ρ h Q ↔ qT (b ρ h) (fun v h => (v = true → qS s ρ h (z_bk (fun ρ h => qS u ρ h (z_nx (fun ρ h => qS (sLoop b s u N) ρ h Q) Q)) Q)) ∧ (v = false → Q (oN ρ) h)) (fun E h => Q (oX E) h) := by
  unfold qS
  rw [sLoop, qO_bindS]
  rcases b ρ h with _ | ⟨v | E, h1⟩ <;> try exact Iff.rfl
  cases v
  · simp [qT, qO]
  · simp only [qT_some, if_true, true_implies, Bool.true_eq_false, false_implies, and_true, reduceCtorEq]
    rcases s ρ h1 with _ | ⟨ρ1 | (ρ1 | o), h2⟩
    · exact Iff.rfl
    · exact qO_then _ _ _
    · exact Iff.rfl
    · exact Iff.rfl
theorem qS_loop {b : z_Ev Bool} {s u : z_St} {Q : z_Oc → z_Hp → Prop} (I : Nat → List z_V → z_Hp → Prop) (n : Nat)
    (hs : ∀ k ρ h, k < n → I k ρ h → qT (b ρ h) (fun v h => v = true ∧ qS s ρ h (z_bk (fun ρ h => qS u ρ h (z_nx (fun ρ h => I (k + 1) ρ h) Q)) Q)) (fun E h => Q (oX E) h))
    (he : ∀ ρ h, I n ρ h → qT (b ρ h) (fun v h => v = false ∧ Q (oN ρ) h) (fun E h => Q (oX E) h)) : ∀ (j k N : Nat) (ρ : List z_V) (h : z_Hp), k + j = n → j < N → I k ρ h → qS (sLoop b s u N) ρ h Q := by
  intro j
  induction j with
  | zero =>
    intro k N ρ h hk hN hI
    obtain ⟨M, rfl⟩ : ∃ M, N = M + 1 := ⟨N - 1, by omega⟩
    have hkn : k = n := by omega
    subst hkn
    rw [qS_loop_step]
    have := he ρ h hI
    rcases hb : b ρ h with _ | ⟨v | E, h1⟩
    · rw [hb] at this; exact this
    · rw [hb] at this
      obtain ⟨rfl, q⟩ := this
      exact ⟨fun q => (by cases q), fun _ => q⟩
    · rw [hb] at this; exact this
  | succ j ih =>
    intro k N ρ h hk hN hI
    obtain ⟨M, rfl⟩ : ∃ M, N = M + 1 := ⟨N - 1, by omega⟩
    rw [qS_loop_step]
    have := hs k ρ h (by omega) hI
    rcases hb : b ρ h with _ | ⟨v | E, h1⟩
    · rw [hb] at this; exact this
    · rw [hb] at this
      obtain ⟨rfl, q⟩ := this
      refine ⟨fun _ => ?_, fun q => (by cases q)⟩
      unfold qS at q ⊢
      rcases hsr : s ρ h1 with _ | ⟨o, h2⟩
      · rw [hsr] at q; exact q
      · rw [hsr] at q
        rcases o with ρ1 | (ρ1 | o)
        · simp only [qO, z_bk] at q ⊢
          rcases hu : u ρ1 h2 with _ | ⟨o2, h3⟩
          · rw [hu] at q; exact q
          · rw [hu] at q
            rcases o2 with ρ2 | o2
            · exact ih (k + 1) M ρ2 h3 (by omega) (by omega) q
            · exact q
        · exact q
        · exact q
    · rw [hb] at this; exact this
