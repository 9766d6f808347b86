/-! HOW A PIECE OF CODE DOES WHAT ITS FUNCTION SAYS: K h ρ pc st: from this point all goes as it must; KX E h, KR r h: so it must end -/
def z_cat : z_V → Nat
  | .inr (.inl _) => 2
  | _ => 1
def z_wt (st : List z_V) : Nat := (st.map z_cat).sum
theorem z_wt_cons (v : z_V) (st : List z_V) : z_wt (v :: st) = z_cat v + z_wt st := by simp [z_wt]
theorem z_wt_app (a b : List z_V) : z_wt (a ++ b) = z_wt a + z_wt b := by simp [z_wt]
theorem z_wt_rev (a : List z_V) : z_wt a.reverse = z_wt a := by simp [z_wt, List.map_reverse]
section ZL
variable {K : z_Hp → List z_V → Nat → List z_V → Prop} {KX : String → z_Hp → Prop} {KR : Option z_V → z_Hp → Prop} {α β : Type}
def xE (K : z_Hp → List z_V → Nat → List z_V → Prop) (KX : String → z_Hp → Prop) (w : α → z_V) (d : Nat) (x : z_Ev α) (pc pc' : Nat) : Prop :=
  ∀ ρ h st, z_wt st ≤ d → (∀ v h', x ρ h = some (.inl v, h') → K h' ρ pc' (w v :: st) → K h ρ pc st) ∧ (∀ E h', x ρ h = some (.inr E, h') → KX E h' → K h ρ pc st)
def xB (K : z_Hp → List z_V → Nat → List z_V → Prop) (KX : String → z_Hp → Prop) (d : Nat) (b : z_Ev Bool) (pc pt pf : Nat) : Prop :=
  ∀ ρ h st, z_wt st ≤ d → (∀ h', b ρ h = some (.inl true, h') → K h' ρ pt st → K h ρ pc st) ∧ (∀ h', b ρ h = some (.inl false, h') → K h' ρ pf st → K h ρ pc st) ∧ (∀ E h', b ρ h = some (.inr E, h') → KX E h' → K h ρ pc st)
def xA (K : z_Hp → List z_V → Nat → List z_V → Prop) (KX : String → z_Hp → Prop) (d : Nat) (xs : z_Ev (List z_V)) (n : Nat) (pc pc' : Nat) : Prop :=
  ∀ ρ h st, z_wt st ≤ d → (∀ L h', xs ρ h = some (.inl L, h') → L.length = n ∧ z_wt L = n ∧ (K h' ρ pc' (L.reverse ++ st) → K h ρ pc st)) ∧ (∀ E h', xs ρ h = some (.inr E, h') → KX E h' → K h ρ pc st)
def xS (K : z_Hp → List z_V → Nat → List z_V → Prop) (KX : String → z_Hp → Prop) (KR : Option z_V → z_Hp → Prop) (s : z_St) (pc pe pb : Nat) : Prop :=
  ∀ ρ h, (∀ ρ' h', s ρ h = some (oN ρ', h') → K h' ρ' pe [] → K h ρ pc []) ∧ (∀ ρ' h', s ρ h = some (oB ρ', h') → K h' ρ' pb [] → K h ρ pc []) ∧ (∀ r h', s ρ h = some (oR r, h') → KR r h' → K h ρ pc []) ∧ (∀ E h', s ρ h = some (oX E, h') → KX E h' → K h ρ pc [])
-- single steps
def i1 (K : z_Hp → List z_V → Nat → List z_V → Prop) (w1 : α → z_V) (w2 : β → z_V) (f : α → Option β) (pc pc' : Nat) : Prop := ∀ h ρ st x z, f x = some z → K h ρ pc' (w2 z :: st) → K h ρ pc (w1 x :: st)
def i2 {γ : Type} (K : z_Hp → List z_V → Nat → List z_V → Prop) (w1 : α → z_V) (w2 : β → z_V) (w3 : γ → z_V) (f : α → β → Option γ) (pc pc' : Nat) : Prop := ∀ h ρ st x y z, f x y = some z → K h ρ pc' (w3 z :: st) → K h ρ pc (w2 y :: w1 x :: st)
/-- a jump on a comparison of two: to pt where it holds, else to pf -/
def j2 (K : z_Hp → List z_V → Nat → List z_V → Prop) (f : Int → Int → Bool) (pc pt pf : Nat) : Prop := ∀ h ρ st x y, (z_in x && z_in y) = true → (f x y = true → K h ρ pt st) → (f x y = false → K h ρ pf st) → K h ρ pc (vI y :: vI x :: st)
/-- .. of one with a number -/
def j1 (K : z_Hp → List z_V → Nat → List z_V → Prop) (f : Int → Int → Bool) (n : Int) (pc pt pf : Nat) : Prop := ∀ h ρ st x, z_in x = true → (f x n = true → K h ρ pt st) → (f x n = false → K h ρ pf st) → K h ρ pc (vI x :: st)
def jB (K : z_Hp → List z_V → Nat → List z_V → Prop) (pc pt pf : Nat) : Prop := ∀ h ρ st b, (b = true → K h ρ pt st) → (b = false → K h ρ pf st) → K h ρ pc (vB b :: st)
def jG (K : z_Hp → List z_V → Nat → List z_V → Prop) (pc pt : Nat) : Prop := ∀ h ρ st, K h ρ pt st → K h ρ pc st
theorem z_bind_inl {x : z_Rs α} {k : α → z_Hp → z_Rs β} {v : β} {h' : z_Hp} (e : z_bind x k = some (.inl v, h')) : ∃ a h1, x = some (.inl a, h1) ∧ k a h1 = some (.inl v, h') := by
  unfold z_bind at e
  match x, e with
  | none, e => cases e
  | some (.inl a, h1), e => exact ⟨a, h1, rfl, e⟩
  | some (.inr E, h1), e => cases e
theorem z_bind_inr {x : z_Rs α} {k : α → z_Hp → z_Rs β} {E : String} {h' : z_Hp} (e : z_bind x k = some (.inr E, h')) : x = some (.inr E, h') ∨ ∃ a h1, x = some (.inl a, h1) ∧ k a h1 = some (.inr E, h') := by
  unfold z_bind at e
  match x, e with
  | none, e => cases e
  | some (.inl a, h1), e => exact Or.inr ⟨a, h1, rfl, e⟩
  | some (.inr E', h1), e => cases e; exact Or.inl rfl
theorem z_bindS_cases {x : z_Rs α} {k : α → z_Hp → Option (z_Oc × z_Hp)} {o : z_Oc} {h' : z_Hp} (e : z_bindS x k = some (o, h')) : (∃ E, x = some (.inr E, h') ∧ o = oX E) ∨ ∃ a h1, x = some (.inl a, h1) ∧ k a h1 = some (o, h') := by
  unfold z_bindS at e
  match x, e with
  | none, e => cases e
  | some (.inl a, h1), e => exact Or.inr ⟨a, h1, rfl, e⟩
  | some (.inr E', h1), e => cases e; exact Or.inl ⟨E', rfl, rfl⟩
/-- a statement's four ends, out of one -/
theorem xS.of {s : z_St} {pc pe pb : Nat} (H : ∀ ρ h o h', s ρ h = some (o, h') → (∀ ρ', o = oN ρ' → K h' ρ' pe []) → (∀ ρ', o = oB ρ' → K h' ρ' pb []) → (∀ r, o = oR r → KR r h') → (∀ E, o = oX E → KX E h') → K h ρ pc []) : xS K KX KR s pc pe pb := fun ρ h =>
  ⟨fun ρ' h' e k => H ρ h _ h' e (fun _ q => by cases q; exact k) (fun _ q => by cases q) (fun _ q => by cases q) (fun _ q => by cases q),
   fun ρ' h' e k => H ρ h _ h' e (fun _ q => by cases q) (fun _ q => by cases q; exact k) (fun _ q => by cases q) (fun _ q => by cases q),
   fun r h' e k => H ρ h _ h' e (fun _ q => by cases q) (fun _ q => by cases q) (fun _ q => by cases q; exact k) (fun _ q => by cases q),
   fun E h' e k => H ρ h _ h' e (fun _ q => by cases q) (fun _ q => by cases q) (fun _ q => by cases q) (fun _ q => by cases q; exact k)⟩
theorem xS.to {s : z_St} {pc pe pb : Nat} (S : xS K KX KR s pc pe pb) {ρ : List z_V} {h : z_Hp} {o : z_Oc} {h' : z_Hp} (e : s ρ h = some (o, h')) (k1 : ∀ ρ', o = oN ρ' → K h' ρ' pe []) (k2 : ∀ ρ', o = oB ρ' → K h' ρ' pb []) (k3 : ∀ r, o = oR r → KR r h') (k4 : ∀ E, o = oX E → KX E h') : K h ρ pc [] := by
  obtain ⟨a1, a2, a3, a4⟩ := S ρ h
  match o, e with
  | .inl ρ', e => exact a1 _ _ e (k1 _ rfl)
  | .inr (.inl ρ'), e => exact a2 _ _ e (k2 _ rfl)
  | .inr (.inr (.inl r)), e => exact a3 _ _ e (k3 _ rfl)
  | .inr (.inr (.inr E)), e => exact a4 _ _ e (k4 _ rfl)
theorem xE.of {w : α → z_V} {d : Nat} {x : z_Ev α} {pc pc' : Nat} (H : ∀ ρ h st, z_wt st ≤ d → ∀ r h', x ρ h = some (r, h') → (∀ v, r = .inl v → K h' ρ pc' (w v :: st)) → (∀ E, r = .inr E → KX E h') → K h ρ pc st) : xE K KX w d x pc pc' := fun ρ h st hd =>
  ⟨fun v h' e k => H ρ h st hd _ h' e (fun _ q => by cases q; exact k) (fun _ q => by cases q), fun E h' e k => H ρ h st hd _ h' e (fun _ q => by cases q) (fun _ q => by cases q; exact k)⟩
theorem z_bind_cases {x : z_Rs α} {k : α → z_Hp → z_Rs β} {o : β ⊕ String} {h' : z_Hp} (e : z_bind x k = some (o, h')) : (∃ E, x = some (.inr E, h') ∧ o = .inr E) ∨ ∃ a h1, x = some (.inl a, h1) ∧ k a h1 = some (o, h') := by
  unfold z_bind at e
  match x, e with
  | none, e => cases e
  | some (.inl a, h1), e => exact Or.inr ⟨a, h1, rfl, e⟩
  | some (.inr E', h1), e => cases e; exact Or.inl ⟨E', rfl, rfl⟩
/-- an expression's value is there, or what it throws goes on -/
theorem xE.use {w : α → z_V} {d : Nat} {x : z_Ev α} {pc pc' : Nat} (X : xE K KX w d x pc pc') {ρ : List z_V} {h : z_Hp} {st : List z_V} (hd : z_wt st ≤ d) {k : α → z_Hp → z_Rs β} {o : β ⊕ String} {h' : z_Hp} (e : z_bind (x ρ h) k = some (o, h'))
    (kX : ∀ E, o = .inr E → KX E h') (kk : ∀ v h1, k v h1 = some (o, h') → K h1 ρ pc' (w v :: st)) : K h ρ pc st := by
  rcases z_bind_cases e with ⟨E, e1, rfl⟩ | ⟨a, h1, e1, e2⟩
  · exact (X ρ h st hd).2 _ _ e1 (kX _ rfl)
  · exact (X ρ h st hd).1 _ _ e1 (kk _ _ e2)
theorem xE.useS {w : α → z_V} {d : Nat} {x : z_Ev α} {pc pc' : Nat} (X : xE K KX w d x pc pc') {ρ : List z_V} {h : z_Hp} {st : List z_V} (hd : z_wt st ≤ d) {k : α → z_Hp → Option (z_Oc × z_Hp)} {o : z_Oc} {h' : z_Hp} (e : z_bindS (x ρ h) k = some (o, h'))
    (kX : ∀ E, o = oX E → KX E h') (kk : ∀ v h1, k v h1 = some (o, h') → K h1 ρ pc' (w v :: st)) : K h ρ pc st := by
  rcases z_bindS_cases e with ⟨E, e1, rfl⟩ | ⟨a, h1, e1, e2⟩
  · exact (X ρ h st hd).2 _ _ e1 (kX _ rfl)
  · exact (X ρ h st hd).1 _ _ e1 (kk _ _ e2)
theorem xB.use {d : Nat} {b : z_Ev Bool} {pc pt pf : Nat} (X : xB K KX d b pc pt pf) {ρ : List z_V} {h : z_Hp} {st : List z_V} (hd : z_wt st ≤ d) {k : Bool → z_Hp → z_Rs β} {o : β ⊕ String} {h' : z_Hp} (e : z_bind (b ρ h) k = some (o, h'))
    (kX : ∀ E, o = .inr E → KX E h') (kt : ∀ h1, k true h1 = some (o, h') → K h1 ρ pt st) (kf : ∀ h1, k false h1 = some (o, h') → K h1 ρ pf st) : K h ρ pc st := by
  rcases z_bind_cases e with ⟨E, e1, rfl⟩ | ⟨a, h1, e1, e2⟩
  · exact (X ρ h st hd).2.2 _ _ e1 (kX _ rfl)
  · cases a
    · exact (X ρ h st hd).2.1 _ e1 (kf _ e2)
    · exact (X ρ h st hd).1 _ e1 (kt _ e2)
theorem xB.useS {d : Nat} {b : z_Ev Bool} {pc pt pf : Nat} (X : xB K KX d b pc pt pf) {ρ : List z_V} {h : z_Hp} {st : List z_V} (hd : z_wt st ≤ d) {k : Bool → z_Hp → Option (z_Oc × z_Hp)} {o : z_Oc} {h' : z_Hp} (e : z_bindS (b ρ h) k = some (o, h'))
    (kX : ∀ E, o = oX E → KX E h') (kt : ∀ h1, k true h1 = some (o, h') → K h1 ρ pt st) (kf : ∀ h1, k false h1 = some (o, h') → K h1 ρ pf st) : K h ρ pc st := by
  rcases z_bindS_cases e with ⟨E, e1, rfl⟩ | ⟨a, h1, e1, e2⟩
  · exact (X ρ h st hd).2.2 _ _ e1 (kX _ rfl)
  · cases a
    · exact (X ρ h st hd).2.1 _ e1 (kf _ e2)
    · exact (X ρ h st hd).1 _ e1 (kt _ e2)
theorem xB.of {d : Nat} {b : z_Ev Bool} {pc pt pf : Nat} (H : ∀ ρ h st, z_wt st ≤ d → ∀ r h', b ρ h = some (r, h') → (r = .inl true → K h' ρ pt st) → (r = .inl false → K h' ρ pf st) → (∀ E, r = .inr E → KX E h') → K h ρ pc st) : xB K KX d b pc pt pf := fun ρ h st hd =>
  ⟨fun h' e k => H ρ h st hd _ h' e (fun _ => k) (fun q => by cases q) (fun _ q => by cases q), fun h' e k => H ρ h st hd _ h' e (fun q => by cases q) (fun _ => k) (fun _ q => by cases q), fun E h' e k => H ρ h st hd _ h' e (fun q => by cases q) (fun q => by cases q) (fun _ q => by cases q; exact k)⟩
-- expressions out of their parts
theorem xE_e1 {w1 w2 : Int → z_V} {d : Nat} {a : z_Ev Int} {f : Int → Option Int} {pc p1 p2 : Nat} (A : xE K KX w1 d a pc p1) (I : i1 K w1 w2 f p1 p2) : xE K KX w2 d (e1 f a) pc p2 :=
  xE.of fun ρ h st hd r h' e kv kx => A.use hd e kx fun v h1 e2 => by
    split at e2
    · next z hz => cases e2; exact I _ _ _ _ _ hz (kv _ rfl)
    · cases e2
theorem xE_e2 {w1 w2 w3 : Int → z_V} {d n : Nat} {a b : z_Ev Int} {f : Int → Int → Option Int} {pc p1 p2 p3 : Nat} (A : xE K KX w1 d a pc p1) (hw : ∀ v, z_cat (w1 v) ≤ n) (B : xE K KX w2 (d + n) b p1 p2) (I : i2 K w1 w2 w3 f p2 p3) : xE K KX w3 d (e2 f a b) pc p3 :=
  xE.of fun ρ h st hd r h' e kv kx => A.use hd e kx fun v h1 e2 => B.use (by rw [z_wt_cons]; have := hw v; omega) e2 kx fun v2 h2 e3 => by
    split at e3
    · next z hz => cases e3; exact I _ _ _ _ _ _ hz (kv _ rfl)
    · cases e3
theorem xE_if {w : α → z_V} {d : Nat} {b : z_Ev Bool} {x y : z_Ev α} {pc pt px pf pe : Nat} (B : xB K KX d b pc pt pf) (X : xE K KX w d x pt px) (G : jG K px pe) (Y : xE K KX w d y pf pe) : xE K KX w d (eIf b x y) pc pe :=
  xE.of fun ρ h st hd r h' e kv kx => B.use hd e kx (fun h1 e2 => by
    rw [if_pos rfl] at e2
    cases r with
    | inl v => exact (X ρ h1 st hd).1 _ _ e2 (G _ _ _ (kv _ rfl))
    | inr E => exact (X ρ h1 st hd).2 _ _ e2 (kx _ rfl)) (fun h1 e2 => by
    rw [if_neg (by decide)] at e2
    cases r with
    | inl v => exact (Y ρ h1 st hd).1 _ _ e2 (kv _ rfl)
    | inr E => exact (Y ρ h1 st hd).2 _ _ e2 (kx _ rfl))
/-- a truth that is left as 0 or 1 -/
theorem xE_b {d : Nat} {b : z_Ev Bool} {pc pt px pf pe : Nat} (B : xB K KX d b pc pt pf) (X : ∀ h ρ st, K h ρ px (vI 1 :: st) → K h ρ pt st) (G : jG K px pe) (Y : ∀ h ρ st, K h ρ pe (vI 0 :: st) → K h ρ pf st) : xE K KX vB d b pc pe := fun ρ h st hd =>
  ⟨fun v h' e k => by
    cases v
    · exact (B ρ h st hd).2.1 _ e (Y _ _ _ k)
    · exact (B ρ h st hd).1 _ e (X _ _ _ (G _ _ _ k)),
   fun E h' e k => (B ρ h st hd).2.2 _ _ e k⟩
theorem xB_cmp {d : Nat} {a b : z_Ev Int} {f : Int → Int → Bool} {pc p1 p2 pt pf : Nat} (A : xE K KX vI d a pc p1) (B : xE K KX vI (d + 1) b p1 p2) (J : j2 K f p2 pt pf) : xB K KX d (bCmp f a b) pc pt pf :=
  xB.of fun ρ h st hd r h' e kt kf kx => A.use hd e kx fun v h1 e2 => B.use (by rw [z_wt_cons]; have : z_cat (vI v) = 1 := rfl; omega) e2 kx fun v2 h2 e3 => by
    split at e3
    · next hz => cases e3; exact J _ _ _ _ _ hz (fun q => kt (by rw [q])) (fun q => kf (by rw [q]))
    · cases e3
theorem xB_cmp0 {d : Nat} {a : z_Ev Int} {f : Int → Int → Bool} {pc p1 pt pf : Nat} (A : xE K KX vI d a pc p1) (J : j1 K f 0 p1 pt pf) : xB K KX d (bCmp f a (eC 0)) pc pt pf :=
  xB.of fun ρ h st hd r h' e kt kf kx => A.use hd e kx fun v h1 e2 => by
    simp only [eC, z_bind] at e2
    split at e2
    · next hz => cases e2; exact J _ _ _ _ (Bool.and_eq_true_iff.mp hz).1 (fun q => kt (by rw [q])) (fun q => kf (by rw [q]))
    · cases e2
/-- longs: lcmp and a jump -/
def jJ (K : z_Hp → List z_V → Nat → List z_V → Prop) (f : Int → Int → Bool) (pc pt pf : Nat) : Prop := ∀ h ρ st x y, (z_inJ x && z_inJ y) = true → (f x y = true → K h ρ pt st) → (f x y = false → K h ρ pf st) → K h ρ pc (vJ y :: vJ x :: st)
theorem xB_cmpJ {d : Nat} {a b : z_Ev Int} {f : Int → Int → Bool} {pc p1 p2 pt pf : Nat} (A : xE K KX vJ d a pc p1) (B : xE K KX vJ (d + 2) b p1 p2) (J : jJ K f p2 pt pf) : xB K KX d (bCmpJ f a b) pc pt pf :=
  xB.of fun ρ h st hd r h' e kt kf kx => A.use hd e kx fun v h1 e2 => B.use (by rw [z_wt_cons]; have : z_cat (vJ v) = 2 := rfl; omega) e2 kx fun v2 h2 e3 => by
    split at e3
    · next hz => cases e3; exact J _ _ _ _ _ hz (fun q => kt (by rw [q])) (fun q => kf (by rw [q]))
    · cases e3
theorem xB_v {d : Nat} {b : z_Ev Bool} {pc p1 pt pf : Nat} (A : xE K KX vB d b pc p1) (J : jB K p1 pt pf) : xB K KX d b pc pt pf := fun ρ h st hd =>
  ⟨fun h' e k => (A ρ h st hd).1 _ _ e (J _ _ _ _ (fun _ => k) (fun q => by cases q)), fun h' e k => (A ρ h st hd).1 _ _ e (J _ _ _ _ (fun q => by cases q) (fun _ => k)), fun E h' e k => (A ρ h st hd).2 _ _ e k⟩
theorem xB_and {d : Nat} {a b : z_Ev Bool} {pc p1 pt pf : Nat} (A : xB K KX d a pc p1 pf) (B : xB K KX d b p1 pt pf) : xB K KX d (bAnd a b) pc pt pf :=
  xB.of fun ρ h st hd r h' e kt kf kx => A.use hd e kx (fun h1 e2 => by
    rw [if_pos rfl] at e2
    match r, e2 with
    | .inl true, e2 => exact (B ρ h1 st hd).1 _ e2 (kt rfl)
    | .inl false, e2 => exact (B ρ h1 st hd).2.1 _ e2 (kf rfl)
    | .inr E, e2 => exact (B ρ h1 st hd).2.2 _ _ e2 (kx _ rfl)) (fun h1 e2 => by
    rw [if_neg (by decide)] at e2
    cases e2
    exact kf rfl)
theorem xB_or {d : Nat} {a b : z_Ev Bool} {pc p1 pt pf : Nat} (A : xB K KX d a pc pt p1) (B : xB K KX d b p1 pt pf) : xB K KX d (bOr a b) pc pt pf :=
  xB.of fun ρ h st hd r h' e kt kf kx => A.use hd e kx (fun h1 e2 => by
    rw [if_pos rfl] at e2
    cases e2
    exact kt rfl) (fun h1 e2 => by
    rw [if_neg (by decide)] at e2
    match r, e2 with
    | .inl true, e2 => exact (B ρ h1 st hd).1 _ e2 (kt rfl)
    | .inl false, e2 => exact (B ρ h1 st hd).2.1 _ e2 (kf rfl)
    | .inr E, e2 => exact (B ρ h1 st hd).2.2 _ _ e2 (kx _ rfl))
theorem xB_not {d : Nat} {a : z_Ev Bool} {pc pt pf : Nat} (A : xB K KX d a pc pf pt) : xB K KX d (bNot a) pc pt pf :=
  xB.of fun ρ h st hd r h' e kt kf kx => A.use hd e kx (fun h1 e2 => by cases e2; exact kf rfl) (fun h1 e2 => by cases e2; exact kt rfl)
/-- a condition's ends lie behind a goto -/
theorem xB_to {d : Nat} {b : z_Ev Bool} {pc pt pf pt' pf' : Nat} (B : xB K KX d b pc pt pf) (T : jG K pt pt') (F : jG K pf pf') : xB K KX d b pc pt' pf' := fun ρ h st hd =>
  ⟨fun h' e k => (B ρ h st hd).1 _ e (T _ _ _ k), fun h' e k => (B ρ h st hd).2.1 _ e (F _ _ _ k), (B ρ h st hd).2.2⟩
theorem jG_id {pc : Nat} : jG K pc pc := fun _ _ _ k => k
-- arrays, fields
theorem xE_ld {t : Nat} {w : Int → z_V} {d : Nat} {a : z_Ev Nat} {i : z_Ev Int} {pc p1 p2 p3 : Nat} (A : xE K KX vR d a pc p1) (B : xE K KX vI (d + 1) i p1 p2)
    (I : ∀ h ρ st r j n f, z_arr h r t = some (n, f) → 0 ≤ j → j < (n : Int) → K h ρ p3 (w (f j.toNat) :: st) → K h ρ p2 (vI j :: vR r :: st)) : xE K KX w d (eLd t a i) pc p3 :=
  xE.of fun ρ h st hd r h' e kv kx => A.use hd e kx fun v h1 e2 => B.use (by rw [z_wt_cons]; have : z_cat (vR v) = 1 := rfl; omega) e2 kx fun j h2 e3 => by
    split at e3
    · next n f hz =>
      split at e3
      · next hj => cases e3; exact I _ _ _ _ _ _ _ hz hj.1 hj.2 (kv _ rfl)
      · cases e3
    · cases e3
theorem xE_ldR {t : Nat} {d : Nat} {a : z_Ev Nat} {i : z_Ev Int} {pc p1 p2 p3 : Nat} (A : xE K KX vR d a pc p1) (B : xE K KX vI (d + 1) i p1 p2)
    (I : ∀ h ρ st r j n f, z_arr h r t = some (n, f) → 0 ≤ j → j < (n : Int) → 0 ≤ f j.toNat → K h ρ p3 (vR (f j.toNat).toNat :: st) → K h ρ p2 (vI j :: vR r :: st)) : xE K KX vR d (eLdR t a i) pc p3 :=
  xE.of fun ρ h st hd r h' e kv kx => A.use hd e kx fun v h1 e2 => B.use (by rw [z_wt_cons]; have : z_cat (vR v) = 1 := rfl; omega) e2 kx fun j h2 e3 => by
    split at e3
    · next n f hz =>
      split at e3
      · next hj => cases e3; exact I _ _ _ _ _ _ _ hz hj.1 hj.2.1 hj.2.2 (kv _ rfl)
      · cases e3
    · cases e3
theorem xE_len {t : Nat} {d : Nat} {a : z_Ev Nat} {pc p1 p2 : Nat} (A : xE K KX vR d a pc p1) (I : ∀ h ρ st r n f, z_arr h r t = some (n, f) → K h ρ p2 (vI (n : Int) :: st) → K h ρ p1 (vR r :: st)) : xE K KX vI d (eLen t a) pc p2 :=
  xE.of fun ρ h st hd r h' e kv kx => A.use hd e kx fun v h1 e2 => by
    split at e2
    · next n f hz => cases e2; exact I _ _ _ _ _ _ hz (kv _ rfl)
    · cases e2
def iF (K : z_Hp → List z_V → Nat → List z_V → Prop) (ci k : Nat) (pc pc' : Nat) : Prop := ∀ h ρ st r fs v, z_obj h r ci = some fs → fs[k]? = some v → v ≠ vU → K h ρ pc' (v :: st) → K h ρ pc (vR r :: st)
theorem xE_f {ci k : Nat} {d : Nat} {a : z_Ev Nat} {pc p1 p2 : Nat} (A : xE K KX vR d a pc p1) (I : iF K ci k p1 p2) : xE K KX vI d (eF ci k a) pc p2 :=
  xE.of fun ρ h st hd r h' e kv kx => A.use hd e kx fun v h1 e2 => by
    split at e2
    · next fs hz =>
      split at e2
      · next n hk => cases e2; exact I _ _ _ _ _ _ hz hk (fun q => by cases q) (kv _ rfl)
      · cases e2
    · cases e2
theorem xE_fR {ci k : Nat} {d : Nat} {a : z_Ev Nat} {pc p1 p2 : Nat} (A : xE K KX vR d a pc p1) (I : iF K ci k p1 p2) : xE K KX vR d (eFR ci k a) pc p2 :=
  xE.of fun ρ h st hd r h' e kv kx => A.use hd e kx fun v h1 e2 => by
    split at e2
    · next fs hz =>
      split at e2
      · next n hk => cases e2; exact I _ _ _ _ _ _ hz hk (fun q => by cases q) (kv _ rfl)
      · cases e2
    · cases e2
-- calls
theorem xA_n {d : Nat} {pc : Nat} : xA K KX d aN 0 pc pc := fun ρ h st hd => ⟨fun L h' e => by cases e; exact ⟨rfl, rfl, fun k => k⟩, fun E h' e => by cases e⟩
theorem xA_s {w : α → z_V} (hw : ∀ v, z_cat (w v) = 1) {d n : Nat} {xs : z_Ev (List z_V)} {x : z_Ev α} {pc p1 p2 : Nat} (A : xA K KX d xs n pc p1) (X : xE K KX w (d + n) x p1 p2) : xA K KX d (aS w xs x) (n + 1) pc p2 := by
  intro ρ h st hd
  obtain ⟨a1, a2⟩ := A ρ h st hd
  refine ⟨fun L h' e => ?_, fun E h' e k => ?_⟩
  · obtain ⟨L1, h1, e1, e2⟩ := z_bind_inl e
    obtain ⟨v, h2, e3, e4⟩ := z_bind_inl e2
    cases e4
    obtain ⟨q1, q2, q3⟩ := a1 _ _ e1
    refine ⟨by simp [q1], by rw [z_wt_app, q2]; simp [z_wt, hw], fun k => q3 ((X ρ h1 _ ?_).1 _ _ e3 ?_)⟩
    · rw [z_wt_app, z_wt_rev, q2]; omega
    · simpa using k
  · rcases z_bind_inr e with e1 | ⟨L1, h1, e1, e2⟩
    · exact a2 _ _ e1 k
    · obtain ⟨q1, q2, q3⟩ := a1 _ _ e1
      refine q3 ((X ρ h1 _ (by rw [z_wt_app, z_wt_rev, q2]; omega)).2 E h' ?_ k)
      rcases z_bind_inr e2 with e3 | ⟨v, h2, e3, e4⟩
      · exact e3
      · cases e4
/-- a call, of a method f with n arguments: it returns a value or nothing, or throws -/
def iC (K : z_Hp → List z_V → Nat → List z_V → Prop) (KX : String → z_Hp → Prop) (f : z_Mt) (n : Nat) (d pc pc' : Nat) : Prop := ∀ h ρ st L, L.length = n → z_wt L = n → z_wt st ≤ d → (∀ r h', f L h = some (.inl r, h') → K h' ρ pc' (r.toList ++ st) → K h ρ pc (L.reverse ++ st)) ∧ (∀ E h', f L h = some (.inr E, h') → KX E h' → K h ρ pc (L.reverse ++ st))
theorem xE_call {w : α → z_V} {g : Option z_V → Option α} (hg : ∀ r v, g r = some v → r = some (w v)) {f : z_Mt} {xs : z_Ev (List z_V)} {n d pc p1 p2 : Nat} (A : xA K KX d xs n pc p1) (I : iC K KX f n d p1 p2) {x : z_Ev α}
    (hx : ∀ ρ h, x ρ h = z_bind (xs ρ h) fun L h => z_bind (f L h) fun r h => match g r with
      | some v => some (.inl v, h)
      | none => none) : xE K KX w d x pc p2 :=
  xE.of fun ρ h st hd r h' e kv kx => by
    rw [hx] at e
    obtain ⟨a1, a2⟩ := A ρ h st hd
    rcases z_bind_cases e with ⟨E, e1, rfl⟩ | ⟨L, h1, e1, e2⟩
    · exact a2 _ _ e1 (kx _ rfl)
    · obtain ⟨q1, q2, q3⟩ := a1 _ _ e1
      obtain ⟨b1, b2⟩ := I h1 ρ st L q1 q2 hd
      refine q3 ?_
      rcases z_bind_cases e2 with ⟨E, e3, rfl⟩ | ⟨v, h2, e3, e4⟩
      · exact b2 _ _ e3 (kx _ rfl)
      · refine b1 _ _ e3 ?_
        split at e4
        · next v' hv =>
          cases e4
          rw [hg _ _ hv]
          exact kv _ rfl
        · cases e4
theorem xE_cl {f : z_Mt} {xs : z_Ev (List z_V)} {n d pc p1 p2 : Nat} (A : xA K KX d xs n pc p1) (I : iC K KX f n d p1 p2) : xE K KX vI d (eCl f xs) pc p2 :=
  xE_call (g := fun r => match r with | some (.inl n) => some n | _ => none) (fun r v e => by split at e <;> cases e; rfl) A I (fun ρ h => by
    unfold eCl; congr 1; funext L h; congr 1; funext r h; rcases r with _ | (n | n | n | n) <;> rfl)
theorem xE_clR {f : z_Mt} {xs : z_Ev (List z_V)} {n d pc p1 p2 : Nat} (A : xA K KX d xs n pc p1) (I : iC K KX f n d p1 p2) : xE K KX vR d (eClR f xs) pc p2 :=
  xE_call (g := fun r => match r with | some (.inr (.inr (.inl n))) => some n | _ => none) (fun r v e => by split at e <;> cases e; rfl) A I (fun ρ h => by
    unfold eClR; congr 1; funext L h; congr 1; funext r h; rcases r with _ | (n | n | n | n) <;> rfl)
theorem z_bool_some {n : Int} {b : Bool} (h : z_bool n = some b) : n = if b = true then 1 else 0 := by
  unfold z_bool at h
  split at h
  · next q => cases h; exact q
  · split at h
    · next q => cases h; exact q
    · cases h
theorem xE_clB {f : z_Mt} {xs : z_Ev (List z_V)} {n d pc p1 p2 : Nat} (A : xA K KX d xs n pc p1) (I : iC K KX f n d p1 p2) : xE K KX vB d (eClB f xs) pc p2 :=
  xE_call (g := fun r => match r with | some (.inl n) => z_bool n | _ => none) (fun r v e => by
    split at e
    · next n => rw [z_bool_some e]
    · cases e) A I (fun ρ h => by
    unfold eClB; congr 1; funext L h; congr 1; funext r h
    split
    · next n h => split <;> rename_i hb <;> simp only [hb]
    · next hn => split
                 · next v hv => split at hv
                                · next n => exact absurd rfl (hn n)
                                · cases hv
                 · rfl)
-- statements
theorem xS_nop {pc pb : Nat} : xS K KX KR sNop pc pc pb := xS.of fun ρ h o h' e k1 k2 k3 k4 => by cases e; exact k1 _ rfl
theorem xS_seq {a b : z_St} {pc p1 pe pb : Nat} (A : xS K KX KR a pc p1 pb) (B : xS K KX KR b p1 pe pb) : xS K KX KR (sSeq a b) pc pe pb :=
  xS.of fun ρ h o h' e k1 k2 k3 k4 => by
    unfold sSeq z_then at e
    split at e
    · next ρ1 h1 e1 => exact A.to e1 (fun _ q => by cases q; exact B.to e k1 k2 k3 k4) (fun _ q => by cases q) (fun _ q => by cases q) (fun _ q => by cases q)
    · next hn => exact A.to e (fun ρ' q => by subst q; exact absurd e (hn ρ' h')) k2 k3 k4
theorem xS_set {w : α → z_V} {i : Nat} {x : z_Ev α} {pc p1 p2 pb : Nat} (X : xE K KX w 0 x pc p1) (I : ∀ h ρ v, K h (ρ.set i (w v)) p2 [] → K h ρ p1 [w v]) : xS K KX KR (sSet w i x) pc p2 pb :=
  xS.of fun ρ h o h' e k1 k2 k3 k4 => X.useS (Nat.le_refl 0) e k4 fun v h1 e2 => by cases e2; exact I _ _ _ (k1 _ rfl)
theorem xS_inc {i : Nat} {n : Int} {pc p1 pb : Nat} (I : ∀ h ρ x, ρ[i]? = some (vI x) → K h (ρ.set i (vI (x + n))) p1 [] → K h ρ pc []) : xS K KX KR (sInc i n) pc p1 pb :=
  xS.of fun ρ h o h' e k1 k2 k3 k4 => by
    unfold sInc at e
    split at e
    · next x hx => cases e; exact I _ _ _ hx (k1 _ rfl)
    · cases e
def iASt (K : z_Hp → List z_V → Nat → List z_V → Prop) (t : Nat) (w : Int → z_V) (pc pc' : Nat) : Prop := ∀ h ρ st r j n f v, z_arr h r t = some (n, f) → 0 ≤ j → j < (n : Int) → K (h.set r (.inr (t, n, z_up f j.toNat v))) ρ pc' st → K h ρ pc (w v :: vI j :: vR r :: st)
theorem xS_ast {t : Nat} {w : Int → z_V} {a : z_Ev Nat} {i x : z_Ev Int} {pc p1 p2 p3 p4 pb : Nat} (A : xE K KX vR 0 a pc p1) (B : xE K KX vI 1 i p1 p2) (X : xE K KX w 2 x p2 p3) (I : iASt K t w p3 p4) : xS K KX KR (sASt t a i x) pc p4 pb :=
  xS.of fun ρ h o h' e k1 k2 k3 k4 => A.useS (Nat.le_refl 0) e k4 fun r h1 e2 => B.useS (Nat.le_refl 1) e2 k4 fun j h2 e3 => X.useS (Nat.le_refl 2) e3 k4 fun v h3 e4 => by
    split at e4
    · next n f hz =>
      split at e4
      · next hj => cases e4; exact I _ _ _ _ _ _ _ _ hz hj.1 hj.2 (k1 _ rfl)
      · cases e4
    · cases e4
theorem xS_aop {t n0 : Nat} {w : Int → z_V} (hw : ∀ v, z_cat (w v) ≤ n0) {a : z_Ev Nat} {i x : z_Ev Int} {op : Int → Int → Option Int} {pc p1 p2 p3 p4 p5 p6 p7 pb : Nat} (A : xE K KX vR 0 a pc p1) (B : xE K KX vI 1 i p1 p2)
    (D : ∀ h ρ r j, K h ρ p3 [vI j, vR r, vI j, vR r] → K h ρ p2 [vI j, vR r]) (L : ∀ h ρ st r j n f, z_arr h r t = some (n, f) → 0 ≤ j → j < (n : Int) → K h ρ p4 (w (f j.toNat) :: st) → K h ρ p3 (vI j :: vR r :: st))
    (X : xE K KX w (2 + n0) x p4 p5) (O : i2 K w w w op p5 p6) (I : iASt K t w p6 p7) : xS K KX KR (sAOp t op a i x) pc p7 pb :=
  xS.of fun ρ h o h' e k1 k2 k3 k4 => A.useS (Nat.le_refl 0) e k4 fun r h1 e2 => B.useS (Nat.le_refl 1) e2 k4 fun j h2 e3 => by
    split at e3
    · next n f hz =>
      split at e3
      · next hj =>
        refine D _ _ _ _ (L _ _ _ _ _ _ _ hz hj.1 hj.2 (X.useS ?_ e3 k4 fun v h3 e4 => ?_))
        · rw [z_wt_cons]; have := hw (f j.toNat); have : z_wt [vI j, vR r] = 2 := rfl; omega
        · split at e4
          · next z hoz =>
            split at e4
            · next n2 f2 hz2 =>
              split at e4
              · next hj2 => cases e4; exact O _ _ _ _ _ _ hoz (I _ _ _ _ _ _ _ _ hz2 hj.1 hj2 (k1 _ rfl))
              · cases e4
            · cases e4
          · cases e4
      · cases e3
    · cases e3
def iFSt (K : z_Hp → List z_V → Nat → List z_V → Prop) (ci k : Nat) (w : α → z_V) (pc pc' : Nat) : Prop := ∀ h ρ st r fs v, z_obj h r ci = some fs → k < fs.length → K (h.set r (.inl (ci, fs.set k (w v)))) ρ pc' st → K h ρ pc (w v :: vR r :: st)
theorem xS_fst {ci k : Nat} {w : α → z_V} {a : z_Ev Nat} {x : z_Ev α} {pc p1 p2 p3 pb : Nat} (A : xE K KX vR 0 a pc p1) (X : xE K KX w 1 x p1 p2) (I : iFSt K ci k w p2 p3) : xS K KX KR (sFSt w ci k a x) pc p3 pb :=
  xS.of fun ρ h o h' e k1 k2 k3 k4 => A.useS (Nat.le_refl 0) e k4 fun r h1 e2 => X.useS (Nat.le_refl 1) e2 k4 fun v h2 e3 => by
    split at e3
    · next fs hz =>
      split at e3
      · next hk => cases e3; exact I _ _ _ _ _ _ hz hk (k1 _ rfl)
      · cases e3
    · cases e3
theorem xS_fop {ci k : Nat} {a : z_Ev Nat} {x : z_Ev Int} {op : Int → Int → Option Int} {pc p1 p2 p3 p4 p5 p6 pb : Nat} (A : xE K KX vR 0 a pc p1) (D : ∀ h ρ r, K h ρ p2 [vR r, vR r] → K h ρ p1 [vR r]) (L : iF K ci k p2 p3) (X : xE K KX vI 2 x p3 p4) (O : i2 K vI vI vI op p4 p5) (I : iFSt K ci k vI p5 p6) : xS K KX KR (sFOp ci k op a x) pc p6 pb :=
  xS.of fun ρ h o h' e k1 k2 k3 k4 => A.useS (Nat.le_refl 0) e k4 fun r h1 e2 => by
    split at e2
    · next fs hz =>
      split at e2
      · next y hy =>
        refine D _ _ _ (L _ _ _ _ _ _ hz hy (fun q => by cases q) (X.useS (Nat.le_refl 2) e2 k4 fun v h2 e3 => ?_))
        split at e3
        · next z hoz =>
          split at e3
          · next fs2 hz2 =>
            split at e3
            · next hk => cases e3; exact O _ _ _ _ _ _ hoz (I _ _ _ _ _ _ hz2 hk (k1 _ rfl))
            · cases e3
          · cases e3
        · cases e3
      · cases e2
    · cases e2
theorem xS_cl {f : z_Mt} {xs : z_Ev (List z_V)} {n pc p1 p2 pb : Nat} (A : xA K KX 0 xs n pc p1) (I : iC K KX f n 0 p1 p2) : xS K KX KR (sCl f xs) pc p2 pb :=
  xS.of fun ρ h o h' e k1 k2 k3 k4 => by
    obtain ⟨a1, a2⟩ := A ρ h [] (Nat.le_refl 0)
    rcases z_bindS_cases e with ⟨E, e1, rfl⟩ | ⟨L, h1, e1, e2⟩
    · exact a2 _ _ e1 (k4 _ rfl)
    · obtain ⟨q1, q2, q3⟩ := a1 _ _ e1
      obtain ⟨b1, b2⟩ := I h1 ρ [] L q1 q2 (Nat.le_refl 0)
      refine q3 ?_
      rcases z_bindS_cases e2 with ⟨E, e3, rfl⟩ | ⟨v, h2, e3, e4⟩
      · exact b2 _ _ e3 (k4 _ rfl)
      · refine b1 _ _ e3 ?_
        cases v with
        | none => cases e4; exact k1 _ rfl
        | some _ => cases e4
/-- both branches come to pe; a goto may stand behind the first -/
theorem xS_if {b : z_Ev Bool} {s t : z_St} {pc pt ps pf pe pb : Nat} (B : xB K KX 0 b pc pt pf) (S : xS K KX KR s pt ps pb) (G : jG K ps pe) (T : xS K KX KR t pf pe pb) : xS K KX KR (sIf b s t) pc pe pb :=
  xS.of fun ρ h o h' e k1 k2 k3 k4 => B.useS (Nat.le_refl 0) e k4 (fun h1 e2 => by
    rw [if_pos rfl] at e2
    exact S.to e2 (fun ρ' q => G _ _ _ (k1 _ q)) k2 k3 k4) (fun h1 e2 => by
    rw [if_neg (by decide)] at e2
    exact T.to e2 k1 k2 k3 k4)
theorem xS_brk {pc pe pb : Nat} (G : jG K pc pb) : xS K KX KR sBrk pc pe pb := xS.of fun ρ h o h' e k1 k2 k3 k4 => by cases e; exact G _ _ _ (k2 _ rfl)
theorem xS_ret {w : α → z_V} {x : z_Ev α} {pc p1 pe pb : Nat} (X : xE K KX w 0 x pc p1) (I : ∀ h ρ v, KR (some (w v)) h → K h ρ p1 [w v]) : xS K KX KR (sRet w x) pc pe pb :=
  xS.of fun ρ h o h' e k1 k2 k3 k4 => X.useS (Nat.le_refl 0) e k4 fun v h1 e2 => by cases e2; exact I _ _ _ (k3 _ rfl)
theorem xS_retV {pc pe pb : Nat} (I : ∀ h ρ, KR none h → K h ρ pc []) : xS K KX KR sRetV pc pe pb := xS.of fun ρ h o h' e k1 k2 k3 k4 => by cases e; exact I _ _ (k3 _ rfl)
theorem xS_throw {E : String} {pc pe pb : Nat} (I : ∀ h ρ, KX E h → K h ρ pc []) : xS K KX KR (sThrow E) pc pe pb := xS.of fun ρ h o h' e k1 k2 k3 k4 => by cases e; exact I _ _ (k4 _ rfl)
/-- a loop: the test at pc, the body, the step, a goto back to the test; behind it pe -/
theorem xS_loop {b : z_Ev Bool} {s u : z_St} {pc pt ps pu pe pb : Nat} (B : xB K KX 0 b pc pt pe) (S : xS K KX KR s pt ps pe) (U : xS K KX KR u ps pu pb) (G : jG K pu pc) : ∀ N, xS K KX KR (sLoop b s u N) pc pe pb
  | 0 => xS.of fun ρ h o h' e k1 k2 k3 k4 => by cases e
  | N + 1 => xS.of fun ρ h o h' e k1 k2 k3 k4 => B.useS (Nat.le_refl 0) e k4 (fun h1 e2 => by
      rw [if_pos rfl] at e2
      split at e2
      · next ρ1 h2 e3 =>
        refine S.to e3 (fun _ q => ?_) (fun _ q => by cases q) (fun _ q => by cases q) (fun _ q => by cases q)
        cases q
        unfold z_then at e2
        split at e2
        · next ρ2 h3 e4 => exact U.to e4 (fun _ q => by cases q; exact G _ _ _ ((xS_loop B S U G N).to e2 k1 k2 k3 k4)) (fun _ q => by cases q) (fun _ q => by cases q) (fun _ q => by cases q)
        · next hn => exact U.to e2 (fun ρ' q => by subst q; exact absurd e2 (hn ρ' h')) k2 k3 k4
      · next ρ1 h2 e3 => cases e2; exact S.to e3 (fun _ q => by cases q) (fun _ q => by cases q; exact k1 _ rfl) (fun _ q => by cases q) (fun _ q => by cases q)
      · next hn1 hn2 => exact S.to e2 (fun ρ' q => by subst q; exact absurd e2 (hn1 ρ' h')) (fun ρ' q => by subst q; exact absurd e2 (hn2 ρ' h')) k3 k4) (fun h1 e2 => by
      rw [if_neg (by decide)] at e2
      cases e2
      exact k1 _ rfl)
/-- behind a statement a goto -/
theorem xS_to {s : z_St} {pc pe pe' pb : Nat} (S : xS K KX KR s pc pe pb) (G : jG K pe pe') : xS K KX KR s pc pe' pb := xS.of fun ρ h o h' e k1 k2 k3 k4 => S.to e (fun ρ' q => G _ _ _ (k1 _ q)) k2 k3 k4
theorem xE_bi {d : Nat} {b : z_Ev Bool} {pc pc' : Nat} (B : xE K KX vB d b pc pc') : xE K KX vI d (eBI b) pc pc' :=
  xE.of fun ρ h st hd r h' e kv kx => B.use hd e kx fun v h1 e2 => by cases e2; exact kv _ rfl
theorem xS_setJ {i : Nat} {x : z_Ev Int} {pc p1 p2 pb : Nat} (X : xE K KX vJ 0 x pc p1) (I : ∀ h ρ v, K h ((ρ.set i (vJ v)).set (i + 1) vU) p2 [] → K h ρ p1 [vJ v]) : xS K KX KR (sSetJ i x) pc p2 pb :=
  xS.of fun ρ h o h' e k1 k2 k3 k4 => X.useS (Nat.le_refl 0) e k4 fun v h1 e2 => by cases e2; exact I _ _ _ (k1 _ rfl)
/-- a switch over 0, 1, 2 ..: each case by its place and its start; each comes to pe -/
theorem xS_sw {x : z_Ev Int} {cs : List z_St} {t : z_St} {pc p1 pd pe pb : Nat} {ps : Nat → Nat} (X : xE K KX vI 0 x pc p1) (I : ∀ h ρ (v : Int), 0 ≤ v → v < cs.length → K h ρ (ps v.toNat) [] → K h ρ p1 [vI v]) (J : ∀ h ρ (v : Int), z_in v = true → ¬ (0 ≤ v ∧ v < cs.length) → K h ρ pd [] → K h ρ p1 [vI v])
    (S : ∀ i s, cs[i]? = some s → xS K KX KR s (ps i) pe pb) (T : xS K KX KR t pd pe pb) : xS K KX KR (sSw x cs t) pc pe pb :=
  xS.of fun ρ h o h' e k1 k2 k3 k4 => X.useS (Nat.le_refl 0) e k4 fun v h1 e2 => by
    split at e2
    · next hv =>
      split at e2
      · next s hs => exact I _ _ _ hv.1 hv.2 ((S _ _ hs).to e2 k1 k2 k3 k4)
      · cases e2
    · next hv =>
      split at e2
      · next hz => exact J _ _ _ hz hv (T.to e2 k1 k2 k3 k4)
      · cases e2
end ZL
