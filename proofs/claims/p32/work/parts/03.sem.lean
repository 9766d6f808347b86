/-! WHAT A METHOD DOES, as a function: values, cells, expressions, statements (plain definitions, nothing of the machine) -/
/-- a value: an int, a long, an object's number, nothing (null, or a place not set) -/
abbrev z_V : Type := Int ⊕ (Int ⊕ (Nat ⊕ Bool))
abbrev vI (n : Int) : z_V := .inl n
abbrev vJ (n : Int) : z_V := .inr (.inl n)
abbrev vR (r : Nat) : z_V := .inr (.inr (.inl r))
abbrev vU : z_V := .inr (.inr (.inr false))
/-- the script -/
abbrev vS : z_V := .inr (.inr (.inr true))
abbrev vB (b : Bool) : z_V := .inl (if b = true then 1 else 0)
/-- a cell: an object (its kind, its fields) or an array (its kind, its length, what it holds; references by number, below 0 none) -/
abbrev z_Cl : Type := (Nat × List z_V) ⊕ (Nat × Nat × (Nat → Int))
abbrev z_Hp : Type := List z_Cl
abbrev z_Rs (α : Type) : Type := Option ((α ⊕ String) × z_Hp)
abbrev z_Ev (α : Type) : Type := List z_V → z_Hp → z_Rs α
abbrev z_Mt : Type := List z_V → z_Hp → z_Rs (Option z_V)
/-- how a statement ends: goes on, leaves a loop, returns, throws -/
abbrev z_Oc : Type := List z_V ⊕ (List z_V ⊕ (Option z_V ⊕ String))
abbrev oN (ρ : List z_V) : z_Oc := .inl ρ
abbrev oB (ρ : List z_V) : z_Oc := .inr (.inl ρ)
abbrev oR (r : Option z_V) : z_Oc := .inr (.inr (.inl r))
abbrev oX (E : String) : z_Oc := .inr (.inr (.inr E))
abbrev z_St : Type := List z_V → z_Hp → Option (z_Oc × z_Hp)
def z_bind {α β : Type} (x : z_Rs α) (k : α → z_Hp → z_Rs β) : z_Rs β := match x with
  | none => none
  | some (.inl a, h) => k a h
  | some (.inr E, h) => some (.inr E, h)
def z_bindS {α : Type} (x : z_Rs α) (k : α → z_Hp → Option (z_Oc × z_Hp)) : Option (z_Oc × z_Hp) := match x with
  | none => none
  | some (.inl a, h) => k a h
  | some (.inr E, h) => some (oX E, h)
def z_in (x : Int) : Bool := decide (-2147483648 ≤ x) && decide (x < 2147483648)
def z_inJ (x : Int) : Bool := decide (-9223372036854775808 ≤ x) && decide (x < 9223372036854775808)
def z_up (f : Nat → Int) (k : Nat) (v : Int) : Nat → Int := fun j => if j = k then v else f j
def z_arr (h : z_Hp) (r t : Nat) : Option (Nat × (Nat → Int)) := match h[r]? with
  | some (.inr (t', n, f)) => if t' = t ∧ n < 2147483648 then some (n, f) else none
  | _ => none
def z_obj (h : z_Hp) (r ci : Nat) : Option (List z_V) := match h[r]? with
  | some (.inl (ci', fs)) => if ci' = ci then some fs else none
  | _ => none
-- expressions
def eC (n : Int) : z_Ev Int := fun _ h => some (.inl n, h)
def eL (i : Nat) : z_Ev Int := fun ρ h => match ρ[i]? with
  | some (.inl n) => some (.inl n, h)
  | _ => none
def eLJ (i : Nat) : z_Ev Int := fun ρ h => match ρ[i]? with
  | some (.inr (.inl n)) => some (.inl n, h)
  | _ => none
def eLR (i : Nat) : z_Ev Nat := fun ρ h => match ρ[i]? with
  | some (.inr (.inr (.inl r))) => some (.inl r, h)
  | _ => none
def z_bool (n : Int) : Option Bool := if n = 0 then some false else if n = 1 then some true else none
def eLB (i : Nat) : z_Ev Bool := fun ρ h => match ρ[i]? with
  | some (.inl n) => match z_bool n with
    | some b => some (.inl b, h)
    | none => none
  | _ => none
def e1 (f : Int → Option Int) (a : z_Ev Int) : z_Ev Int := fun ρ h => z_bind (a ρ h) fun x h => match f x with
  | some z => some (.inl z, h)
  | none => none
def e2 (f : Int → Int → Option Int) (a b : z_Ev Int) : z_Ev Int := fun ρ h => z_bind (a ρ h) fun x h => z_bind (b ρ h) fun y h => match f x y with
  | some z => some (.inl z, h)
  | none => none
def oAdd (x y : Int) : Option Int := some (x + y)
def oSub (x y : Int) : Option Int := some (x - y)
def oMul (x y : Int) : Option Int := some (x * y)
def oDiv (x y : Int) : Option Int := if z_in x && z_in y && decide (y ≠ 0) then some (x.tdiv y) else none
def oRem (x y : Int) : Option Int := if z_in x && z_in y && decide (y ≠ 0) then some (x.tmod y) else none
def i32 (x : Int) : Int32 := Int32.ofInt x
def oAnd (x y : Int) : Option Int := some (i32 x &&& i32 y).toInt
def oOr (x y : Int) : Option Int := some (i32 x ||| i32 y).toInt
def oXor (x y : Int) : Option Int := some (i32 x ^^^ i32 y).toInt
def oShl (x y : Int) : Option Int := some (i32 x <<< (i32 y &&& 31)).toInt
def oShr (x y : Int) : Option Int := some (i32 x >>> (i32 y &&& 31)).toInt
def oUshr (x y : Int) : Option Int := some ((i32 x).toUInt32 >>> ((i32 y).toUInt32 &&& Int32.toUInt32 31)).toInt32.toInt
def oNeg (x : Int) : Option Int := some (-x)
def oI2L (x : Int) : Option Int := if z_in x then some x else none
def oL2I (x : Int) : Option Int := some x
/-- a comparison, of ints; of longs -/
def bCmp (f : Int → Int → Bool) (a b : z_Ev Int) : z_Ev Bool := fun ρ h => z_bind (a ρ h) fun x h => z_bind (b ρ h) fun y h => if z_in x && z_in y then some (.inl (f x y), h) else none
def bCmpJ (f : Int → Int → Bool) (a b : z_Ev Int) : z_Ev Bool := fun ρ h => z_bind (a ρ h) fun x h => z_bind (b ρ h) fun y h => if z_inJ x && z_inJ y then some (.inl (f x y), h) else none
def cLt (x y : Int) : Bool := decide (x < y)
def cLe (x y : Int) : Bool := decide (x ≤ y)
def cGt (x y : Int) : Bool := decide (y < x)
def cGe (x y : Int) : Bool := decide (y ≤ x)
def cEq (x y : Int) : Bool := decide (x = y)
def cNe (x y : Int) : Bool := decide (x ≠ y)
def bAnd (a b : z_Ev Bool) : z_Ev Bool := fun ρ h => z_bind (a ρ h) fun t h => if t = true then b ρ h else some (.inl false, h)
def bOr (a b : z_Ev Bool) : z_Ev Bool := fun ρ h => z_bind (a ρ h) fun t h => if t = true then some (.inl true, h) else b ρ h
def bNot (a : z_Ev Bool) : z_Ev Bool := fun ρ h => z_bind (a ρ h) fun t h => some (.inl (!t), h)
def eIf {α : Type} (b : z_Ev Bool) (x y : z_Ev α) : z_Ev α := fun ρ h => z_bind (b ρ h) fun t h => if t = true then x ρ h else y ρ h
-- cells
def eLd (t : Nat) (a : z_Ev Nat) (i : z_Ev Int) : z_Ev Int := fun ρ h => z_bind (a ρ h) fun r h => z_bind (i ρ h) fun j h => match z_arr h r t with
  | some (n, f) => if 0 ≤ j ∧ j < n then some (.inl (f j.toNat), h) else none
  | none => none
def eLdR (t : Nat) (a : z_Ev Nat) (i : z_Ev Int) : z_Ev Nat := fun ρ h => z_bind (a ρ h) fun r h => z_bind (i ρ h) fun j h => match z_arr h r t with
  | some (n, f) => if 0 ≤ j ∧ j < n ∧ 0 ≤ f j.toNat then some (.inl (f j.toNat).toNat, h) else none
  | none => none
def eLen (t : Nat) (a : z_Ev Nat) : z_Ev Int := fun ρ h => z_bind (a ρ h) fun r h => match z_arr h r t with
  | some (n, _) => some (.inl (n : Int), h)
  | none => none
def eF (ci k : Nat) (o : z_Ev Nat) : z_Ev Int := fun ρ h => z_bind (o ρ h) fun r h => match z_obj h r ci with
  | some fs => match fs[k]? with
    | some (.inl n) => some (.inl n, h)
    | _ => none
  | none => none
def eFR (ci k : Nat) (o : z_Ev Nat) : z_Ev Nat := fun ρ h => z_bind (o ρ h) fun r h => match z_obj h r ci with
  | some fs => match fs[k]? with
    | some (.inr (.inr (.inl n))) => some (.inl n, h)
    | _ => none
  | none => none
-- calls
def aN : z_Ev (List z_V) := fun _ h => some (.inl [], h)
def aS {α : Type} (w : α → z_V) (xs : z_Ev (List z_V)) (x : z_Ev α) : z_Ev (List z_V) := fun ρ h => z_bind (xs ρ h) fun L h => z_bind (x ρ h) fun v h => some (.inl (L ++ [w v]), h)
def eCl (f : z_Mt) (xs : z_Ev (List z_V)) : z_Ev Int := fun ρ h => z_bind (xs ρ h) fun L h => z_bind (f L h) fun r h => match r with
  | some (.inl n) => some (.inl n, h)
  | _ => none
def eClB (f : z_Mt) (xs : z_Ev (List z_V)) : z_Ev Bool := fun ρ h => z_bind (xs ρ h) fun L h => z_bind (f L h) fun r h => match r with
  | some (.inl n) => match z_bool n with
    | some b => some (.inl b, h)
    | none => none
  | _ => none
def eClR (f : z_Mt) (xs : z_Ev (List z_V)) : z_Ev Nat := fun ρ h => z_bind (xs ρ h) fun L h => z_bind (f L h) fun r h => match r with
  | some (.inr (.inr (.inl n))) => some (.inl n, h)
  | _ => none
-- statements
def sNop : z_St := fun ρ h => some (oN ρ, h)
def z_then (x : Option (z_Oc × z_Hp)) (k : List z_V → z_Hp → Option (z_Oc × z_Hp)) : Option (z_Oc × z_Hp) := match x with
  | some (.inl ρ, h) => k ρ h
  | r => r
def sSeq (a b : z_St) : z_St := fun ρ h => z_then (a ρ h) b
def sSet {α : Type} (w : α → z_V) (i : Nat) (x : z_Ev α) : z_St := fun ρ h => z_bindS (x ρ h) fun v h => some (oN (ρ.set i (w v)), h)
def sInc (i : Nat) (n : Int) : z_St := fun ρ h => match ρ[i]? with
  | some (.inl x) => some (oN (ρ.set i (vI (x + n))), h)
  | _ => none
def sASt (t : Nat) (a : z_Ev Nat) (i : z_Ev Int) (x : z_Ev Int) : z_St := fun ρ h => z_bindS (a ρ h) fun r h => z_bindS (i ρ h) fun j h => z_bindS (x ρ h) fun v h => match z_arr h r t with
  | some (n, f) => if 0 ≤ j ∧ j < n then some (oN ρ, h.set r (.inr (t, n, z_up f j.toNat v))) else none
  | none => none
def sAOp (t : Nat) (o : Int → Int → Option Int) (a : z_Ev Nat) (i : z_Ev Int) (x : z_Ev Int) : z_St := fun ρ h => z_bindS (a ρ h) fun r h => z_bindS (i ρ h) fun j h => match z_arr h r t with
  | some (n0, f0) => if 0 ≤ j ∧ j < n0 then z_bindS (x ρ h) fun v h => match o (f0 j.toNat) v with
      | some z => match z_arr h r t with
        | some (n, f) => if j < n then some (oN ρ, h.set r (.inr (t, n, z_up f j.toNat z))) else none
        | none => none
      | none => none
    else none
  | none => none
def sFSt {α : Type} (w : α → z_V) (ci k : Nat) (o : z_Ev Nat) (x : z_Ev α) : z_St := fun ρ h => z_bindS (o ρ h) fun r h => z_bindS (x ρ h) fun v h => match z_obj h r ci with
  | some fs => if k < fs.length then some (oN ρ, h.set r (.inl (ci, fs.set k (w v)))) else none
  | none => none
def sFOp (ci k : Nat) (op : Int → Int → Option Int) (o : z_Ev Nat) (x : z_Ev Int) : z_St := fun ρ h => z_bindS (o ρ h) fun r h => match z_obj h r ci with
  | some fs => match fs[k]? with
    | some (.inl y) => z_bindS (x ρ h) fun v h => match op y v with
      | some z => match z_obj h r ci with
        | some fs => if k < fs.length then some (oN ρ, h.set r (.inl (ci, fs.set k (vI z)))) else none
        | none => none
      | none => none
    | _ => none
  | none => none
def sCl (f : z_Mt) (xs : z_Ev (List z_V)) : z_St := fun ρ h => z_bindS (xs ρ h) fun L h => z_bindS (f L h) fun r h => match r with
  | none => some (oN ρ, h)
  | some _ => none
def sIf (b : z_Ev Bool) (s t : z_St) : z_St := fun ρ h => z_bindS (b ρ h) fun v h => if v = true then s ρ h else t ρ h
def sBrk : z_St := fun ρ h => some (oB ρ, h)
def sRet {α : Type} (w : α → z_V) (x : z_Ev α) : z_St := fun ρ h => z_bindS (x ρ h) fun v h => some (oR (some (w v)), h)
def sRetV : z_St := fun _ h => some (oR none, h)
def sThrow (E : String) : z_St := fun _ h => some (oX E, h)
/-- a loop of at most N rounds: as long as b, s, then u -/
def sLoop (b : z_Ev Bool) (s u : z_St) : Nat → z_St
  | 0 => fun _ _ => none
  | N + 1 => fun ρ h => z_bindS (b ρ h) fun v h => if v = true then (match s ρ h with
      | some (.inl ρ, h) => z_then (u ρ h) (sLoop b s u N)
      | some (.inr (.inl ρ), h) => some (oN ρ, h)
      | r => r) else some (oN ρ, h)
/-- a switch over 0, 1, 2 .. -/
def sSw (x : z_Ev Int) (cs : List z_St) (d : z_St) : z_St := fun ρ h => z_bindS (x ρ h) fun v h => if 0 ≤ v ∧ v < cs.length then (match cs[v.toNat]? with
  | some s => s ρ h
  | none => none) else if z_in v then d ρ h else none
/-- a method: its arguments in the first places -/
def z_body (nL : Nat) (s : z_St) : z_Mt := fun L h => match s (L ++ List.replicate (nL - L.length) vU) h with
  | some (.inr (.inr (.inl r)), h') => some (.inl r, h')
  | some (.inr (.inr (.inr E)), h') => some (.inr E, h')
  | _ => none
def eCB (b : Bool) : z_Ev Bool := fun _ h => some (.inl b, h)
def eBI (b : z_Ev Bool) : z_Ev Int := fun ρ h => z_bind (b ρ h) fun v h => some (.inl (if v = true then 1 else 0), h)
def sSetJ (i : Nat) (x : z_Ev Int) : z_St := fun ρ h => z_bindS (x ρ h) fun v h => some (oN ((ρ.set i (vJ v)).set (i + 1) vU), h)
