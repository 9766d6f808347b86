/-! A METHOD THAT MAKES A ROW FIRST: its world gets one cell more, wherever the heap ends; behind it the cell is forgotten -/
def z_wfV (n : Nat) : z_V → Prop
  | .inr (.inr (.inl r)) => r < n
  | _ => True
def z_wfC (n : Nat) : z_Cl → Prop
  | .inl (_, fs) => ∀ v ∈ fs, z_wfV n v
  | .inr (t, m, f) => 2 ≤ t → ∀ j, j < m → f j < (n : Int)
/-- no reference beyond the first n cells -/
def z_wf (n : Nat) (h : z_Hp) : Prop := ∀ c ∈ h, z_wfC n c
noncomputable def z_ife {α : Type} (P : Prop) (a b : α) : α := @ite α P (Classical.propDecidable P) a b
theorem z_ife_t {α : Type} {P : Prop} (h : P) (a b : α) : z_ife P a b = a := by unfold z_ife; exact if_pos h
theorem z_ife_some {α : Type} {P : Prop} {a : Option α} {x : α} (e : z_ife P a none = some x) : P ∧ a = some x := by
  unfold z_ife at e
  split at e
  · next h => exact ⟨h, e⟩
  · cases e
noncomputable def z_bodyN (nL i N : Nat) (s : z_St) : z_Mt := fun L h => z_ife (z_wf h.length h ∧ ∀ v ∈ L, z_wfV h.length v) (match s ((L ++ List.replicate (nL - L.length) vU).set i (vR h.length)) (h ++ [.inr (0, N, fun _ => 0)]) with
  | some (.inr (.inr (.inl (some (.inl r)))), h') => z_ife (h.length ≤ h'.length ∧ z_wf h.length (h'.take h.length)) (some (.inl (some (vI r)), h'.take h.length)) none
  | _ => none) none
/-- the world moved: its first n0 cells where they were, the next ones from a on -/
def z_rb (base : z_B) (n0 a : Nat) (h1 : ∀ i, i < n0 → z_ad base i < a) (h2 : z_ge base a) : z_B :=
  ⟨(fun j => if j < n0 then z_ad base j else a + (j - n0), z_A base, z_sa base, z_sc base), by
    intro i j e
    have e : (if i < n0 then z_ad base i else a + (i - n0)) = (if j < n0 then z_ad base j else a + (j - n0)) := e
    split at e <;> split at e
    · exact z_ad_inj e
    · next p q => have := h1 i p; omega
    · next p q => have := h1 j q; omega
    · omega, by
    intro i
    show z_A base (if i < n0 then z_ad base i else a + (i - n0))
    split
    · exact z_ad_A base i
    · exact h2 _ (by omega), z_sa_A base⟩
theorem z_kV_cg {base base' : z_B} {n0 : Nat} (e : ∀ i, i < n0 → z_ad base i = z_ad base' i) (es : z_sa base = z_sa base') {v : z_V} (hv : z_wfV n0 v) : z_kV base v = z_kV base' v := by
  rcases v with x | x | r | u
  · rfl
  · rfl
  · show Value.ref (z_ad base r) = Value.ref (z_ad base' r)
    rw [e r hv]
  · cases u
    · rfl
    · show Value.ref (z_sa base) = Value.ref (z_sa base')
      rw [es]
theorem z_P_cg {base base' : z_B} {D : va_G} {dT : Nat → ClassId} {n0 : Nat} (e : ∀ i, i < n0 → z_ad base i = z_ad base' i) (es : z_sa base = z_sa base') {h : z_Hp} (hl : h.length ≤ n0) (hw : z_wf n0 h) {H : Heap} (hP : va_P D vwCl (z_kW base dT h) H) : va_P D vwCl (z_kW base' dT h) H := by
  intro k q hq
  have hx : ∃ x, h[k]? = some x ∧ q = (z_ad base' k, z_kC base' dT x) := by
    simp only [z_kW, List.getElem?_mapIdx] at hq
    cases hx : h[k]? with
    | none => rw [hx] at hq; cases hq
    | some x => rw [hx] at hq; cases hq; exact ⟨x, rfl, rfl⟩
  obtain ⟨x, hx, rfl⟩ := hx
  have hk : k < h.length := (List.getElem?_eq_some_iff.mp hx).1
  have h1 := hP k _ (z_kW_get (base := base) (dT := dT) hx)
  have hwx := hw x (List.mem_of_getElem? hx)
  rw [e k (by omega)] at h1
  rcases x with ⟨ci, fs⟩ | ⟨t, m, f⟩
  · have e2 : fs.map (z_kV base) = fs.map (z_kV base') := List.map_congr_left fun v hv => z_kV_cg e es (hwx v hv)
    show va_at D vwCl (z_ad base' k, .inr (ci, fs.map (z_kV base'))) H
    rw [← e2]
    exact h1
  · match t with
    | 0 => exact h1
    | 1 => exact h1
    | t + 2 =>
      have h2 : H[z_ad base' k]? = some (arrV (dT (t + 2)) m (fun j => va_rf (if f j < 0 then none else some (z_ad base (f j).toNat)))) := h1
      show H[z_ad base' k]? = some (arrV (dT (t + 2)) m (fun j => va_rf (if f j < 0 then none else some (z_ad base' (f j).toNat))))
      rw [h2]
      congr 1
      unfold arrV
      congr 1
      congr 1
      funext j
      have hj := hwx (Nat.le_add_left 2 t) j.val j.isLt
      by_cases hn : f j.val < 0
      · simp only [if_pos hn]
      · simp only [if_neg hn]
        rw [e (f j.val).toNat (by omega)]
theorem z_P_take {base : z_B} {D : va_G} {dT : Nat → ClassId} {h : z_Hp} {n : Nat} {H : Heap} (hP : va_P D vwCl (z_kW base dT h) H) : va_P D vwCl (z_kW base dT (h.take n)) H := by
  intro k q hq
  refine hP k q ?_
  simp only [z_kW, List.getElem?_mapIdx] at hq ⊢
  rw [List.getElem?_take] at hq
  split at hq
  · exact hq
  · cases hq
section ZN
variable {p : Program} {l : Launch} {e : Env} {s : State} {m : MethodId} {args : Array Value} {below : List Frame} {meth : Method} {c : Code} {base : z_B} {D : va_G} {dT : Nat → ClassId} {R : Room} {Q : State → Prop} {tb : List ExceptionTableEntry} {jL nL k n : Nat} {cc : ByteArray} {own : String} {Ts : List Cond} {rt : Option FieldType}
theorem z_W_mono {Q Q' : State → Prop} (hQ : ∀ t, Q t → Q' t) {H : Heap} {locs : List Loc} {g : JFrame} (kk : W p l e R s m args below meth c H locs k n Q g) : W p l e R s m args below meth c H locs k n Q' g := fun T hT X => by
  obtain ⟨t, a, b⟩ := kk T hT X
  exact ⟨t, a, hQ t b⟩
/-- a contract of a method whose first statement is 'int[] r = new int[N]' -/
theorem z_CL.ofN {sc : List Int} {l : Launch} (hfl : l.stackTraces = false) {y : MethodName} {ws ws' : List Cond} {nA F L nL jL c9 i N : Nat} {kk : Fin 4} {cc : ByteArray} {rt : Option FieldType} (hy : plainFor y = true) (hw : ws = Cond.code y cc nL rt :: ws') (hnA : nA ≤ nL) {st : z_St} (hi : i < nL) (hj : i ≠ jL + 1) (hN : N < 1000) (harr : Cond.arrayClass .int ∈ ws) (hki : (kk : Nat) = i) (d0 : decode cc 0 = .ok (.iconst (N : Int), 1)) (d1 : decode cc 1 = .ok (.newarray .int, 2)) (d3 : decode cc 3 = .ok (.astore_n kk, 1)) (hc : 1 ≤ c9) (hs6 : N ≤ 6) (pe pb : Nat) (cn : Nat → Nat) (h0 : cn 4 = 1)
    (body : ∀ {p : Program} {e : Env} {s : State} {m : MethodId} {args : Array Value} {below : List Frame} {meth : Method} {c : Code} {base : z_B} {D : va_G} {dT : Nat → ClassId} (r0 : Option z_V) (hf : z_Hp), z_Cx p l s m args meth c base cc nL y.cls ws rt [] → z_sc base = sc →
      xS (z_Kc p l e (z_R F L c9 (6 * c9) (.inl r0)) s m args below meth c base D dT jL nL (z_Qm below base D dT (.inl r0) hf args s c9 (6 * c9)) cn) z_kF (z_KR (.inl r0) hf) st 4 pe pb) : z_CL sc l y ws nA F L c9 (z_bodyN nL i N st) := by
  intro base D dT As h r0 hf hsc hn hwt he
  refine z_ofWF hy hw ?_
  intro p e s m args below meth c s₁ B hml htab hv
  obtain ⟨rfl, hU⟩ := hv
  have hats := atoms_spec (ws := ws) B.pre
  have C : z_Cx p l s m _ meth c base cc nL y.cls ws rt [] := ⟨B.exec, B.bytes, hml, findClass_of_methodNamed B.named, hats, B.notSynchronized, hfl, hU.2.2.1, hU.2.2.2.2, List.eq_nil_iff_forall_not_mem.mpr (fun x hx => htab x hx), B.returns⟩
  obtain ⟨ls, eF, hlv⟩ := z_entry (base := base) (jL := jL) (m := m) hn hwt hnA
  rw [eF]
  unfold z_bodyN at he
  obtain ⟨⟨w1, w2⟩, he⟩ := z_ife_some he
  have hlo : ∀ i, i < h.length → z_ad base i < s.heap.size := fun i hi => by
    have hx : h[i]? = some h[i] := List.getElem?_eq_getElem hi
    exact (hU.1 _ _ (z_kW_get (base := base) (dT := dT) hx)).lt
  have hge := hU.2.2.1
  have eA : ∀ i, i < h.length → z_ad base i = z_ad (z_rb base h.length s.heap.size hlo hge) i := fun i hi => by
    show _ = if i < h.length then z_ad base i else s.heap.size + (i - h.length)
    rw [if_pos hi]
  have C' : z_Cx p l s m (As.map (z_kV base)).toArray meth c (z_rb base h.length s.heap.size hlo hge) cc nL y.cls ws rt [] := C
  split at he
  · next r h' hs9 =>
    obtain ⟨⟨w3, w4⟩, he⟩ := z_ife_some he
    cases he
    have X := body (p := p) (e := e) (s := s) (m := m) (below := below) (meth := meth) (c := c) (base := z_rb base h.length s.heap.size hlo hge) (D := D) (dT := dT) (some (vI r)) h' C' hsc
    have Y := (X.to hs9 (fun _ q => by cases q) (fun _ q => by cases q) (fun _ q => by cases q; exact ⟨rfl, rfl⟩) (fun _ q => by cases q))
    unfold z_Kc at Y
    rw [h0] at Y
    refine lv_iconst C.1 C.2.1 d0 rfl ?_
    obtain ⟨g1, g2⟩ := z_clamp0 (x := (N : Int)) (n := N) (by omega) (by omega) (by omega)
    refine va_newaK C.1 C.2.1 (atype := .int) (C.2.2.2.2.1 _ harr) rfl d1 rfl g2 (g1.trans (Int.toNat_natCast N)) (Nat.le_trans (Nat.mul_le_mul_right _ (Nat.le_of_lt hN)) (Nat.le_of_ble_eq_true rfl)) (show 0 + 1 ≤ c9 by omega) (show 0 + N ≤ 6 * c9 by omega) rfl (fun H1 cA e1 z1 o1 hAr hNm => ?_)
    have hcA : cA = dT 0 := Option.some.inj (hNm.symm.trans ((hU.2.1.2 0 _ rfl).2))
    subst hcA
    obtain ⟨lv, l1, l2, l3⟩ := hlv
    refine lv_astore_n (x := s.heap.size) C.1 C.2.1 d3 hki l1 hi rfl (fun ls' l4 => ?_)
    have l3' : ∀ (j : Nat) (u : z_V), (As ++ List.replicate (nL - As.length) vU)[j]? = some u → u ≠ vU → (j, z_kV (z_rb base h.length s.heap.size hlo hge) u) ∈ lv := fun j u hu hne => by
      have h1 := l3 j u hu hne
      have hm := List.mem_of_getElem? hu
      rcases List.mem_append.mp hm with hm | hm
      · rw [z_kV_cg eA rfl (w2 u hm)] at h1
        exact h1
      · exact absurd (List.eq_of_mem_replicate hm) hne
    have hlv' := z_lv_set (base := z_rb base h.length s.heap.size hlo hge) (jL := jL) (v := vR h.length) l4 l2 l3' hj (by intro q; cases q) (by
      show Value.ref (if h.length < h.length then _ else s.heap.size + (h.length - h.length)) = Value.ref s.heap.size
      rw [if_neg (by omega), Nat.sub_self, Nat.add_zero])
    have hP' : va_P D vwCl (z_kW (z_rb base h.length s.heap.size hlo hge) dT (h ++ [.inr (0, N, fun _ => 0)])) H1 := by
      have e9 : z_kW (z_rb base h.length s.heap.size hlo hge) dT (h ++ [.inr (0, N, fun _ => 0)]) = z_kW (z_rb base h.length s.heap.size hlo hge) dT h ++ [(s.heap.size, z_kC (z_rb base h.length s.heap.size hlo hge) dT (.inr (0, N, fun _ => 0)))] := by
        simp only [z_kW, List.mapIdx_concat]
        congr 2
        show ((if h.length < h.length then _ else s.heap.size + (h.length - h.length)), _) = _
        rw [if_neg (by omega), Nat.sub_self, Nat.add_zero]
      rw [e9]
      have hP0 := z_P_cg eA rfl (Nat.le_refl _) w1 hU.1
      refine va_P.app (va_P.kept hP0 (fun i q hq => o1 q.1 ((hP0 i q hq).lt))) (fun i q hq => ?_)
      have hz : i < 1 := (List.getElem?_eq_some_iff.mp hq).1
      rw [show i = 0 by omega] at hq
      cases hq
      exact e1
    refine z_W_mono (Q := z_Qm below (z_rb base h.length s.heap.size hlo hge) D dT (.inl (some (vI r))) h' (As.map (z_kV base)).toArray s c9 (6 * c9)) (fun t ht => ?_) (W.widen (show 0 + 1 ≤ 1 by omega) (show 0 + N ≤ 6 * 1 by omega) (Y H1 [] ls' ⟨hP', hU.2.1, ⟨by omega, fun q h1 h2 => o1 q h1, fun q hq => by cases hq⟩⟩ hlv'))
    obtain ⟨o, t1, t2, t3⟩ := ht
    refine ⟨o, t1, t2, ?_⟩
    rcases t3 with ⟨⟨⟨r', e4, e5⟩, hP9, hF9⟩, hFr⟩ | ⟨q, rfl, E, ce, Ls, ⟨e4, -, -⟩, -⟩
    · refine Or.inl ⟨⟨⟨r', e4, ?_⟩, ?_, hF9⟩, hFr⟩
      · cases e4
        exact e5
      · exact z_P_cg (n0 := h.length) (fun i hi => (eA i hi).symm) rfl (by rw [List.length_take]; omega) w4 (z_P_take hP9)
    · cases e4
  · cases he
end ZN
/-- what runs has run its test; a comparison's left side is an int there -/
theorem sLoop_in {b : z_Ev Bool} {s u : z_St} {M : Nat} {ρ : List z_V} {h : z_Hp} {x : z_Oc × z_Hp} (e : sLoop b s u M ρ h = some x) : ∃ v h1, b ρ h = some (v, h1) := by
  cases M with
  | zero => cases e
  | succ M =>
    unfold sLoop at e
    obtain ⟨o, h'⟩ := x
    rcases z_bindS_cases e with ⟨E, e1, -⟩ | ⟨v, h1, e1, -⟩
    · exact ⟨_, _, e1⟩
    · exact ⟨_, _, e1⟩
theorem eL_in {i : Nat} {ρ : List z_V} {h : z_Hp} {o : Int ⊕ String} {h' : z_Hp} (e : eL i ρ h = some (o, h')) : ∃ x, ρ[i]? = some (vI x) ∧ o = .inl x := by
  unfold eL at e
  split at e
  · next n hn => cases e; exact ⟨n, hn, rfl⟩
  · cases e
theorem bCmp_in {f : Int → Int → Bool} {i : Nat} {b : z_Ev Int} {ρ : List z_V} {h : z_Hp} {v : Bool ⊕ String} {h' : z_Hp} (e : bCmp f (eL i) b ρ h = some (v, h')) : ∃ x, ρ[i]? = some (vI x) := by
  unfold bCmp at e
  rcases z_bind_cases e with ⟨E, e1, -⟩ | ⟨x, h1, e1, -⟩
  · obtain ⟨x, hx, q⟩ := eL_in e1
    cases q
  · obtain ⟨y, hy, -⟩ := eL_in e1
    exact ⟨y, hy⟩
theorem bCmp_lt {i : Nat} {N : Int} {ρ : List z_V} {h h' : z_Hp} (e : bCmp cLt (eL i) (eC N) ρ h = some (.inl true, h')) : ∃ x : Int, ρ[i]? = some (vI x) ∧ x < N := by
  unfold bCmp at e
  rcases z_bind_cases e with ⟨E, e1, q⟩ | ⟨x, h1, e1, e2⟩
  · cases q
  · obtain ⟨y, hy, q⟩ := eL_in e1
    cases q
    unfold eC z_bind at e2
    simp only at e2
    split at e2
    · simp only [Option.some.injEq, Prod.mk.injEq, Sum.inl.injEq] at e2
      have := e2.1
      unfold cLt at this
      exact ⟨_, hy, of_decide_eq_true this⟩
    · cases e2
/-- a statement that leaves the place i -/
def zKp (i : Nat) (s : z_St) : Prop := ∀ ρ h ρ' h', s ρ h = some (oN ρ', h') → ρ'[i]? = ρ[i]?
theorem zKp.set {α : Type} {w : α → z_V} {i j : Nat} {x : z_Ev α} (h : j ≠ i) : zKp i (sSet w j x) := fun ρ h0 ρ' h' e => by
  rcases z_bindS_cases e with ⟨E, -, q⟩ | ⟨a, h1, -, e2⟩
  · cases q
  · cases e2
    rw [List.getElem?_set_ne h]
theorem zKp.ast {i t : Nat} {a : z_Ev Nat} {x y : z_Ev Int} : zKp i (sASt t a x y) := fun ρ h0 ρ' h' e => by
  rcases z_bindS_cases e with ⟨E, -, q⟩ | ⟨a, h1, -, e2⟩
  · cases q
  rcases z_bindS_cases e2 with ⟨E, -, q⟩ | ⟨a, h1, -, e3⟩
  · cases q
  rcases z_bindS_cases e3 with ⟨E, -, q⟩ | ⟨a, h1, -, e4⟩
  · cases q
  split at e4
  · split at e4
    · cases e4; rfl
    · cases e4
  · cases e4
theorem zKp.seq {i : Nat} {a b : z_St} (ha : zKp i a) (hb : zKp i b) : zKp i (sSeq a b) := fun ρ h0 ρ' h' e => by
  unfold sSeq z_then at e
  split at e
  · next ρ1 h1 e1 => rw [hb _ _ _ _ e, ha _ _ _ _ e1]
  · next hn => exact absurd e (hn _ _)
