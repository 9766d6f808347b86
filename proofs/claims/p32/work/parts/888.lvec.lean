/-! THE LAW: vectors -/
section LV
variable {X : z_Hp}
theorem mSh_cg {M N : Nat → Nat → Int} {V W : Nat → Int} {r : Nat} : ∀ k, (∀ i, i < k + 1 → M r i = N r i ∧ V i = W i) → mSh M V r k = mSh N W r k
  | 0, h => by
    simp only [mSh]
    rw [(h 0 (by omega)).1, (h 0 (by omega)).2]
  | k + 1, h => by
    rw [mSh, mSh, mSh_cg k (fun i hi => h i (by omega)), (h (k + 1) (by omega)).1, (h (k + 1) (by omega)).2]
theorem mPr_cg {M N : Nat → Nat → Int} {V W : Nat → Int} {n i : Nat} (hn : 1 ≤ n) (hi : i < n) (h : ∀ x y, x < n → y < n → M x y = N x y) (hv : ∀ y, y < n → V y = W y) : ∀ x, x ≤ n → mPr M V n i x = mPr N W n i x
  | 0, _ => rfl
  | x + 1, hx => by
    rw [mPr, mPr, mPr_cg hn hi h hv x (by omega), mSh_cg (n - 1) (fun y hy => ⟨h x y (by omega) (by omega), hv y (by omega)⟩), h x i (by omega) hi]
theorem mGr_cg {M N : Nat → Nat → Int} {V W : Nat → Int} {j : Nat} : ∀ n, (∀ i, i < n → M i j = N i j ∧ V i = W i) → mGr M V j n = mGr N W j n
  | 0, _ => rfl
  | n + 1, h => by
    rw [mGr, mGr, mGr_cg n (fun i hi => h i (by omega)), (h n (by omega)).1, (h n (by omega)).2]
theorem z_mn_cg {f g : Nat → Int} {n : Nat} (h : ∀ k, k < n → f k = g k) : z_mn f n = z_mn g n := z_mn_eq h
/-- what stands before the solution -/
def lvU (U : Nat → Nat → Int) (n : Nat) : Prop := cInv U ∧ U 51 0 = (n : Int) ∧ U 60 0 = (n : Int) ∧ (∀ x y, x < n → y < n → cM U 0 x y = INF ∨ (-100 ≤ cM U 0 x y ∧ cM U 0 x y ≤ 100)) ∧ (∀ x y, x < n → y < n → -100 ≤ cM U 1 x y ∧ cM U 1 x y ≤ 100) ∧ (∀ k, k < 5 → -999 ≤ U 4 k ∧ U 4 k ≤ 999) ∧ ∀ k, k < 5 → U 5 k = 7
theorem f_lvB (sc : List Int) {U : Nat → Nat → Int} {n a : Nat} (nb : 1 ≤ n ∧ n ≤ 5) (H : lvU U n) : ∃ W, cInv W ∧ (qS (s_L_vectors_135 sc) [vR 0, vS, vI (a : Int), vI (n : Int), vB true, vI 5, vU, vU, vU, vU] (k_W X U) (fun oc h1 => oc = oR (some (vB true)) ∧ h1 = k_W X W) ↔ True) := by
  have b6 : INF = 1000000 := rfl
  obtain ⟨I, e0, e1, hA, hB, hV, h7⟩ := H
  obtain ⟨A, hAd⟩ : ∃ A, A = cut (cM U 0) n := ⟨_, rfl⟩
  have Ae : ∀ x y, x < n → y < n → cM U 0 x y = A x y := fun x y hx hy => by
    rw [hAd]
    exact (if_pos ⟨hx, hy⟩).symm
  have Ab : ∀ x y, A x y = INF ∨ (-100 ≤ A x y ∧ A x y ≤ 100) := fun x y => by
    rw [hAd]
    unfold cut
    split
    · next c => exact hA x y c.1 c.2
    · exact Or.inl rfl
  obtain ⟨V, hVd⟩ : ∃ V : Nat → Int, V = fun k => if k < 5 then U 4 k else 0 := ⟨_, rfl⟩
  have Ve : ∀ k, k < 5 → U 4 k = V k := fun k hk => by
    rw [hVd]
    exact (if_pos hk).symm
  have Vb : ∀ k, -1000 ≤ V k ∧ V k ≤ 1000 := fun k => by
    rw [hVd]
    simp only
    split
    · next c => have := hV k c; omega
    · omega
  have Vb2 : ∀ k, k < n → -999 ≤ V k ∧ V k ≤ 999 := fun k hk => by
    have := hV k (by omega)
    rw [Ve k (by omega)] at this
    exact this
  have gb := fun k => mGr_lb (M := A) (V := V) (j := k) (fun i => Ab i k) Vb n
  have gc : ∀ k, k < n → mGr (cM U 0) (U (4 + 0)) k n = mGr A V k n := fun k hk => mGr_cg n (fun i hi => ⟨Ae i k hi hk, Ve i (by omega)⟩)
  have QV : ∀ k, k < n → U (4 + 0) k ≠ INF := fun k hk => by
    have := hV k (by omega)
    show U 4 k ≠ INF
    omega
  -- the solution
  obtain ⟨W1, F, s1, Fe, w1, r1, I1⟩ := f_solve (X := X) I (i := 0) (j := 0) (l := 1) (by decide) (by decide) (by decide) e0 QV (fun k hk => by
    rw [gc k hk]
    have := (gb k).1
    omega)
  have Fe' : ∀ k, k < n → F k = mGr A V k n := fun k hk => by rw [Fe k hk, gc k hk]
  have Fb : ∀ k, k < n → F k = INF ∨ (-1100 ≤ F k ∧ F k ≤ 1100) := fun k hk => by rw [Fe' k hk]; exact (gb k).1
  have le : ∀ i, i < n → mLd (cM U 0) F n i = mLd A F n i := fun i hi => z_mn_eq (fun k hk => by rw [Ae i k hi hk])
  have tq : (∀ x, x < n → mLd (cM U 0) F n x = U (4 + 0) x) ↔ (∀ x, x < n → mLd A F n x = V x) := ⟨fun q x hx => by rw [← le x hx, ← Ve x (by omega)]; exact q x hx, fun q x hx => by rw [le x hx]; exact (q x hx).trans (Ve x (by omega)).symm⟩
  rw [z_dec_c _ _ tq] at s1
  have ge := fun i (hi : i < n) => mLd_ge (n := n) Ab Vb Fe' hi
  have W10 : cM W1 0 = cM U 0 ∧ W1 51 = U 51 := r1.m (i := 0) (by decide) (fun a _ _ => by omega)
  have W11 : cM W1 1 = cM U 1 ∧ W1 60 = U 60 := r1.m (i := 1) (by decide) (fun a _ _ => by omega)
  have W14 : W1 4 = U 4 := r1 4 (by unfold cFree; omega) (by omega)
  have w15 : ∀ k, W1 5 k = if k < n then F k else U 5 k := w1
  -- the projections
  obtain ⟨B, hBd⟩ : ∃ B, B = cM U 1 := ⟨_, rfl⟩
  have Bn : ∀ k, k < n → (-1300 ≤ mPr B V n k n ∧ mPr B V n k n ≤ 1500) := fun k hk => mPr_b3 (by rw [hBd]; exact hB) (fun i hi => by have := Vb2 i hi; omega) hk
  have numB : ∀ (T : Nat → Nat → Int), cM T 1 = B → mNum (cM T 1) n := fun T e x y hx hy => by
    rw [e, hBd]
    have := hB x y hx hy
    omega
  have prc : ∀ (T : Nat → Nat → Int) (v : Nat → Int) (k : Nat), cM T 1 = B → (∀ i, i < n → v i = V i) → k < n → mPr (cM T 1) v n k n = mPr B V n k n := fun T v k e hv hk => by
    rw [e]
    exact mPr_cg nb.1 hk (fun x y hx hy => rfl) hv n (Nat.le_refl n)
  have V1 : ∀ i, i < n → W1 (4 + 0) i = V i := fun i hi => by
    show W1 4 i = V i
    rw [W14]
    exact Ve i (by omega)
  have B1 : cM W1 1 = B := by rw [W11.1, hBd]
  obtain ⟨W2, s2, w2, r2, I2⟩ := f_project (X := X) I1 (i := 1) (j := 0) (l := 2) (by decide) (by decide) (by decide) (n := n) (by show W1 60 0 = _; rw [W11.2]; exact e1) (numB W1 B1) (fun k hk => by rw [V1 k hk]; have := Vb2 k hk; omega) (fun k hk => by
    rw [prc W1 _ k B1 V1 hk]
    have := Bn k hk
    omega)
  have pq : ∀ (T : Nat → Nat → Int) (v : Nat → Int), cM T 1 = B → (∀ i, i < n → v i = V i) → ((∀ x, x < n → mPr (cM T 1) v n x n = v x) ↔ (∀ x, x < n → mPr B V n x n = V x)) := fun T v e hv => ⟨fun q x hx => by rw [← prc T v x e hv hx, ← hv x hx]; exact q x hx, fun q x hx => by rw [prc T v x e hv hx, hv x hx]; exact q x hx⟩
  rw [z_dec_c _ _ (pq W1 _ B1 V1)] at s2
  have W21 : cM W2 1 = cM W1 1 ∧ W2 60 = W1 60 := r2.m (i := 1) (by decide) (fun a _ _ => by omega)
  have B2 : cM W2 1 = B := by rw [W21.1, B1]
  have W24 : W2 4 = W1 4 := r2 4 (by unfold cFree; omega) (by omega)
  have V2 : ∀ i, i < n → W2 (4 + 0) i = V i := fun i hi => by
    show W2 4 i = V i
    rw [W24]
    exact V1 i hi
  obtain ⟨W3, s3, w3, r3, I3⟩ := f_project (X := X) I2 (i := 1) (j := 0) (l := 3) (by decide) (by decide) (by decide) (n := n) (by show W2 60 0 = _; rw [W21.2, W11.2]; exact e1) (numB W2 B2) (fun k hk => by rw [V2 k hk]; have := Vb2 k hk; omega) (fun k hk => by
    rw [prc W2 _ k B2 V2 hk]
    have := Bn k hk
    omega)
  rw [z_dec_c _ _ (pq W2 _ B2 V2)] at s3
  have W31 : cM W3 1 = cM W2 1 ∧ W3 60 = W2 60 := r3.m (i := 1) (by decide) (fun a _ _ => by omega)
  have B3 : cM W3 1 = B := by rw [W31.1, B2]
  have W36 : W3 6 = W2 6 := r3 6 (by unfold cFree; omega) (by omega)
  have P2 : ∀ k, k < n → W2 6 k = mPr B V n k n := fun k hk => by
    have := w2 k
    rw [if_pos hk, prc W1 _ k B1 V1 hk] at this
    exact this
  have P3 : ∀ i, i < n → W3 (4 + 2) i = mPr B V n i n := fun i hi => by
    show W3 6 i = _
    rw [W36]
    exact P2 i hi
  have idm : ∀ k, k < n → mPr (cM W3 1) (W3 (4 + 2)) n k n = mPr B V n k n := fun k hk => by
    rw [B3, mPr_id (V := V) P3 hk]
    exact P3 k hk
  obtain ⟨W4, s4, w4, r4, I4⟩ := f_project (X := X) I3 (i := 1) (j := 2) (l := 3) (by decide) (by decide) (by decide) (n := n) (by show W3 60 0 = _; rw [W31.2, W21.2, W11.2]; exact e1) (numB W3 B3) (fun k hk => by rw [P3 k hk]; have := Bn k hk; omega) (fun k hk => by
    rw [idm k hk]
    have := Bn k hk
    omega)
  rw [(z_dec_iff _).mpr (fun x hx => by rw [idm x hx, P3 x hx])] at s4
  have W46 : W4 6 = W3 6 := r4 6 (by unfold cFree; omega) (by omega)
  have p4 : W4 7 (n - 1) = mPr B V n (n - 1) n := by
    have := w4 (n - 1)
    rw [if_pos (by omega), idm (n - 1) (by omega)] at this
    exact this
  have p4' : W4 6 (n - 1) = mPr B V n (n - 1) n := by
    rw [W46]
    exact P3 (n - 1) (by omega)
  have pge := fun k (hk : k < n) => mPr_ge (M := B) (V := V) hk
  refine ⟨W4, I4, iff_true_intro ?_⟩
  sorry
end LV
