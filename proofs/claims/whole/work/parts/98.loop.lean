/-! THE LAW'S LOOP, ITS START -/
section LL
variable {p : Program} {l : Launch} {e : Env} {s : State} {m : MethodId} {below : List Frame} {meth : Method} {c : Code} {b L : Nat} {xs : Nat → Int32} {base : Nat} {D : va_G} {dT : Nat → ClassId} {tb : List ExceptionTableEntry} {k n : Nat}
theorem lw_next (C : lw_C p l s m meth c b L xs base tb) {h : z_Hp} {i : Nat} (kk : lwK p l e s m below meth c b base D dT k n h (lw5 b base (i + 5)) 23 []) : lwK p l e s m below meth c b base D dT k n h (lw5 b base i) 2180 [] := by
  intro H locs ls hR hL
  have e1 : Int32.ofNat i + Int32.ofInt 5 = Int32.ofNat (i + 5) := by
    rw [← Int32.ofInt_eq_ofNat, ← Int32.ofInt_eq_ofNat, ← Int32.ofInt_add]
    congr 1
  exact lv_iinc C.1.1 C.1.2.1 dL_law_2180 (k := 0) hL rfl e1 (by decide) rfl (fun ls' h4 => lw_goto C dL_law_2183 (by decide) kk H locs ls' hR h4)
theorem lw_end (C : lw_C p l s m meth c b L xs base tb) {h : z_Hp} {lv : List (Nat × Value)} (hk : k ≤ 647848 ∧ n ≤ 7152561) : lwK p l e s m below meth c b base D dT k n h lv 2186 [] := by
  refine lw_iconst C dL_law_2186 (fun H locs ls hR hL => ?_)
  refine va_forget (fun q hq => by rw [← C.2.2.2.2.2]; exact hR.2.2.2.2 q hq) ?_
  exact W.widen hk.1 hk.2 (lw_ret C.1.1 C.1.2.1 C.1.2.2.2.2.2.2.2.2.2.2 C.1.2.2.2.2.2.1 dL_law_2187)
theorem lw_op (C : lw_C p l s m meth c b L xs base tb) (hfl : l.stackTraces = false) {i : Nat} (hi : i + 4 < L) {S : Nat → Nat → Int} (I : kInv S) (hk : k + 1 ≤ 647848 ∧ n + 6 ≤ 7152561)
    (kk : ∀ S', kInv S' → lwK p l e s m below meth c b base D dT (k + 1) (n + 6) (k_W S') (lw5 b base i) 2180 []) (kk0 : lwK p l e s m below meth c b base D dT k n (k_W S) (lw5 b base i) 2180 []) : lwK p l e s m below meth c b base D dT k n (k_W S) (lw5 b base i) 32 [] := by
  have hL2 := C.2.2.2.2.1
  have h0 : (0, Value.ref b) ∈ lw5 b base i := by simp [lw5]
  have h4 : (4, Value.int (Int32.ofNat i)) ∈ lw5 b base i := by simp [lw5]
  refine lw_aload C dL_law_32 rfl h0 (lw_iload C dL_law_33 h4 (fun H locs ls hR hL => ?_))
  obtain ⟨g1, g2⟩ := z_clamp (j := ((i : Nat) : Int)) (n := L) (by omega) (by omega) (by omega)
  rw [show Int32.ofNat i = Int32.ofInt ((i : Nat) : Int) from (Int32.ofInt_eq_ofNat).symm]
  refine va_sld C.1.1 C.1.2.1 C.2.1 C.2.2.1.1 (fun q => absurd C.2.2.1.2 (Nat.not_lt.mpr q)) hR.2.2 g2 dL_law_35 ?_
  rw [g1, Int.toNat_natCast]
  refine lv_bipush C.1.1 C.1.2.1 dL_law_36 (v := 31) (by decide) (lv_iand C.1.1 C.1.2.1 dL_law_38 ?_)
  have hm : (xs i &&& 31).toInt = (xs i).toInt % 2 ^ 5 := Jvm.Kit.i32_mask (xs i) 31 (by decide) (by decide)
  have h1 : 0 ≤ (xs i &&& 31).toInt ∧ (xs i &&& 31).toInt < 32 := by rw [hm]; omega
  have cs : (xs i &&& 31).toInt = 0 ∨ (xs i &&& 31).toInt = 1 ∨ (xs i &&& 31).toInt = 2 ∨ (xs i &&& 31).toInt = 3 ∨ (xs i &&& 31).toInt = 4 ∨ (xs i &&& 31).toInt = 5 ∨ (xs i &&& 31).toInt = 6 ∨ (xs i &&& 31).toInt = 7 ∨ (xs i &&& 31).toInt = 8 ∨ (xs i &&& 31).toInt = 9 ∨ (xs i &&& 31).toInt = 10 ∨ (xs i &&& 31).toInt = 11 ∨ (xs i &&& 31).toInt = 12 ∨ (xs i &&& 31).toInt = 13 ∨ (xs i &&& 31).toInt = 14 ∨ (xs i &&& 31).toInt = 15 ∨ (xs i &&& 31).toInt = 16 ∨ (xs i &&& 31).toInt = 17 ∨ (xs i &&& 31).toInt = 18 ∨ (xs i &&& 31).toInt = 19 ∨ (xs i &&& 31).toInt = 20 ∨ (xs i &&& 31).toInt = 21 ∨ (xs i &&& 31).toInt = 22 ∨ (xs i &&& 31).toInt = 23 ∨ (xs i &&& 31).toInt = 24 ∨ (xs i &&& 31).toInt = 25 ∨ (xs i &&& 31).toInt = 26 ∨ (xs i &&& 31).toInt = 27 ∨ (xs i &&& 31).toInt = 28 ∨ 28 < (xs i &&& 31).toInt := by omega
  rcases cs with q | q | q | q | q | q | q | q | q | q | q | q | q | q | q | q | q | q | q | q | q | q | q | q | q | q | q | q | q | q
  · exact lv_tableIn C.1.1 C.1.2.1 dL_law_39 (by rw [q]; decide) (by rw [q]; decide) (off := 129) (tgt := 168) (by rw [q]; rfl) (by decide) (lc_coefficient C hfl hi I hk kk H locs ls hR hL)
  · exact lv_tableIn C.1.1 C.1.2.1 dL_law_39 (by rw [q]; decide) (by rw [q]; decide) (off := 209) (tgt := 248) (by rw [q]; rfl) (by decide) (lc_value C hfl hi I hk kk H locs ls hR hL)
  · exact lv_tableIn C.1.1 C.1.2.1 dL_law_39 (by rw [q]; decide) (by rw [q]; decide) (off := 277) (tgt := 316) (by rw [q]; rfl) (by decide) (lc_roots C hfl hi I hk kk H locs ls hR hL)
  · exact lv_tableIn C.1.1 C.1.2.1 dL_law_39 (by rw [q]; decide) (by rw [q]; decide) (off := 333) (tgt := 372) (by rw [q]; rfl) (by decide) (lc_root C hfl hi I hk kk H locs ls hR hL)
  · exact lv_tableIn C.1.1 C.1.2.1 dL_law_39 (by rw [q]; decide) (by rw [q]; decide) (off := 413) (tgt := 452) (by rw [q]; rfl) (by decide) (lc_isSpare C hfl hi I hk kk H locs ls hR hL)
  · exact lv_tableIn C.1.1 C.1.2.1 dL_law_39 (by rw [q]; decide) (by rw [q]; decide) (off := 488) (tgt := 527) (by rw [q]; rfl) (by decide) (lc_areSame C hfl hi I hk kk H locs ls hR hL)
  · exact lv_tableIn C.1.1 C.1.2.1 dL_law_39 (by rw [q]; decide) (by rw [q]; decide) (off := 563) (tgt := 602) (by rw [q]; rfl) (by decide) (lc_sum C hfl hi I hk kk H locs ls hR hL)
  · exact lv_tableIn C.1.1 C.1.2.1 dL_law_39 (by rw [q]; decide) (by rw [q]; decide) (off := 643) (tgt := 682) (by rw [q]; rfl) (by decide) (lc_product C hfl hi I hk kk H locs ls hR hL)
  · exact lv_tableIn C.1.1 C.1.2.1 dL_law_39 (by rw [q]; decide) (by rw [q]; decide) (off := 723) (tgt := 762) (by rw [q]; rfl) (by decide) (lc_matrix C hfl hi I hk kk H locs ls hR hL)
  · exact lv_tableIn C.1.1 C.1.2.1 dL_law_39 (by rw [q]; decide) (by rw [q]; decide) (off := 791) (tgt := 830) (by rw [q]; rfl) (by decide) (lc_entry C hfl hi I hk kk H locs ls hR hL)
  · exact lv_tableIn C.1.1 C.1.2.1 dL_law_39 (by rw [q]; decide) (by rw [q]; decide) (off := 883) (tgt := 922) (by rw [q]; rfl) (by decide) (lc_at C hfl hi I hk kk H locs ls hR hL)
  · exact lv_tableIn C.1.1 C.1.2.1 dL_law_39 (by rw [q]; decide) (by rw [q]; decide) (off := 963) (tgt := 1002) (by rw [q]; rfl) (by decide) (lc_part C hfl hi I hk kk H locs ls hR hL)
  · exact lv_tableIn C.1.1 C.1.2.1 dL_law_39 (by rw [q]; decide) (by rw [q]; decide) (off := 1043) (tgt := 1082) (by rw [q]; rfl) (by decide) (lc_partAt C hfl hi I hk kk H locs ls hR hL)
  · exact lv_tableIn C.1.1 C.1.2.1 dL_law_39 (by rw [q]; decide) (by rw [q]; decide) (off := 1111) (tgt := 1150) (by rw [q]; rfl) (by decide) (lc_multiply C hfl hi I hk kk H locs ls hR hL)
  · exact lv_tableIn C.1.1 C.1.2.1 dL_law_39 (by rw [q]; decide) (by rw [q]; decide) (off := 1191) (tgt := 1230) (by rw [q]; rfl) (by decide) (lc_star C hfl hi I hk kk H locs ls hR hL)
  · exact lv_tableIn C.1.1 C.1.2.1 dL_law_39 (by rw [q]; decide) (by rw [q]; decide) (off := 1259) (tgt := 1298) (by rw [q]; rfl) (by decide) (lc_mean C hfl hi I hk kk H locs ls hR hL)
  · exact lv_tableIn C.1.1 C.1.2.1 dL_law_39 (by rw [q]; decide) (by rw [q]; decide) (off := 1327) (tgt := 1366) (by rw [q]; rfl) (by decide) (lc_determinant C hfl hi I hk kk H locs ls hR hL)
  · exact lv_tableIn C.1.1 C.1.2.1 dL_law_39 (by rw [q]; decide) (by rw [q]; decide) (off := 1383) (tgt := 1422) (by rw [q]; rfl) (by decide) (lc_ways C hfl hi I hk kk H locs ls hR hL)
  · exact lv_tableIn C.1.1 C.1.2.1 dL_law_39 (by rw [q]; decide) (by rw [q]; decide) (off := 1439) (tgt := 1478) (by rw [q]; rfl) (by decide) (lc_solve C hfl hi I hk kk H locs ls hR hL)
  · exact lv_tableIn C.1.1 C.1.2.1 dL_law_39 (by rw [q]; decide) (by rw [q]; decide) (off := 1526) (tgt := 1565) (by rw [q]; rfl) (by decide) (lc_project C hfl hi I hk kk H locs ls hR hL)
  · exact lv_tableIn C.1.1 C.1.2.1 dL_law_39 (by rw [q]; decide) (by rw [q]; decide) (off := 1613) (tgt := 1652) (by rw [q]; rfl) (by decide) (lc_tree C hfl hi I hk kk H locs ls hR hL)
  · exact lv_tableIn C.1.1 C.1.2.1 dL_law_39 (by rw [q]; decide) (by rw [q]; decide) (off := 1669) (tgt := 1708) (by rw [q]; rfl) (by decide) (lc_edges C hfl hi I hk kk H locs ls hR hL)
  · exact lv_tableIn C.1.1 C.1.2.1 dL_law_39 (by rw [q]; decide) (by rw [q]; decide) (off := 1749) (tgt := 1788) (by rw [q]; rfl) (by decide) (lc_chips C hfl hi I hk kk H locs ls hR hL)
  · exact lv_tableIn C.1.1 C.1.2.1 dL_law_39 (by rw [q]; decide) (by rw [q]; decide) (off := 1817) (tgt := 1856) (by rw [q]; rfl) (by decide) (lc_chipsAt C hfl hi I hk kk H locs ls hR hL)
  · exact lv_tableIn C.1.1 C.1.2.1 dL_law_39 (by rw [q]; decide) (by rw [q]; decide) (off := 1873) (tgt := 1912) (by rw [q]; rfl) (by decide) (lc_fire C hfl hi I hk kk H locs ls hR hL)
  · exact lv_tableIn C.1.1 C.1.2.1 dL_law_39 (by rw [q]; decide) (by rw [q]; decide) (off := 1929) (tgt := 1968) (by rw [q]; rfl) (by decide) (lc_reduced C hfl hi I hk kk H locs ls hR hL)
  · exact lv_tableIn C.1.1 C.1.2.1 dL_law_39 (by rw [q]; decide) (by rw [q]; decide) (off := 1997) (tgt := 2036) (by rw [q]; rfl) (by decide) (lc_rank C hfl hi I hk kk H locs ls hR hL)
  · exact lv_tableIn C.1.1 C.1.2.1 dL_law_39 (by rw [q]; decide) (by rw [q]; decide) (off := 2041) (tgt := 2080) (by rw [q]; rfl) (by decide) (lc_restRank C hfl hi I hk kk H locs ls hR hL)
  · exact lv_tableIn C.1.1 C.1.2.1 dL_law_39 (by rw [q]; decide) (by rw [q]; decide) (off := 2085) (tgt := 2124) (by rw [q]; rfl) (by decide) (lc_graph C hfl hi I hk kk H locs ls hR hL)
  · exact lv_tableOut C.1.1 C.1.2.1 dL_law_39 (Or.inr q) (tgt := 2180) (by decide) (kk0 H locs ls hR hL)
theorem lw_loop (C : lw_C p l s m meth c b L xs base tb) (hfl : l.stackTraces = false) : ∀ (w i k n : Nat) (S : Nat → Nat → Int), kInv S → L ≤ i + 5 * w → i ≤ 4000 → k + w ≤ 10000 → n + 6 * w ≤ 1000000 → lwK p l e s m below meth c b base D dT k n (k_W S) (lw5 b base i) 23 [] := by
  intro w
  induction w with
  | zero =>
    intro i k n S I h1 h2 h3 h4
    have hL2 := C.2.2.2.2.1
    refine lw_iload C (x := Int32.ofNat i) dL_law_23 (by simp [lw5]) (lw_aload C (a := b) dL_law_25 rfl (by simp [lw5]) (fun H locs ls hR hL => ?_))
    refine va_slen C.1.1 C.1.2.1 C.2.1 C.2.2.1.1 (fun q => absurd C.2.2.1.2 (Nat.not_lt.mpr q)) hR.2.2 dL_law_26 (lv_iconst C.1.1 C.1.2.1 dL_law_27 rfl (lv_isub C.1.1 C.1.2.1 dL_law_28 ?_))
    refine lv_icmp_gt C.1.1 C.1.2.1 dL_law_29 (tgt := 2186) (by decide) (fun _ => lw_end C ⟨by omega, by omega⟩ H locs ls hR hL) (fun q => ?_)
    rw [← Int32.ofInt_eq_ofNat, ← Int32.ofInt_eq_ofNat, ← Int32.ofInt_sub, z_lt (by simp only [z_in, Bool.and_eq_true, decide_eq_true_eq]; omega)] at q
    omega
  | succ w ih =>
    intro i k n S I h1 h2 h3 h4
    have hL2 := C.2.2.2.2.1
    refine lw_iload C (x := Int32.ofNat i) dL_law_23 (by simp [lw5]) (lw_aload C (a := b) dL_law_25 rfl (by simp [lw5]) (fun H locs ls hR hL => ?_))
    refine va_slen C.1.1 C.1.2.1 C.2.1 C.2.2.1.1 (fun q => absurd C.2.2.1.2 (Nat.not_lt.mpr q)) hR.2.2 dL_law_26 (lv_iconst C.1.1 C.1.2.1 dL_law_27 rfl (lv_isub C.1.1 C.1.2.1 dL_law_28 ?_))
    refine lv_icmp_gt C.1.1 C.1.2.1 dL_law_29 (tgt := 2186) (by decide) (fun _ => lw_end C ⟨by omega, by omega⟩ H locs ls hR hL) (fun q => ?_)
    rw [← Int32.ofInt_eq_ofNat, ← Int32.ofInt_eq_ofNat, ← Int32.ofInt_sub, z_lt (by simp only [z_in, Bool.and_eq_true, decide_eq_true_eq]; omega)] at q
    exact lw_op C hfl (by omega) I ⟨by omega, by omega⟩ (fun S' I' => lw_next C (ih (i + 5) (k + 1) (n + 6) S' I' (by omega) (by omega) (by omega) (by omega))) (lw_next C (ih (i + 5) k n S I (by omega) (by omega) (by omega) (by omega))) H locs ls hR hL
end LL
