/-! THE CASES, one by one -/
theorem gLT {ws : List Cond} (g : GoodIn wsL_law ws) : GoodIn lw_tbl ws := fun w h => ⟨wsL_law_in w (g w h).1, (g w h).2⟩
theorem kR_t (x : Int32) : kR x.toInt := by
  have h1 := Int32.le_toInt x
  have h2 := Int32.toInt_lt x
  unfold kR
  omega
section LC
variable {p : Program} {l : Launch} {e : Env} {s : State} {m : MethodId} {below : List Frame} {meth : Method} {c : Code} {b L : Nat} {xs : Nat → Int32} {base : Nat} {D : va_G} {dT : Nat → ClassId} {tb : List ExceptionTableEntry} {k n : Nat}
set_option maxRecDepth 20000 in
set_option maxHeartbeats 4000000 in
theorem lc_coefficient (C : lw_C p l s m meth c b L xs base tb) (hfl : l.stackTraces = false) {i : Nat} (hi : i + 4 < L) {S : Nat → Nat → Int} (I : kInv S) (hk : k + 1 ≤ 647848 ∧ n + 6 ≤ 7152561)
    (kk : ∀ S', kInv S' → lwK p l e s m below meth c b base D dT (k + 1) (n + 6) (k_W S') (lw5 b base i) 2180 []) : lwK p l e s m below meth c b base D dT k n (k_W S) (lw5 b base i) 168 [] := by
  have h : kOp m_X5_coefficient m_X6_coefficient kIO kIA [vI (xs (i + (0 + 1))).toInt, vI (xs (i + (1 + 1))).toInt, vI (xs (i + (2 + 1))).toInt] S := op_coefficient I (kR_t _) (kR_t _) (kR_t _)
  have hw := kOp.w (E3 := "java/lang/IllegalArgumentException") h w_X5_coefficient w_X6_coefficient (fun _ => ⟨by decide, rfl⟩) (nL := 6) (o := 4) (A := (aS vI (aS vI (aS vI (aS vR aN (eLR 0)) (eL 1)) (eL 2)) (eL 3))) (f := oI2W) (g0 := (fun r => (Int32.ofInt r).toInt)) (fun _ => rfl) (L := vR 0 :: ([vI (xs (i + (0 + 1))).toInt, vI (xs (i + (1 + 1))).toInt, vI (xs (i + (2 + 1))).toInt] ++ [vR 103])) rfl (fun _ => rfl)
  exact lw_case C hfl (gLT gL_law_X6_thrown) (a := 3) (p0 := 168) (ix1 := 113) (ix2 := 118) (off := 1935) false (g0 := (fun r => (Int32.ofInt r).toInt)) (by funext r; simp) (t_L_coefficient l hfl) (gLT gL_law_L_coefficient) rfl (by decide +kernel) ⟨by decide, by decide⟩ (t_X6_coefficient l hfl) (gLT gL_law_X6_coefficient) rfl q_X6_coefficient ⟨by decide, by decide⟩
    ⟨(fun t ht => match t, ht with
    | 0, _ => ⟨dL_law_169, dL_law_170, dL_law_172, dL_law_173, dL_law_174⟩
    | 1, _ => ⟨dL_law_175, dL_law_176, dL_law_178, dL_law_179, dL_law_180⟩
    | 2, _ => ⟨dL_law_181, dL_law_182, dL_law_184, dL_law_185, dL_law_186⟩
    | t + 3, h => absurd h (by omega)), dL_law_168, dL_law_187, dL_law_188, dL_law_191, dL_law_193, (fun t ht => match t, ht with
    | 0, _ => ⟨dL_law_194, dL_law_195, dL_law_197, dL_law_198, dL_law_199⟩
    | 1, _ => ⟨dL_law_200, dL_law_201, dL_law_203, dL_law_204, dL_law_205⟩
    | 2, _ => ⟨dL_law_206, dL_law_207, dL_law_209, dL_law_210, dL_law_211⟩
    | t + 3, h => absurd h (by omega)), dL_law_212, dL_law_215⟩ ⟨dL_law_217, dL_law_218, dL_law_221, dL_law_223, dL_law_228, dL_law_230, dL_law_233, dL_law_234, dL_law_235, dL_law_236, (fun _ => ⟨dL_law_238, dL_law_239, dL_law_240⟩), (fun h => by cases h), dL_law_245, by decide⟩ (by omega) hw hk kk
set_option maxRecDepth 20000 in
set_option maxHeartbeats 4000000 in
theorem lc_value (C : lw_C p l s m meth c b L xs base tb) (hfl : l.stackTraces = false) {i : Nat} (hi : i + 4 < L) {S : Nat → Nat → Int} (I : kInv S) (hk : k + 1 ≤ 647848 ∧ n + 6 ≤ 7152561)
    (kk : ∀ S', kInv S' → lwK p l e s m below meth c b base D dT (k + 1) (n + 6) (k_W S') (lw5 b base i) 2180 []) : lwK p l e s m below meth c b base D dT k n (k_W S) (lw5 b base i) 248 [] := by
  have h : kOp m_X5_value m_X6_value kIO kIA [vI (xs (i + (0 + 1))).toInt, vI (xs (i + (1 + 1))).toInt] S := op_value I (kR_t _) (kR_t _)
  have hw := kOp.w (E3 := "java/lang/IllegalArgumentException") h w_X5_value w_X6_value (fun _ => ⟨by decide, rfl⟩) (nL := 5) (o := 3) (A := (aS vI (aS vI (aS vR aN (eLR 0)) (eL 1)) (eL 2))) (f := oI2W) (g0 := (fun r => (Int32.ofInt r).toInt)) (fun _ => rfl) (L := vR 0 :: ([vI (xs (i + (0 + 1))).toInt, vI (xs (i + (1 + 1))).toInt] ++ [vR 103])) rfl (fun _ => rfl)
  exact lw_case C hfl (gLT gL_law_X6_thrown) (a := 2) (p0 := 248) (ix1 := 122) (ix2 := 125) (off := 1867) false (g0 := (fun r => (Int32.ofInt r).toInt)) (by funext r; simp) (t_L_value l hfl) (gLT gL_law_L_value) rfl (by decide +kernel) ⟨by decide, by decide⟩ (t_X6_value l hfl) (gLT gL_law_X6_value) rfl q_X6_value ⟨by decide, by decide⟩
    ⟨(fun t ht => match t, ht with
    | 0, _ => ⟨dL_law_249, dL_law_250, dL_law_252, dL_law_253, dL_law_254⟩
    | 1, _ => ⟨dL_law_255, dL_law_256, dL_law_258, dL_law_259, dL_law_260⟩
    | t + 2, h => absurd h (by omega)), dL_law_248, dL_law_261, dL_law_262, dL_law_265, dL_law_267, (fun t ht => match t, ht with
    | 0, _ => ⟨dL_law_268, dL_law_269, dL_law_271, dL_law_272, dL_law_273⟩
    | 1, _ => ⟨dL_law_274, dL_law_275, dL_law_277, dL_law_278, dL_law_279⟩
    | t + 2, h => absurd h (by omega)), dL_law_280, dL_law_283⟩ ⟨dL_law_285, dL_law_286, dL_law_289, dL_law_291, dL_law_296, dL_law_298, dL_law_301, dL_law_302, dL_law_303, dL_law_304, (fun _ => ⟨dL_law_306, dL_law_307, dL_law_308⟩), (fun h => by cases h), dL_law_313, by decide⟩ (by omega) hw hk kk
set_option maxRecDepth 20000 in
set_option maxHeartbeats 4000000 in
theorem lc_roots (C : lw_C p l s m meth c b L xs base tb) (hfl : l.stackTraces = false) {i : Nat} (hi : i + 4 < L) {S : Nat → Nat → Int} (I : kInv S) (hk : k + 1 ≤ 647848 ∧ n + 6 ≤ 7152561)
    (kk : ∀ S', kInv S' → lwK p l e s m below meth c b base D dT (k + 1) (n + 6) (k_W S') (lw5 b base i) 2180 []) : lwK p l e s m below meth c b base D dT k n (k_W S) (lw5 b base i) 316 [] := by
  have h : kOp m_X5_roots m_X6_roots kIO "" [vI (xs (i + (0 + 1))).toInt] S := op_roots I (kR_t _)
  have hw := kOp.w (E3 := "java/lang/IndexOutOfBoundsException") h w_X5_roots w_X6_roots (fun h => absurd rfl h) (nL := 4) (o := 2) (A := (aS vI (aS vR aN (eLR 0)) (eL 1))) (f := oI2W) (g0 := (fun r => (Int32.ofInt r).toInt)) (fun _ => rfl) (L := vR 0 :: ([vI (xs (i + (0 + 1))).toInt] ++ [vR 103])) rfl (fun _ => rfl)
  exact lw_case C hfl (gLT gL_law_X6_thrown) (a := 1) (p0 := 316) (ix1 := 126) (ix2 := 129) (off := 1811) false (g0 := (fun r => (Int32.ofInt r).toInt)) (by funext r; simp) (t_L_roots l hfl) (gLT gL_law_L_roots) rfl (by decide +kernel) ⟨by decide, by decide⟩ (t_X6_roots l hfl) (gLT gL_law_X6_roots) rfl q_X6_roots ⟨by decide, by decide⟩
    ⟨(fun t ht => match t, ht with
    | 0, _ => ⟨dL_law_317, dL_law_318, dL_law_320, dL_law_321, dL_law_322⟩
    | t + 1, h => absurd h (by omega)), dL_law_316, dL_law_323, dL_law_324, dL_law_327, dL_law_329, (fun t ht => match t, ht with
    | 0, _ => ⟨dL_law_330, dL_law_331, dL_law_333, dL_law_334, dL_law_335⟩
    | t + 1, h => absurd h (by omega)), dL_law_336, dL_law_339⟩ ⟨dL_law_341, dL_law_342, dL_law_345, dL_law_347, dL_law_352, dL_law_354, dL_law_357, dL_law_358, dL_law_359, dL_law_360, (fun _ => ⟨dL_law_362, dL_law_363, dL_law_364⟩), (fun h => by cases h), dL_law_369, by decide⟩ (by omega) hw hk kk
set_option maxRecDepth 20000 in
set_option maxHeartbeats 4000000 in
theorem lc_root (C : lw_C p l s m meth c b L xs base tb) (hfl : l.stackTraces = false) {i : Nat} (hi : i + 4 < L) {S : Nat → Nat → Int} (I : kInv S) (hk : k + 1 ≤ 647848 ∧ n + 6 ≤ 7152561)
    (kk : ∀ S', kInv S' → lwK p l e s m below meth c b base D dT (k + 1) (n + 6) (k_W S') (lw5 b base i) 2180 []) : lwK p l e s m below meth c b base D dT k n (k_W S) (lw5 b base i) 372 [] := by
  have h : kOp m_X5_root m_X6_root kIO kIA [vI (xs (i + (0 + 1))).toInt, vI (xs (i + (1 + 1))).toInt, vI (xs (i + (2 + 1))).toInt] S := op_root I (kR_t _) (kR_t _) (kR_t _)
  have hw := kOp.w (E3 := "java/lang/IllegalArgumentException") h w_X5_root w_X6_root (fun _ => ⟨by decide, rfl⟩) (nL := 6) (o := 4) (A := (aS vI (aS vI (aS vI (aS vR aN (eLR 0)) (eL 1)) (eL 2)) (eL 3))) (f := oI2W) (g0 := (fun r => (Int32.ofInt r).toInt)) (fun _ => rfl) (L := vR 0 :: ([vI (xs (i + (0 + 1))).toInt, vI (xs (i + (1 + 1))).toInt, vI (xs (i + (2 + 1))).toInt] ++ [vR 103])) rfl (fun _ => rfl)
  exact lw_case C hfl (gLT gL_law_X6_thrown) (a := 3) (p0 := 372) (ix1 := 130) (ix2 := 132) (off := 1731) false (g0 := (fun r => (Int32.ofInt r).toInt)) (by funext r; simp) (t_L_root l hfl) (gLT gL_law_L_root) rfl (by decide +kernel) ⟨by decide, by decide⟩ (t_X6_root l hfl) (gLT gL_law_X6_root) rfl q_X6_root ⟨by decide, by decide⟩
    ⟨(fun t ht => match t, ht with
    | 0, _ => ⟨dL_law_373, dL_law_374, dL_law_376, dL_law_377, dL_law_378⟩
    | 1, _ => ⟨dL_law_379, dL_law_380, dL_law_382, dL_law_383, dL_law_384⟩
    | 2, _ => ⟨dL_law_385, dL_law_386, dL_law_388, dL_law_389, dL_law_390⟩
    | t + 3, h => absurd h (by omega)), dL_law_372, dL_law_391, dL_law_392, dL_law_395, dL_law_397, (fun t ht => match t, ht with
    | 0, _ => ⟨dL_law_398, dL_law_399, dL_law_401, dL_law_402, dL_law_403⟩
    | 1, _ => ⟨dL_law_404, dL_law_405, dL_law_407, dL_law_408, dL_law_409⟩
    | 2, _ => ⟨dL_law_410, dL_law_411, dL_law_413, dL_law_414, dL_law_415⟩
    | t + 3, h => absurd h (by omega)), dL_law_416, dL_law_419⟩ ⟨dL_law_421, dL_law_422, dL_law_425, dL_law_427, dL_law_432, dL_law_434, dL_law_437, dL_law_438, dL_law_439, dL_law_440, (fun _ => ⟨dL_law_442, dL_law_443, dL_law_444⟩), (fun h => by cases h), dL_law_449, by decide⟩ (by omega) hw hk kk
set_option maxRecDepth 20000 in
set_option maxHeartbeats 4000000 in
theorem lc_isSpare (C : lw_C p l s m meth c b L xs base tb) (hfl : l.stackTraces = false) {i : Nat} (hi : i + 4 < L) {S : Nat → Nat → Int} (I : kInv S) (hk : k + 1 ≤ 647848 ∧ n + 6 ≤ 7152561)
    (kk : ∀ S', kInv S' → lwK p l e s m below meth c b base D dT (k + 1) (n + 6) (k_W S') (lw5 b base i) 2180 []) : lwK p l e s m below meth c b base D dT k n (k_W S) (lw5 b base i) 452 [] := by
  have h : kOp m_X5_isSpare m_X6_isSpare kIO "" [vI (xs (i + (0 + 1))).toInt, vI (xs (i + (1 + 1))).toInt] S := op_isSpare I (kR_t _) (kR_t _)
  have hw := kOp.w (E3 := "java/lang/IndexOutOfBoundsException") h w_X5_isSpare w_X6_isSpare (fun h => absurd rfl h) (nL := 5) (o := 3) (A := (aS vI (aS vI (aS vR aN (eLR 0)) (eL 1)) (eL 2))) (f := oB2L) (g0 := (fun r => if Int32.ofInt r = 0 then 0 else 1)) (fun _ => rfl) (L := vR 0 :: ([vI (xs (i + (0 + 1))).toInt, vI (xs (i + (1 + 1))).toInt] ++ [vR 103])) rfl (fun _ => rfl)
  exact lw_case C hfl (gLT gL_law_X6_thrown) (a := 2) (p0 := 452) (ix1 := 133) (ix2 := 135) (off := 1656) true (g0 := (fun r => if Int32.ofInt r = 0 then 0 else 1)) (by funext r; simp) (t_L_isSpare l hfl) (gLT gL_law_L_isSpare) rfl (by decide +kernel) ⟨by decide, by decide⟩ (t_X6_isSpare l hfl) (gLT gL_law_X6_isSpare) rfl q_X6_isSpare ⟨by decide, by decide⟩
    ⟨(fun t ht => match t, ht with
    | 0, _ => ⟨dL_law_453, dL_law_454, dL_law_456, dL_law_457, dL_law_458⟩
    | 1, _ => ⟨dL_law_459, dL_law_460, dL_law_462, dL_law_463, dL_law_464⟩
    | t + 2, h => absurd h (by omega)), dL_law_452, dL_law_465, dL_law_466, dL_law_469, dL_law_471, (fun t ht => match t, ht with
    | 0, _ => ⟨dL_law_472, dL_law_473, dL_law_475, dL_law_476, dL_law_477⟩
    | 1, _ => ⟨dL_law_478, dL_law_479, dL_law_481, dL_law_482, dL_law_483⟩
    | t + 2, h => absurd h (by omega)), dL_law_484, dL_law_487⟩ ⟨dL_law_489, dL_law_490, dL_law_493, dL_law_495, dL_law_500, dL_law_502, dL_law_505, dL_law_506, dL_law_507, dL_law_508, (fun h => by cases h), (fun _ => ⟨dL_law_510, dL_law_513, dL_law_514, dL_law_517, dL_law_518, dL_law_519⟩), dL_law_524, by decide⟩ (by omega) hw hk kk
set_option maxRecDepth 20000 in
set_option maxHeartbeats 4000000 in
theorem lc_areSame (C : lw_C p l s m meth c b L xs base tb) (hfl : l.stackTraces = false) {i : Nat} (hi : i + 4 < L) {S : Nat → Nat → Int} (I : kInv S) (hk : k + 1 ≤ 647848 ∧ n + 6 ≤ 7152561)
    (kk : ∀ S', kInv S' → lwK p l e s m below meth c b base D dT (k + 1) (n + 6) (k_W S') (lw5 b base i) 2180 []) : lwK p l e s m below meth c b base D dT k n (k_W S) (lw5 b base i) 527 [] := by
  have h : kOp m_X5_areSame m_X6_areSame kIO "" [vI (xs (i + (0 + 1))).toInt, vI (xs (i + (1 + 1))).toInt] S := op_areSame I (kR_t _) (kR_t _)
  have hw := kOp.w (E3 := "java/lang/IndexOutOfBoundsException") h w_X5_areSame w_X6_areSame (fun h => absurd rfl h) (nL := 5) (o := 3) (A := (aS vI (aS vI (aS vR aN (eLR 0)) (eL 1)) (eL 2))) (f := oB2L) (g0 := (fun r => if Int32.ofInt r = 0 then 0 else 1)) (fun _ => rfl) (L := vR 0 :: ([vI (xs (i + (0 + 1))).toInt, vI (xs (i + (1 + 1))).toInt] ++ [vR 103])) rfl (fun _ => rfl)
  exact lw_case C hfl (gLT gL_law_X6_thrown) (a := 2) (p0 := 527) (ix1 := 136) (ix2 := 138) (off := 1581) true (g0 := (fun r => if Int32.ofInt r = 0 then 0 else 1)) (by funext r; simp) (t_L_areSame l hfl) (gLT gL_law_L_areSame) rfl (by decide +kernel) ⟨by decide, by decide⟩ (t_X6_areSame l hfl) (gLT gL_law_X6_areSame) rfl q_X6_areSame ⟨by decide, by decide⟩
    ⟨(fun t ht => match t, ht with
    | 0, _ => ⟨dL_law_528, dL_law_529, dL_law_531, dL_law_532, dL_law_533⟩
    | 1, _ => ⟨dL_law_534, dL_law_535, dL_law_537, dL_law_538, dL_law_539⟩
    | t + 2, h => absurd h (by omega)), dL_law_527, dL_law_540, dL_law_541, dL_law_544, dL_law_546, (fun t ht => match t, ht with
    | 0, _ => ⟨dL_law_547, dL_law_548, dL_law_550, dL_law_551, dL_law_552⟩
    | 1, _ => ⟨dL_law_553, dL_law_554, dL_law_556, dL_law_557, dL_law_558⟩
    | t + 2, h => absurd h (by omega)), dL_law_559, dL_law_562⟩ ⟨dL_law_564, dL_law_565, dL_law_568, dL_law_570, dL_law_575, dL_law_577, dL_law_580, dL_law_581, dL_law_582, dL_law_583, (fun h => by cases h), (fun _ => ⟨dL_law_585, dL_law_588, dL_law_589, dL_law_592, dL_law_593, dL_law_594⟩), dL_law_599, by decide⟩ (by omega) hw hk kk
set_option maxRecDepth 20000 in
set_option maxHeartbeats 4000000 in
theorem lc_sum (C : lw_C p l s m meth c b L xs base tb) (hfl : l.stackTraces = false) {i : Nat} (hi : i + 4 < L) {S : Nat → Nat → Int} (I : kInv S) (hk : k + 1 ≤ 647848 ∧ n + 6 ≤ 7152561)
    (kk : ∀ S', kInv S' → lwK p l e s m below meth c b base D dT (k + 1) (n + 6) (k_W S') (lw5 b base i) 2180 []) : lwK p l e s m below meth c b base D dT k n (k_W S) (lw5 b base i) 602 [] := by
  have h : kOp m_X5_sum m_X6_sum kIO "" [vI (xs (i + (0 + 1))).toInt, vI (xs (i + (1 + 1))).toInt, vI (xs (i + (2 + 1))).toInt] S := op_sum I (kR_t _) (kR_t _) (kR_t _)
  have hw := kOp.w (E3 := "java/lang/IndexOutOfBoundsException") h w_X5_sum w_X6_sum (fun h => absurd rfl h) (nL := 6) (o := 4) (A := (aS vI (aS vI (aS vI (aS vR aN (eLR 0)) (eL 1)) (eL 2)) (eL 3))) (f := oI2W) (g0 := (fun r => (Int32.ofInt r).toInt)) (fun _ => rfl) (L := vR 0 :: ([vI (xs (i + (0 + 1))).toInt, vI (xs (i + (1 + 1))).toInt, vI (xs (i + (2 + 1))).toInt] ++ [vR 103])) rfl (fun _ => rfl)
  exact lw_case C hfl (gLT gL_law_X6_thrown) (a := 3) (p0 := 602) (ix1 := 139) (ix2 := 141) (off := 1501) false (g0 := (fun r => (Int32.ofInt r).toInt)) (by funext r; simp) (t_L_sum l hfl) (gLT gL_law_L_sum) rfl (by decide +kernel) ⟨by decide, by decide⟩ (t_X6_sum l hfl) (gLT gL_law_X6_sum) rfl q_X6_sum ⟨by decide, by decide⟩
    ⟨(fun t ht => match t, ht with
    | 0, _ => ⟨dL_law_603, dL_law_604, dL_law_606, dL_law_607, dL_law_608⟩
    | 1, _ => ⟨dL_law_609, dL_law_610, dL_law_612, dL_law_613, dL_law_614⟩
    | 2, _ => ⟨dL_law_615, dL_law_616, dL_law_618, dL_law_619, dL_law_620⟩
    | t + 3, h => absurd h (by omega)), dL_law_602, dL_law_621, dL_law_622, dL_law_625, dL_law_627, (fun t ht => match t, ht with
    | 0, _ => ⟨dL_law_628, dL_law_629, dL_law_631, dL_law_632, dL_law_633⟩
    | 1, _ => ⟨dL_law_634, dL_law_635, dL_law_637, dL_law_638, dL_law_639⟩
    | 2, _ => ⟨dL_law_640, dL_law_641, dL_law_643, dL_law_644, dL_law_645⟩
    | t + 3, h => absurd h (by omega)), dL_law_646, dL_law_649⟩ ⟨dL_law_651, dL_law_652, dL_law_655, dL_law_657, dL_law_662, dL_law_664, dL_law_667, dL_law_668, dL_law_669, dL_law_670, (fun _ => ⟨dL_law_672, dL_law_673, dL_law_674⟩), (fun h => by cases h), dL_law_679, by decide⟩ (by omega) hw hk kk
set_option maxRecDepth 20000 in
set_option maxHeartbeats 4000000 in
theorem lc_product (C : lw_C p l s m meth c b L xs base tb) (hfl : l.stackTraces = false) {i : Nat} (hi : i + 4 < L) {S : Nat → Nat → Int} (I : kInv S) (hk : k + 1 ≤ 647848 ∧ n + 6 ≤ 7152561)
    (kk : ∀ S', kInv S' → lwK p l e s m below meth c b base D dT (k + 1) (n + 6) (k_W S') (lw5 b base i) 2180 []) : lwK p l e s m below meth c b base D dT k n (k_W S) (lw5 b base i) 682 [] := by
  have h : kOp m_X5_product m_X6_product kIO kIS [vI (xs (i + (0 + 1))).toInt, vI (xs (i + (1 + 1))).toInt, vI (xs (i + (2 + 1))).toInt] S := op_product I (kR_t _) (kR_t _) (kR_t _)
  have hw := kOp.w (E3 := "java/lang/IllegalStateException") h w_X5_product w_X6_product (fun _ => ⟨by decide, rfl⟩) (nL := 6) (o := 4) (A := (aS vI (aS vI (aS vI (aS vR aN (eLR 0)) (eL 1)) (eL 2)) (eL 3))) (f := oI2W) (g0 := (fun r => (Int32.ofInt r).toInt)) (fun _ => rfl) (L := vR 0 :: ([vI (xs (i + (0 + 1))).toInt, vI (xs (i + (1 + 1))).toInt, vI (xs (i + (2 + 1))).toInt] ++ [vR 103])) rfl (fun _ => rfl)
  exact lw_case C hfl (gLT gL_law_X6_thrown) (a := 3) (p0 := 682) (ix1 := 142) (ix2 := 144) (off := 1421) false (g0 := (fun r => (Int32.ofInt r).toInt)) (by funext r; simp) (t_L_product l hfl) (gLT gL_law_L_product) rfl (by decide +kernel) ⟨by decide, by decide⟩ (t_X6_product l hfl) (gLT gL_law_X6_product) rfl q_X6_product ⟨by decide, by decide⟩
    ⟨(fun t ht => match t, ht with
    | 0, _ => ⟨dL_law_683, dL_law_684, dL_law_686, dL_law_687, dL_law_688⟩
    | 1, _ => ⟨dL_law_689, dL_law_690, dL_law_692, dL_law_693, dL_law_694⟩
    | 2, _ => ⟨dL_law_695, dL_law_696, dL_law_698, dL_law_699, dL_law_700⟩
    | t + 3, h => absurd h (by omega)), dL_law_682, dL_law_701, dL_law_702, dL_law_705, dL_law_707, (fun t ht => match t, ht with
    | 0, _ => ⟨dL_law_708, dL_law_709, dL_law_711, dL_law_712, dL_law_713⟩
    | 1, _ => ⟨dL_law_714, dL_law_715, dL_law_717, dL_law_718, dL_law_719⟩
    | 2, _ => ⟨dL_law_720, dL_law_721, dL_law_723, dL_law_724, dL_law_725⟩
    | t + 3, h => absurd h (by omega)), dL_law_726, dL_law_729⟩ ⟨dL_law_731, dL_law_732, dL_law_735, dL_law_737, dL_law_742, dL_law_744, dL_law_747, dL_law_748, dL_law_749, dL_law_750, (fun _ => ⟨dL_law_752, dL_law_753, dL_law_754⟩), (fun h => by cases h), dL_law_759, by decide⟩ (by omega) hw hk kk
set_option maxRecDepth 20000 in
set_option maxHeartbeats 4000000 in
theorem lc_matrix (C : lw_C p l s m meth c b L xs base tb) (hfl : l.stackTraces = false) {i : Nat} (hi : i + 4 < L) {S : Nat → Nat → Int} (I : kInv S) (hk : k + 1 ≤ 647848 ∧ n + 6 ≤ 7152561)
    (kk : ∀ S', kInv S' → lwK p l e s m below meth c b base D dT (k + 1) (n + 6) (k_W S') (lw5 b base i) 2180 []) : lwK p l e s m below meth c b base D dT k n (k_W S) (lw5 b base i) 762 [] := by
  have h : kOp m_X5_matrix m_X6_matrix kIO kIA [vI (xs (i + (0 + 1))).toInt, vI (xs (i + (1 + 1))).toInt] S := op_matrix I (kR_t _) (kR_t _)
  have hw := kOp.w (E3 := "java/lang/IllegalArgumentException") h w_X5_matrix w_X6_matrix (fun _ => ⟨by decide, rfl⟩) (nL := 5) (o := 3) (A := (aS vI (aS vI (aS vR aN (eLR 0)) (eL 1)) (eL 2))) (f := oI2W) (g0 := (fun r => (Int32.ofInt r).toInt)) (fun _ => rfl) (L := vR 0 :: ([vI (xs (i + (0 + 1))).toInt, vI (xs (i + (1 + 1))).toInt] ++ [vR 103])) rfl (fun _ => rfl)
  exact lw_case C hfl (gLT gL_law_X6_thrown) (a := 2) (p0 := 762) (ix1 := 145) (ix2 := 147) (off := 1353) false (g0 := (fun r => (Int32.ofInt r).toInt)) (by funext r; simp) (t_L_matrix l hfl) (gLT gL_law_L_matrix) rfl (by decide +kernel) ⟨by decide, by decide⟩ (t_X6_matrix l hfl) (gLT gL_law_X6_matrix) rfl q_X6_matrix ⟨by decide, by decide⟩
    ⟨(fun t ht => match t, ht with
    | 0, _ => ⟨dL_law_763, dL_law_764, dL_law_766, dL_law_767, dL_law_768⟩
    | 1, _ => ⟨dL_law_769, dL_law_770, dL_law_772, dL_law_773, dL_law_774⟩
    | t + 2, h => absurd h (by omega)), dL_law_762, dL_law_775, dL_law_776, dL_law_779, dL_law_781, (fun t ht => match t, ht with
    | 0, _ => ⟨dL_law_782, dL_law_783, dL_law_785, dL_law_786, dL_law_787⟩
    | 1, _ => ⟨dL_law_788, dL_law_789, dL_law_791, dL_law_792, dL_law_793⟩
    | t + 2, h => absurd h (by omega)), dL_law_794, dL_law_797⟩ ⟨dL_law_799, dL_law_800, dL_law_803, dL_law_805, dL_law_810, dL_law_812, dL_law_815, dL_law_816, dL_law_817, dL_law_818, (fun _ => ⟨dL_law_820, dL_law_821, dL_law_822⟩), (fun h => by cases h), dL_law_827, by decide⟩ (by omega) hw hk kk
set_option maxRecDepth 20000 in
set_option maxHeartbeats 4000000 in
theorem lc_entry (C : lw_C p l s m meth c b L xs base tb) (hfl : l.stackTraces = false) {i : Nat} (hi : i + 4 < L) {S : Nat → Nat → Int} (I : kInv S) (hk : k + 1 ≤ 647848 ∧ n + 6 ≤ 7152561)
    (kk : ∀ S', kInv S' → lwK p l e s m below meth c b base D dT (k + 1) (n + 6) (k_W S') (lw5 b base i) 2180 []) : lwK p l e s m below meth c b base D dT k n (k_W S) (lw5 b base i) 830 [] := by
  have h : kOp m_X5_entry m_X6_entry kIO kIA [vI (xs (i + (0 + 1))).toInt, vI (xs (i + (1 + 1))).toInt, vI (xs (i + (2 + 1))).toInt, vI (xs (i + (3 + 1))).toInt] S := op_entry I (kR_t _) (kR_t _) (kR_t _) (kR_t _)
  have hw := kOp.w (E3 := "java/lang/IllegalArgumentException") h w_X5_entry w_X6_entry (fun _ => ⟨by decide, rfl⟩) (nL := 7) (o := 5) (A := (aS vI (aS vI (aS vI (aS vI (aS vR aN (eLR 0)) (eL 1)) (eL 2)) (eL 3)) (eL 4))) (f := oI2W) (g0 := (fun r => (Int32.ofInt r).toInt)) (fun _ => rfl) (L := vR 0 :: ([vI (xs (i + (0 + 1))).toInt, vI (xs (i + (1 + 1))).toInt, vI (xs (i + (2 + 1))).toInt, vI (xs (i + (3 + 1))).toInt] ++ [vR 103])) rfl (fun _ => rfl)
  exact lw_case C hfl (gLT gL_law_X6_thrown) (a := 4) (p0 := 830) (ix1 := 148) (ix2 := 151) (off := 1261) false (g0 := (fun r => (Int32.ofInt r).toInt)) (by funext r; simp) (t_L_entry l hfl) (gLT gL_law_L_entry) rfl (by decide +kernel) ⟨by decide, by decide⟩ (t_X6_entry l hfl) (gLT gL_law_X6_entry) rfl q_X6_entry ⟨by decide, by decide⟩
    ⟨(fun t ht => match t, ht with
    | 0, _ => ⟨dL_law_831, dL_law_832, dL_law_834, dL_law_835, dL_law_836⟩
    | 1, _ => ⟨dL_law_837, dL_law_838, dL_law_840, dL_law_841, dL_law_842⟩
    | 2, _ => ⟨dL_law_843, dL_law_844, dL_law_846, dL_law_847, dL_law_848⟩
    | 3, _ => ⟨dL_law_849, dL_law_850, dL_law_852, dL_law_853, dL_law_854⟩
    | t + 4, h => absurd h (by omega)), dL_law_830, dL_law_855, dL_law_856, dL_law_859, dL_law_861, (fun t ht => match t, ht with
    | 0, _ => ⟨dL_law_862, dL_law_863, dL_law_865, dL_law_866, dL_law_867⟩
    | 1, _ => ⟨dL_law_868, dL_law_869, dL_law_871, dL_law_872, dL_law_873⟩
    | 2, _ => ⟨dL_law_874, dL_law_875, dL_law_877, dL_law_878, dL_law_879⟩
    | 3, _ => ⟨dL_law_880, dL_law_881, dL_law_883, dL_law_884, dL_law_885⟩
    | t + 4, h => absurd h (by omega)), dL_law_886, dL_law_889⟩ ⟨dL_law_891, dL_law_892, dL_law_895, dL_law_897, dL_law_902, dL_law_904, dL_law_907, dL_law_908, dL_law_909, dL_law_910, (fun _ => ⟨dL_law_912, dL_law_913, dL_law_914⟩), (fun h => by cases h), dL_law_919, by decide⟩ (by omega) hw hk kk
set_option maxRecDepth 20000 in
set_option maxHeartbeats 4000000 in
theorem lc_at (C : lw_C p l s m meth c b L xs base tb) (hfl : l.stackTraces = false) {i : Nat} (hi : i + 4 < L) {S : Nat → Nat → Int} (I : kInv S) (hk : k + 1 ≤ 647848 ∧ n + 6 ≤ 7152561)
    (kk : ∀ S', kInv S' → lwK p l e s m below meth c b base D dT (k + 1) (n + 6) (k_W S') (lw5 b base i) 2180 []) : lwK p l e s m below meth c b base D dT k n (k_W S) (lw5 b base i) 922 [] := by
  have h : kOp m_X5_at m_X6_at kIO "" [vI (xs (i + (0 + 1))).toInt, vI (xs (i + (1 + 1))).toInt, vI (xs (i + (2 + 1))).toInt] S := op_at I (kR_t _) (kR_t _) (kR_t _)
  have hw := kOp.w (E3 := "java/lang/IndexOutOfBoundsException") h w_X5_at w_X6_at (fun h => absurd rfl h) (nL := 6) (o := 4) (A := (aS vI (aS vI (aS vI (aS vR aN (eLR 0)) (eL 1)) (eL 2)) (eL 3))) (f := oI2W) (g0 := (fun r => (Int32.ofInt r).toInt)) (fun _ => rfl) (L := vR 0 :: ([vI (xs (i + (0 + 1))).toInt, vI (xs (i + (1 + 1))).toInt, vI (xs (i + (2 + 1))).toInt] ++ [vR 103])) rfl (fun _ => rfl)
  exact lw_case C hfl (gLT gL_law_X6_thrown) (a := 3) (p0 := 922) (ix1 := 152) (ix2 := 154) (off := 1181) false (g0 := (fun r => (Int32.ofInt r).toInt)) (by funext r; simp) (t_L_at l hfl) (gLT gL_law_L_at) rfl (by decide +kernel) ⟨by decide, by decide⟩ (t_X6_at l hfl) (gLT gL_law_X6_at) rfl q_X6_at ⟨by decide, by decide⟩
    ⟨(fun t ht => match t, ht with
    | 0, _ => ⟨dL_law_923, dL_law_924, dL_law_926, dL_law_927, dL_law_928⟩
    | 1, _ => ⟨dL_law_929, dL_law_930, dL_law_932, dL_law_933, dL_law_934⟩
    | 2, _ => ⟨dL_law_935, dL_law_936, dL_law_938, dL_law_939, dL_law_940⟩
    | t + 3, h => absurd h (by omega)), dL_law_922, dL_law_941, dL_law_942, dL_law_945, dL_law_947, (fun t ht => match t, ht with
    | 0, _ => ⟨dL_law_948, dL_law_949, dL_law_951, dL_law_952, dL_law_953⟩
    | 1, _ => ⟨dL_law_954, dL_law_955, dL_law_957, dL_law_958, dL_law_959⟩
    | 2, _ => ⟨dL_law_960, dL_law_961, dL_law_963, dL_law_964, dL_law_965⟩
    | t + 3, h => absurd h (by omega)), dL_law_966, dL_law_969⟩ ⟨dL_law_971, dL_law_972, dL_law_975, dL_law_977, dL_law_982, dL_law_984, dL_law_987, dL_law_988, dL_law_989, dL_law_990, (fun _ => ⟨dL_law_992, dL_law_993, dL_law_994⟩), (fun h => by cases h), dL_law_999, by decide⟩ (by omega) hw hk kk
set_option maxRecDepth 20000 in
set_option maxHeartbeats 4000000 in
theorem lc_part (C : lw_C p l s m meth c b L xs base tb) (hfl : l.stackTraces = false) {i : Nat} (hi : i + 4 < L) {S : Nat → Nat → Int} (I : kInv S) (hk : k + 1 ≤ 647848 ∧ n + 6 ≤ 7152561)
    (kk : ∀ S', kInv S' → lwK p l e s m below meth c b base D dT (k + 1) (n + 6) (k_W S') (lw5 b base i) 2180 []) : lwK p l e s m below meth c b base D dT k n (k_W S) (lw5 b base i) 1002 [] := by
  have h : kOp m_X5_part m_X6_part kIO kIA [vI (xs (i + (0 + 1))).toInt, vI (xs (i + (1 + 1))).toInt, vI (xs (i + (2 + 1))).toInt] S := op_part I (kR_t _) (kR_t _) (kR_t _)
  have hw := kOp.w (E3 := "java/lang/IllegalArgumentException") h w_X5_part w_X6_part (fun _ => ⟨by decide, rfl⟩) (nL := 6) (o := 4) (A := (aS vI (aS vI (aS vI (aS vR aN (eLR 0)) (eL 1)) (eL 2)) (eL 3))) (f := oI2W) (g0 := (fun r => (Int32.ofInt r).toInt)) (fun _ => rfl) (L := vR 0 :: ([vI (xs (i + (0 + 1))).toInt, vI (xs (i + (1 + 1))).toInt, vI (xs (i + (2 + 1))).toInt] ++ [vR 103])) rfl (fun _ => rfl)
  exact lw_case C hfl (gLT gL_law_X6_thrown) (a := 3) (p0 := 1002) (ix1 := 155) (ix2 := 157) (off := 1101) false (g0 := (fun r => (Int32.ofInt r).toInt)) (by funext r; simp) (t_L_part l hfl) (gLT gL_law_L_part) rfl (by decide +kernel) ⟨by decide, by decide⟩ (t_X6_part l hfl) (gLT gL_law_X6_part) rfl q_X6_part ⟨by decide, by decide⟩
    ⟨(fun t ht => match t, ht with
    | 0, _ => ⟨dL_law_1003, dL_law_1004, dL_law_1006, dL_law_1007, dL_law_1008⟩
    | 1, _ => ⟨dL_law_1009, dL_law_1010, dL_law_1012, dL_law_1013, dL_law_1014⟩
    | 2, _ => ⟨dL_law_1015, dL_law_1016, dL_law_1018, dL_law_1019, dL_law_1020⟩
    | t + 3, h => absurd h (by omega)), dL_law_1002, dL_law_1021, dL_law_1022, dL_law_1025, dL_law_1027, (fun t ht => match t, ht with
    | 0, _ => ⟨dL_law_1028, dL_law_1029, dL_law_1031, dL_law_1032, dL_law_1033⟩
    | 1, _ => ⟨dL_law_1034, dL_law_1035, dL_law_1037, dL_law_1038, dL_law_1039⟩
    | 2, _ => ⟨dL_law_1040, dL_law_1041, dL_law_1043, dL_law_1044, dL_law_1045⟩
    | t + 3, h => absurd h (by omega)), dL_law_1046, dL_law_1049⟩ ⟨dL_law_1051, dL_law_1052, dL_law_1055, dL_law_1057, dL_law_1062, dL_law_1064, dL_law_1067, dL_law_1068, dL_law_1069, dL_law_1070, (fun _ => ⟨dL_law_1072, dL_law_1073, dL_law_1074⟩), (fun h => by cases h), dL_law_1079, by decide⟩ (by omega) hw hk kk
set_option maxRecDepth 20000 in
set_option maxHeartbeats 4000000 in
theorem lc_partAt (C : lw_C p l s m meth c b L xs base tb) (hfl : l.stackTraces = false) {i : Nat} (hi : i + 4 < L) {S : Nat → Nat → Int} (I : kInv S) (hk : k + 1 ≤ 647848 ∧ n + 6 ≤ 7152561)
    (kk : ∀ S', kInv S' → lwK p l e s m below meth c b base D dT (k + 1) (n + 6) (k_W S') (lw5 b base i) 2180 []) : lwK p l e s m below meth c b base D dT k n (k_W S) (lw5 b base i) 1082 [] := by
  have h : kOp m_X5_partAt m_X6_partAt kIO "" [vI (xs (i + (0 + 1))).toInt, vI (xs (i + (1 + 1))).toInt] S := op_partAt I (kR_t _) (kR_t _)
  have hw := kOp.w (E3 := "java/lang/IndexOutOfBoundsException") h w_X5_partAt w_X6_partAt (fun h => absurd rfl h) (nL := 5) (o := 3) (A := (aS vI (aS vI (aS vR aN (eLR 0)) (eL 1)) (eL 2))) (f := oI2W) (g0 := (fun r => (Int32.ofInt r).toInt)) (fun _ => rfl) (L := vR 0 :: ([vI (xs (i + (0 + 1))).toInt, vI (xs (i + (1 + 1))).toInt] ++ [vR 103])) rfl (fun _ => rfl)
  exact lw_case C hfl (gLT gL_law_X6_thrown) (a := 2) (p0 := 1082) (ix1 := 158) (ix2 := 160) (off := 1033) false (g0 := (fun r => (Int32.ofInt r).toInt)) (by funext r; simp) (t_L_partAt l hfl) (gLT gL_law_L_partAt) rfl (by decide +kernel) ⟨by decide, by decide⟩ (t_X6_partAt l hfl) (gLT gL_law_X6_partAt) rfl q_X6_partAt ⟨by decide, by decide⟩
    ⟨(fun t ht => match t, ht with
    | 0, _ => ⟨dL_law_1083, dL_law_1084, dL_law_1086, dL_law_1087, dL_law_1088⟩
    | 1, _ => ⟨dL_law_1089, dL_law_1090, dL_law_1092, dL_law_1093, dL_law_1094⟩
    | t + 2, h => absurd h (by omega)), dL_law_1082, dL_law_1095, dL_law_1096, dL_law_1099, dL_law_1101, (fun t ht => match t, ht with
    | 0, _ => ⟨dL_law_1102, dL_law_1103, dL_law_1105, dL_law_1106, dL_law_1107⟩
    | 1, _ => ⟨dL_law_1108, dL_law_1109, dL_law_1111, dL_law_1112, dL_law_1113⟩
    | t + 2, h => absurd h (by omega)), dL_law_1114, dL_law_1117⟩ ⟨dL_law_1119, dL_law_1120, dL_law_1123, dL_law_1125, dL_law_1130, dL_law_1132, dL_law_1135, dL_law_1136, dL_law_1137, dL_law_1138, (fun _ => ⟨dL_law_1140, dL_law_1141, dL_law_1142⟩), (fun h => by cases h), dL_law_1147, by decide⟩ (by omega) hw hk kk
set_option maxRecDepth 20000 in
set_option maxHeartbeats 4000000 in
theorem lc_multiply (C : lw_C p l s m meth c b L xs base tb) (hfl : l.stackTraces = false) {i : Nat} (hi : i + 4 < L) {S : Nat → Nat → Int} (I : kInv S) (hk : k + 1 ≤ 647848 ∧ n + 6 ≤ 7152561)
    (kk : ∀ S', kInv S' → lwK p l e s m below meth c b base D dT (k + 1) (n + 6) (k_W S') (lw5 b base i) 2180 []) : lwK p l e s m below meth c b base D dT k n (k_W S) (lw5 b base i) 1150 [] := by
  have h : kOp m_X5_multiply m_X6_multiply kIO kIS [vI (xs (i + (0 + 1))).toInt, vI (xs (i + (1 + 1))).toInt, vI (xs (i + (2 + 1))).toInt] S := op_multiply I (kR_t _) (kR_t _) (kR_t _)
  have hw := kOp.w (E3 := "java/lang/IllegalStateException") h w_X5_multiply w_X6_multiply (fun _ => ⟨by decide, rfl⟩) (nL := 6) (o := 4) (A := (aS vI (aS vI (aS vI (aS vR aN (eLR 0)) (eL 1)) (eL 2)) (eL 3))) (f := oI2W) (g0 := (fun r => (Int32.ofInt r).toInt)) (fun _ => rfl) (L := vR 0 :: ([vI (xs (i + (0 + 1))).toInt, vI (xs (i + (1 + 1))).toInt, vI (xs (i + (2 + 1))).toInt] ++ [vR 103])) rfl (fun _ => rfl)
  exact lw_case C hfl (gLT gL_law_X6_thrown) (a := 3) (p0 := 1150) (ix1 := 161) (ix2 := 163) (off := 953) false (g0 := (fun r => (Int32.ofInt r).toInt)) (by funext r; simp) (t_L_multiply l hfl) (gLT gL_law_L_multiply) rfl (by decide +kernel) ⟨by decide, by decide⟩ (t_X6_multiply l hfl) (gLT gL_law_X6_multiply) rfl q_X6_multiply ⟨by decide, by decide⟩
    ⟨(fun t ht => match t, ht with
    | 0, _ => ⟨dL_law_1151, dL_law_1152, dL_law_1154, dL_law_1155, dL_law_1156⟩
    | 1, _ => ⟨dL_law_1157, dL_law_1158, dL_law_1160, dL_law_1161, dL_law_1162⟩
    | 2, _ => ⟨dL_law_1163, dL_law_1164, dL_law_1166, dL_law_1167, dL_law_1168⟩
    | t + 3, h => absurd h (by omega)), dL_law_1150, dL_law_1169, dL_law_1170, dL_law_1173, dL_law_1175, (fun t ht => match t, ht with
    | 0, _ => ⟨dL_law_1176, dL_law_1177, dL_law_1179, dL_law_1180, dL_law_1181⟩
    | 1, _ => ⟨dL_law_1182, dL_law_1183, dL_law_1185, dL_law_1186, dL_law_1187⟩
    | 2, _ => ⟨dL_law_1188, dL_law_1189, dL_law_1191, dL_law_1192, dL_law_1193⟩
    | t + 3, h => absurd h (by omega)), dL_law_1194, dL_law_1197⟩ ⟨dL_law_1199, dL_law_1200, dL_law_1203, dL_law_1205, dL_law_1210, dL_law_1212, dL_law_1215, dL_law_1216, dL_law_1217, dL_law_1218, (fun _ => ⟨dL_law_1220, dL_law_1221, dL_law_1222⟩), (fun h => by cases h), dL_law_1227, by decide⟩ (by omega) hw hk kk
set_option maxRecDepth 20000 in
set_option maxHeartbeats 4000000 in
theorem lc_star (C : lw_C p l s m meth c b L xs base tb) (hfl : l.stackTraces = false) {i : Nat} (hi : i + 4 < L) {S : Nat → Nat → Int} (I : kInv S) (hk : k + 1 ≤ 647848 ∧ n + 6 ≤ 7152561)
    (kk : ∀ S', kInv S' → lwK p l e s m below meth c b base D dT (k + 1) (n + 6) (k_W S') (lw5 b base i) 2180 []) : lwK p l e s m below meth c b base D dT k n (k_W S) (lw5 b base i) 1230 [] := by
  have h : kOp m_X5_star m_X6_star kIO kIS [vI (xs (i + (0 + 1))).toInt, vI (xs (i + (1 + 1))).toInt] S := op_star I (kR_t _) (kR_t _)
  have hw := kOp.w (E3 := "java/lang/IllegalStateException") h w_X5_star w_X6_star (fun _ => ⟨by decide, rfl⟩) (nL := 5) (o := 3) (A := (aS vI (aS vI (aS vR aN (eLR 0)) (eL 1)) (eL 2))) (f := oI2W) (g0 := (fun r => (Int32.ofInt r).toInt)) (fun _ => rfl) (L := vR 0 :: ([vI (xs (i + (0 + 1))).toInt, vI (xs (i + (1 + 1))).toInt] ++ [vR 103])) rfl (fun _ => rfl)
  exact lw_case C hfl (gLT gL_law_X6_thrown) (a := 2) (p0 := 1230) (ix1 := 164) (ix2 := 166) (off := 885) false (g0 := (fun r => (Int32.ofInt r).toInt)) (by funext r; simp) (t_L_star l hfl) (gLT gL_law_L_star) rfl (by decide +kernel) ⟨by decide, by decide⟩ (t_X6_star l hfl) (gLT gL_law_X6_star) rfl q_X6_star ⟨by decide, by decide⟩
    ⟨(fun t ht => match t, ht with
    | 0, _ => ⟨dL_law_1231, dL_law_1232, dL_law_1234, dL_law_1235, dL_law_1236⟩
    | 1, _ => ⟨dL_law_1237, dL_law_1238, dL_law_1240, dL_law_1241, dL_law_1242⟩
    | t + 2, h => absurd h (by omega)), dL_law_1230, dL_law_1243, dL_law_1244, dL_law_1247, dL_law_1249, (fun t ht => match t, ht with
    | 0, _ => ⟨dL_law_1250, dL_law_1251, dL_law_1253, dL_law_1254, dL_law_1255⟩
    | 1, _ => ⟨dL_law_1256, dL_law_1257, dL_law_1259, dL_law_1260, dL_law_1261⟩
    | t + 2, h => absurd h (by omega)), dL_law_1262, dL_law_1265⟩ ⟨dL_law_1267, dL_law_1268, dL_law_1271, dL_law_1273, dL_law_1278, dL_law_1280, dL_law_1283, dL_law_1284, dL_law_1285, dL_law_1286, (fun _ => ⟨dL_law_1288, dL_law_1289, dL_law_1290⟩), (fun h => by cases h), dL_law_1295, by decide⟩ (by omega) hw hk kk
set_option maxRecDepth 20000 in
set_option maxHeartbeats 4000000 in
theorem lc_mean (C : lw_C p l s m meth c b L xs base tb) (hfl : l.stackTraces = false) {i : Nat} (hi : i + 4 < L) {S : Nat → Nat → Int} (I : kInv S) (hk : k + 1 ≤ 647848 ∧ n + 6 ≤ 7152561)
    (kk : ∀ S', kInv S' → lwK p l e s m below meth c b base D dT (k + 1) (n + 6) (k_W S') (lw5 b base i) 2180 []) : lwK p l e s m below meth c b base D dT k n (k_W S) (lw5 b base i) 1298 [] := by
  have h : kOp m_X5_mean m_X6_mean kIO kIA [vI (xs (i + (0 + 1))).toInt, vI (xs (i + (1 + 1))).toInt] S := op_mean I (kR_t _) (kR_t _)
  have hw := kOp.w (E3 := "java/lang/IllegalArgumentException") h w_X5_mean w_X6_mean (fun _ => ⟨by decide, rfl⟩) (nL := 5) (o := 3) (A := (aS vI (aS vI (aS vR aN (eLR 0)) (eL 1)) (eL 2))) (f := oI2W) (g0 := (fun r => (Int32.ofInt r).toInt)) (fun _ => rfl) (L := vR 0 :: ([vI (xs (i + (0 + 1))).toInt, vI (xs (i + (1 + 1))).toInt] ++ [vR 103])) rfl (fun _ => rfl)
  exact lw_case C hfl (gLT gL_law_X6_thrown) (a := 2) (p0 := 1298) (ix1 := 167) (ix2 := 169) (off := 817) false (g0 := (fun r => (Int32.ofInt r).toInt)) (by funext r; simp) (t_L_mean l hfl) (gLT gL_law_L_mean) rfl (by decide +kernel) ⟨by decide, by decide⟩ (t_X6_mean l hfl) (gLT gL_law_X6_mean) rfl q_X6_mean ⟨by decide, by decide⟩
    ⟨(fun t ht => match t, ht with
    | 0, _ => ⟨dL_law_1299, dL_law_1300, dL_law_1302, dL_law_1303, dL_law_1304⟩
    | 1, _ => ⟨dL_law_1305, dL_law_1306, dL_law_1308, dL_law_1309, dL_law_1310⟩
    | t + 2, h => absurd h (by omega)), dL_law_1298, dL_law_1311, dL_law_1312, dL_law_1315, dL_law_1317, (fun t ht => match t, ht with
    | 0, _ => ⟨dL_law_1318, dL_law_1319, dL_law_1321, dL_law_1322, dL_law_1323⟩
    | 1, _ => ⟨dL_law_1324, dL_law_1325, dL_law_1327, dL_law_1328, dL_law_1329⟩
    | t + 2, h => absurd h (by omega)), dL_law_1330, dL_law_1333⟩ ⟨dL_law_1335, dL_law_1336, dL_law_1339, dL_law_1341, dL_law_1346, dL_law_1348, dL_law_1351, dL_law_1352, dL_law_1353, dL_law_1354, (fun _ => ⟨dL_law_1356, dL_law_1357, dL_law_1358⟩), (fun h => by cases h), dL_law_1363, by decide⟩ (by omega) hw hk kk
set_option maxRecDepth 20000 in
set_option maxHeartbeats 4000000 in
theorem lc_determinant (C : lw_C p l s m meth c b L xs base tb) (hfl : l.stackTraces = false) {i : Nat} (hi : i + 4 < L) {S : Nat → Nat → Int} (I : kInv S) (hk : k + 1 ≤ 647848 ∧ n + 6 ≤ 7152561)
    (kk : ∀ S', kInv S' → lwK p l e s m below meth c b base D dT (k + 1) (n + 6) (k_W S') (lw5 b base i) 2180 []) : lwK p l e s m below meth c b base D dT k n (k_W S) (lw5 b base i) 1366 [] := by
  have h : kOp m_X5_determinant m_X6_determinant kIO "" [vI (xs (i + (0 + 1))).toInt] S := op_determinant I (kR_t _)
  have hw := kOp.w (E3 := "java/lang/IndexOutOfBoundsException") h w_X5_determinant w_X6_determinant (fun h => absurd rfl h) (nL := 4) (o := 2) (A := (aS vI (aS vR aN (eLR 0)) (eL 1))) (f := oI2W) (g0 := (fun r => (Int32.ofInt r).toInt)) (fun _ => rfl) (L := vR 0 :: ([vI (xs (i + (0 + 1))).toInt] ++ [vR 103])) rfl (fun _ => rfl)
  exact lw_case C hfl (gLT gL_law_X6_thrown) (a := 1) (p0 := 1366) (ix1 := 170) (ix2 := 172) (off := 761) false (g0 := (fun r => (Int32.ofInt r).toInt)) (by funext r; simp) (t_L_determinant l hfl) (gLT gL_law_L_determinant) rfl (by decide +kernel) ⟨by decide, by decide⟩ (t_X6_determinant l hfl) (gLT gL_law_X6_determinant) rfl q_X6_determinant ⟨by decide, by decide⟩
    ⟨(fun t ht => match t, ht with
    | 0, _ => ⟨dL_law_1367, dL_law_1368, dL_law_1370, dL_law_1371, dL_law_1372⟩
    | t + 1, h => absurd h (by omega)), dL_law_1366, dL_law_1373, dL_law_1374, dL_law_1377, dL_law_1379, (fun t ht => match t, ht with
    | 0, _ => ⟨dL_law_1380, dL_law_1381, dL_law_1383, dL_law_1384, dL_law_1385⟩
    | t + 1, h => absurd h (by omega)), dL_law_1386, dL_law_1389⟩ ⟨dL_law_1391, dL_law_1392, dL_law_1395, dL_law_1397, dL_law_1402, dL_law_1404, dL_law_1407, dL_law_1408, dL_law_1409, dL_law_1410, (fun _ => ⟨dL_law_1412, dL_law_1413, dL_law_1414⟩), (fun h => by cases h), dL_law_1419, by decide⟩ (by omega) hw hk kk
set_option maxRecDepth 20000 in
set_option maxHeartbeats 4000000 in
theorem lc_ways (C : lw_C p l s m meth c b L xs base tb) (hfl : l.stackTraces = false) {i : Nat} (hi : i + 4 < L) {S : Nat → Nat → Int} (I : kInv S) (hk : k + 1 ≤ 647848 ∧ n + 6 ≤ 7152561)
    (kk : ∀ S', kInv S' → lwK p l e s m below meth c b base D dT (k + 1) (n + 6) (k_W S') (lw5 b base i) 2180 []) : lwK p l e s m below meth c b base D dT k n (k_W S) (lw5 b base i) 1422 [] := by
  have h : kOp m_X5_ways m_X6_ways kIO "" [vI (xs (i + (0 + 1))).toInt] S := op_ways I (kR_t _)
  have hw := kOp.w (E3 := "java/lang/IndexOutOfBoundsException") h w_X5_ways w_X6_ways (fun h => absurd rfl h) (nL := 4) (o := 2) (A := (aS vI (aS vR aN (eLR 0)) (eL 1))) (f := oI2W) (g0 := (fun r => (Int32.ofInt r).toInt)) (fun _ => rfl) (L := vR 0 :: ([vI (xs (i + (0 + 1))).toInt] ++ [vR 103])) rfl (fun _ => rfl)
  exact lw_case C hfl (gLT gL_law_X6_thrown) (a := 1) (p0 := 1422) (ix1 := 173) (ix2 := 175) (off := 705) false (g0 := (fun r => (Int32.ofInt r).toInt)) (by funext r; simp) (t_L_ways l hfl) (gLT gL_law_L_ways) rfl (by decide +kernel) ⟨by decide, by decide⟩ (t_X6_ways l hfl) (gLT gL_law_X6_ways) rfl q_X6_ways ⟨by decide, by decide⟩
    ⟨(fun t ht => match t, ht with
    | 0, _ => ⟨dL_law_1423, dL_law_1424, dL_law_1426, dL_law_1427, dL_law_1428⟩
    | t + 1, h => absurd h (by omega)), dL_law_1422, dL_law_1429, dL_law_1430, dL_law_1433, dL_law_1435, (fun t ht => match t, ht with
    | 0, _ => ⟨dL_law_1436, dL_law_1437, dL_law_1439, dL_law_1440, dL_law_1441⟩
    | t + 1, h => absurd h (by omega)), dL_law_1442, dL_law_1445⟩ ⟨dL_law_1447, dL_law_1448, dL_law_1451, dL_law_1453, dL_law_1458, dL_law_1460, dL_law_1463, dL_law_1464, dL_law_1465, dL_law_1466, (fun _ => ⟨dL_law_1468, dL_law_1469, dL_law_1470⟩), (fun h => by cases h), dL_law_1475, by decide⟩ (by omega) hw hk kk
set_option maxRecDepth 20000 in
set_option maxHeartbeats 4000000 in
theorem lc_solve (C : lw_C p l s m meth c b L xs base tb) (hfl : l.stackTraces = false) {i : Nat} (hi : i + 4 < L) {S : Nat → Nat → Int} (I : kInv S) (hk : k + 1 ≤ 647848 ∧ n + 6 ≤ 7152561)
    (kk : ∀ S', kInv S' → lwK p l e s m below meth c b base D dT (k + 1) (n + 6) (k_W S') (lw5 b base i) 2180 []) : lwK p l e s m below meth c b base D dT k n (k_W S) (lw5 b base i) 1478 [] := by
  have h : kOp m_X5_solve m_X6_solve kIO kIS [vI (xs (i + (0 + 1))).toInt, vI (xs (i + (1 + 1))).toInt, vI (xs (i + (2 + 1))).toInt] S := op_solve I (kR_t _) (kR_t _) (kR_t _)
  have hw := kOp.w (E3 := "java/lang/IllegalStateException") h w_X5_solve w_X6_solve (fun _ => ⟨by decide, rfl⟩) (nL := 6) (o := 4) (A := (aS vI (aS vI (aS vI (aS vR aN (eLR 0)) (eL 1)) (eL 2)) (eL 3))) (f := oB2L) (g0 := (fun r => if Int32.ofInt r = 0 then 0 else 1)) (fun _ => rfl) (L := vR 0 :: ([vI (xs (i + (0 + 1))).toInt, vI (xs (i + (1 + 1))).toInt, vI (xs (i + (2 + 1))).toInt] ++ [vR 103])) rfl (fun _ => rfl)
  exact lw_case C hfl (gLT gL_law_X6_thrown) (a := 3) (p0 := 1478) (ix1 := 176) (ix2 := 178) (off := 618) true (g0 := (fun r => if Int32.ofInt r = 0 then 0 else 1)) (by funext r; simp) (t_L_solve l hfl) (gLT gL_law_L_solve) rfl (by decide +kernel) ⟨by decide, by decide⟩ (t_X6_solve l hfl) (gLT gL_law_X6_solve) rfl q_X6_solve ⟨by decide, by decide⟩
    ⟨(fun t ht => match t, ht with
    | 0, _ => ⟨dL_law_1479, dL_law_1480, dL_law_1482, dL_law_1483, dL_law_1484⟩
    | 1, _ => ⟨dL_law_1485, dL_law_1486, dL_law_1488, dL_law_1489, dL_law_1490⟩
    | 2, _ => ⟨dL_law_1491, dL_law_1492, dL_law_1494, dL_law_1495, dL_law_1496⟩
    | t + 3, h => absurd h (by omega)), dL_law_1478, dL_law_1497, dL_law_1498, dL_law_1501, dL_law_1503, (fun t ht => match t, ht with
    | 0, _ => ⟨dL_law_1504, dL_law_1505, dL_law_1507, dL_law_1508, dL_law_1509⟩
    | 1, _ => ⟨dL_law_1510, dL_law_1511, dL_law_1513, dL_law_1514, dL_law_1515⟩
    | 2, _ => ⟨dL_law_1516, dL_law_1517, dL_law_1519, dL_law_1520, dL_law_1521⟩
    | t + 3, h => absurd h (by omega)), dL_law_1522, dL_law_1525⟩ ⟨dL_law_1527, dL_law_1528, dL_law_1531, dL_law_1533, dL_law_1538, dL_law_1540, dL_law_1543, dL_law_1544, dL_law_1545, dL_law_1546, (fun h => by cases h), (fun _ => ⟨dL_law_1548, dL_law_1551, dL_law_1552, dL_law_1555, dL_law_1556, dL_law_1557⟩), dL_law_1562, by decide⟩ (by omega) hw hk kk
set_option maxRecDepth 20000 in
set_option maxHeartbeats 4000000 in
theorem lc_project (C : lw_C p l s m meth c b L xs base tb) (hfl : l.stackTraces = false) {i : Nat} (hi : i + 4 < L) {S : Nat → Nat → Int} (I : kInv S) (hk : k + 1 ≤ 647848 ∧ n + 6 ≤ 7152561)
    (kk : ∀ S', kInv S' → lwK p l e s m below meth c b base D dT (k + 1) (n + 6) (k_W S') (lw5 b base i) 2180 []) : lwK p l e s m below meth c b base D dT k n (k_W S) (lw5 b base i) 1565 [] := by
  have h : kOp m_X5_project m_X6_project kIO kIS [vI (xs (i + (0 + 1))).toInt, vI (xs (i + (1 + 1))).toInt, vI (xs (i + (2 + 1))).toInt] S := op_project I (kR_t _) (kR_t _) (kR_t _)
  have hw := kOp.w (E3 := "java/lang/IllegalStateException") h w_X5_project w_X6_project (fun _ => ⟨by decide, rfl⟩) (nL := 6) (o := 4) (A := (aS vI (aS vI (aS vI (aS vR aN (eLR 0)) (eL 1)) (eL 2)) (eL 3))) (f := oB2L) (g0 := (fun r => if Int32.ofInt r = 0 then 0 else 1)) (fun _ => rfl) (L := vR 0 :: ([vI (xs (i + (0 + 1))).toInt, vI (xs (i + (1 + 1))).toInt, vI (xs (i + (2 + 1))).toInt] ++ [vR 103])) rfl (fun _ => rfl)
  exact lw_case C hfl (gLT gL_law_X6_thrown) (a := 3) (p0 := 1565) (ix1 := 179) (ix2 := 181) (off := 531) true (g0 := (fun r => if Int32.ofInt r = 0 then 0 else 1)) (by funext r; simp) (t_L_project l hfl) (gLT gL_law_L_project) rfl (by decide +kernel) ⟨by decide, by decide⟩ (t_X6_project l hfl) (gLT gL_law_X6_project) rfl q_X6_project ⟨by decide, by decide⟩
    ⟨(fun t ht => match t, ht with
    | 0, _ => ⟨dL_law_1566, dL_law_1567, dL_law_1569, dL_law_1570, dL_law_1571⟩
    | 1, _ => ⟨dL_law_1572, dL_law_1573, dL_law_1575, dL_law_1576, dL_law_1577⟩
    | 2, _ => ⟨dL_law_1578, dL_law_1579, dL_law_1581, dL_law_1582, dL_law_1583⟩
    | t + 3, h => absurd h (by omega)), dL_law_1565, dL_law_1584, dL_law_1585, dL_law_1588, dL_law_1590, (fun t ht => match t, ht with
    | 0, _ => ⟨dL_law_1591, dL_law_1592, dL_law_1594, dL_law_1595, dL_law_1596⟩
    | 1, _ => ⟨dL_law_1597, dL_law_1598, dL_law_1600, dL_law_1601, dL_law_1602⟩
    | 2, _ => ⟨dL_law_1603, dL_law_1604, dL_law_1606, dL_law_1607, dL_law_1608⟩
    | t + 3, h => absurd h (by omega)), dL_law_1609, dL_law_1612⟩ ⟨dL_law_1614, dL_law_1615, dL_law_1618, dL_law_1620, dL_law_1625, dL_law_1627, dL_law_1630, dL_law_1631, dL_law_1632, dL_law_1633, (fun h => by cases h), (fun _ => ⟨dL_law_1635, dL_law_1638, dL_law_1639, dL_law_1642, dL_law_1643, dL_law_1644⟩), dL_law_1649, by decide⟩ (by omega) hw hk kk
set_option maxRecDepth 20000 in
set_option maxHeartbeats 4000000 in
theorem lc_tree (C : lw_C p l s m meth c b L xs base tb) (hfl : l.stackTraces = false) {i : Nat} (hi : i + 4 < L) {S : Nat → Nat → Int} (I : kInv S) (hk : k + 1 ≤ 647848 ∧ n + 6 ≤ 7152561)
    (kk : ∀ S', kInv S' → lwK p l e s m below meth c b base D dT (k + 1) (n + 6) (k_W S') (lw5 b base i) 2180 []) : lwK p l e s m below meth c b base D dT k n (k_W S) (lw5 b base i) 1652 [] := by
  have h : kOp m_X5_tree m_X6_tree kIO "" [vI (xs (i + (0 + 1))).toInt] S := op_tree I (kR_t _)
  have hw := kOp.w (E3 := "java/lang/IndexOutOfBoundsException") h w_X5_tree w_X6_tree (fun h => absurd rfl h) (nL := 4) (o := 2) (A := (aS vI (aS vR aN (eLR 0)) (eL 1))) (f := oI2W) (g0 := (fun r => (Int32.ofInt r).toInt)) (fun _ => rfl) (L := vR 0 :: ([vI (xs (i + (0 + 1))).toInt] ++ [vR 103])) rfl (fun _ => rfl)
  exact lw_case C hfl (gLT gL_law_X6_thrown) (a := 1) (p0 := 1652) (ix1 := 182) (ix2 := 184) (off := 475) false (g0 := (fun r => (Int32.ofInt r).toInt)) (by funext r; simp) (t_L_tree l hfl) (gLT gL_law_L_tree) rfl (by decide +kernel) ⟨by decide, by decide⟩ (t_X6_tree l hfl) (gLT gL_law_X6_tree) rfl q_X6_tree ⟨by decide, by decide⟩
    ⟨(fun t ht => match t, ht with
    | 0, _ => ⟨dL_law_1653, dL_law_1654, dL_law_1656, dL_law_1657, dL_law_1658⟩
    | t + 1, h => absurd h (by omega)), dL_law_1652, dL_law_1659, dL_law_1660, dL_law_1663, dL_law_1665, (fun t ht => match t, ht with
    | 0, _ => ⟨dL_law_1666, dL_law_1667, dL_law_1669, dL_law_1670, dL_law_1671⟩
    | t + 1, h => absurd h (by omega)), dL_law_1672, dL_law_1675⟩ ⟨dL_law_1677, dL_law_1678, dL_law_1681, dL_law_1683, dL_law_1688, dL_law_1690, dL_law_1693, dL_law_1694, dL_law_1695, dL_law_1696, (fun _ => ⟨dL_law_1698, dL_law_1699, dL_law_1700⟩), (fun h => by cases h), dL_law_1705, by decide⟩ (by omega) hw hk kk
set_option maxRecDepth 20000 in
set_option maxHeartbeats 4000000 in
theorem lc_edges (C : lw_C p l s m meth c b L xs base tb) (hfl : l.stackTraces = false) {i : Nat} (hi : i + 4 < L) {S : Nat → Nat → Int} (I : kInv S) (hk : k + 1 ≤ 647848 ∧ n + 6 ≤ 7152561)
    (kk : ∀ S', kInv S' → lwK p l e s m below meth c b base D dT (k + 1) (n + 6) (k_W S') (lw5 b base i) 2180 []) : lwK p l e s m below meth c b base D dT k n (k_W S) (lw5 b base i) 1708 [] := by
  have h : kOp m_X5_edges m_X6_edges kIO kIA [vI (xs (i + (0 + 1))).toInt, vI (xs (i + (1 + 1))).toInt, vI (xs (i + (2 + 1))).toInt] S := op_edges I (kR_t _) (kR_t _) (kR_t _)
  have hw := kOp.w (E3 := "java/lang/IllegalArgumentException") h w_X5_edges w_X6_edges (fun _ => ⟨by decide, rfl⟩) (nL := 6) (o := 4) (A := (aS vI (aS vI (aS vI (aS vR aN (eLR 0)) (eL 1)) (eL 2)) (eL 3))) (f := oI2W) (g0 := (fun r => (Int32.ofInt r).toInt)) (fun _ => rfl) (L := vR 0 :: ([vI (xs (i + (0 + 1))).toInt, vI (xs (i + (1 + 1))).toInt, vI (xs (i + (2 + 1))).toInt] ++ [vR 103])) rfl (fun _ => rfl)
  exact lw_case C hfl (gLT gL_law_X6_thrown) (a := 3) (p0 := 1708) (ix1 := 185) (ix2 := 187) (off := 395) false (g0 := (fun r => (Int32.ofInt r).toInt)) (by funext r; simp) (t_L_edges l hfl) (gLT gL_law_L_edges) rfl (by decide +kernel) ⟨by decide, by decide⟩ (t_X6_edges l hfl) (gLT gL_law_X6_edges) rfl q_X6_edges ⟨by decide, by decide⟩
    ⟨(fun t ht => match t, ht with
    | 0, _ => ⟨dL_law_1709, dL_law_1710, dL_law_1712, dL_law_1713, dL_law_1714⟩
    | 1, _ => ⟨dL_law_1715, dL_law_1716, dL_law_1718, dL_law_1719, dL_law_1720⟩
    | 2, _ => ⟨dL_law_1721, dL_law_1722, dL_law_1724, dL_law_1725, dL_law_1726⟩
    | t + 3, h => absurd h (by omega)), dL_law_1708, dL_law_1727, dL_law_1728, dL_law_1731, dL_law_1733, (fun t ht => match t, ht with
    | 0, _ => ⟨dL_law_1734, dL_law_1735, dL_law_1737, dL_law_1738, dL_law_1739⟩
    | 1, _ => ⟨dL_law_1740, dL_law_1741, dL_law_1743, dL_law_1744, dL_law_1745⟩
    | 2, _ => ⟨dL_law_1746, dL_law_1747, dL_law_1749, dL_law_1750, dL_law_1751⟩
    | t + 3, h => absurd h (by omega)), dL_law_1752, dL_law_1755⟩ ⟨dL_law_1757, dL_law_1758, dL_law_1761, dL_law_1763, dL_law_1768, dL_law_1770, dL_law_1773, dL_law_1774, dL_law_1775, dL_law_1776, (fun _ => ⟨dL_law_1778, dL_law_1779, dL_law_1780⟩), (fun h => by cases h), dL_law_1785, by decide⟩ (by omega) hw hk kk
set_option maxRecDepth 20000 in
set_option maxHeartbeats 4000000 in
theorem lc_chips (C : lw_C p l s m meth c b L xs base tb) (hfl : l.stackTraces = false) {i : Nat} (hi : i + 4 < L) {S : Nat → Nat → Int} (I : kInv S) (hk : k + 1 ≤ 647848 ∧ n + 6 ≤ 7152561)
    (kk : ∀ S', kInv S' → lwK p l e s m below meth c b base D dT (k + 1) (n + 6) (k_W S') (lw5 b base i) 2180 []) : lwK p l e s m below meth c b base D dT k n (k_W S) (lw5 b base i) 1788 [] := by
  have h : kOp m_X5_chips m_X6_chips kIO kIA [vI (xs (i + (0 + 1))).toInt, vI (xs (i + (1 + 1))).toInt] S := op_chips I (kR_t _) (kR_t _)
  have hw := kOp.w (E3 := "java/lang/IllegalArgumentException") h w_X5_chips w_X6_chips (fun _ => ⟨by decide, rfl⟩) (nL := 5) (o := 3) (A := (aS vI (aS vI (aS vR aN (eLR 0)) (eL 1)) (eL 2))) (f := oI2W) (g0 := (fun r => (Int32.ofInt r).toInt)) (fun _ => rfl) (L := vR 0 :: ([vI (xs (i + (0 + 1))).toInt, vI (xs (i + (1 + 1))).toInt] ++ [vR 103])) rfl (fun _ => rfl)
  exact lw_case C hfl (gLT gL_law_X6_thrown) (a := 2) (p0 := 1788) (ix1 := 188) (ix2 := 190) (off := 327) false (g0 := (fun r => (Int32.ofInt r).toInt)) (by funext r; simp) (t_L_chips l hfl) (gLT gL_law_L_chips) rfl (by decide +kernel) ⟨by decide, by decide⟩ (t_X6_chips l hfl) (gLT gL_law_X6_chips) rfl q_X6_chips ⟨by decide, by decide⟩
    ⟨(fun t ht => match t, ht with
    | 0, _ => ⟨dL_law_1789, dL_law_1790, dL_law_1792, dL_law_1793, dL_law_1794⟩
    | 1, _ => ⟨dL_law_1795, dL_law_1796, dL_law_1798, dL_law_1799, dL_law_1800⟩
    | t + 2, h => absurd h (by omega)), dL_law_1788, dL_law_1801, dL_law_1802, dL_law_1805, dL_law_1807, (fun t ht => match t, ht with
    | 0, _ => ⟨dL_law_1808, dL_law_1809, dL_law_1811, dL_law_1812, dL_law_1813⟩
    | 1, _ => ⟨dL_law_1814, dL_law_1815, dL_law_1817, dL_law_1818, dL_law_1819⟩
    | t + 2, h => absurd h (by omega)), dL_law_1820, dL_law_1823⟩ ⟨dL_law_1825, dL_law_1826, dL_law_1829, dL_law_1831, dL_law_1836, dL_law_1838, dL_law_1841, dL_law_1842, dL_law_1843, dL_law_1844, (fun _ => ⟨dL_law_1846, dL_law_1847, dL_law_1848⟩), (fun h => by cases h), dL_law_1853, by decide⟩ (by omega) hw hk kk
set_option maxRecDepth 20000 in
set_option maxHeartbeats 4000000 in
theorem lc_chipsAt (C : lw_C p l s m meth c b L xs base tb) (hfl : l.stackTraces = false) {i : Nat} (hi : i + 4 < L) {S : Nat → Nat → Int} (I : kInv S) (hk : k + 1 ≤ 647848 ∧ n + 6 ≤ 7152561)
    (kk : ∀ S', kInv S' → lwK p l e s m below meth c b base D dT (k + 1) (n + 6) (k_W S') (lw5 b base i) 2180 []) : lwK p l e s m below meth c b base D dT k n (k_W S) (lw5 b base i) 1856 [] := by
  have h : kOp m_X5_chipsAt m_X6_chipsAt kIO "" [vI (xs (i + (0 + 1))).toInt] S := op_chipsAt I (kR_t _)
  have hw := kOp.w (E3 := "java/lang/IndexOutOfBoundsException") h w_X5_chipsAt w_X6_chipsAt (fun h => absurd rfl h) (nL := 4) (o := 2) (A := (aS vI (aS vR aN (eLR 0)) (eL 1))) (f := oI2W) (g0 := (fun r => (Int32.ofInt r).toInt)) (fun _ => rfl) (L := vR 0 :: ([vI (xs (i + (0 + 1))).toInt] ++ [vR 103])) rfl (fun _ => rfl)
  exact lw_case C hfl (gLT gL_law_X6_thrown) (a := 1) (p0 := 1856) (ix1 := 191) (ix2 := 193) (off := 271) false (g0 := (fun r => (Int32.ofInt r).toInt)) (by funext r; simp) (t_L_chipsAt l hfl) (gLT gL_law_L_chipsAt) rfl (by decide +kernel) ⟨by decide, by decide⟩ (t_X6_chipsAt l hfl) (gLT gL_law_X6_chipsAt) rfl q_X6_chipsAt ⟨by decide, by decide⟩
    ⟨(fun t ht => match t, ht with
    | 0, _ => ⟨dL_law_1857, dL_law_1858, dL_law_1860, dL_law_1861, dL_law_1862⟩
    | t + 1, h => absurd h (by omega)), dL_law_1856, dL_law_1863, dL_law_1864, dL_law_1867, dL_law_1869, (fun t ht => match t, ht with
    | 0, _ => ⟨dL_law_1870, dL_law_1871, dL_law_1873, dL_law_1874, dL_law_1875⟩
    | t + 1, h => absurd h (by omega)), dL_law_1876, dL_law_1879⟩ ⟨dL_law_1881, dL_law_1882, dL_law_1885, dL_law_1887, dL_law_1892, dL_law_1894, dL_law_1897, dL_law_1898, dL_law_1899, dL_law_1900, (fun _ => ⟨dL_law_1902, dL_law_1903, dL_law_1904⟩), (fun h => by cases h), dL_law_1909, by decide⟩ (by omega) hw hk kk
set_option maxRecDepth 20000 in
set_option maxHeartbeats 4000000 in
theorem lc_fire (C : lw_C p l s m meth c b L xs base tb) (hfl : l.stackTraces = false) {i : Nat} (hi : i + 4 < L) {S : Nat → Nat → Int} (I : kInv S) (hk : k + 1 ≤ 647848 ∧ n + 6 ≤ 7152561)
    (kk : ∀ S', kInv S' → lwK p l e s m below meth c b base D dT (k + 1) (n + 6) (k_W S') (lw5 b base i) 2180 []) : lwK p l e s m below meth c b base D dT k n (k_W S) (lw5 b base i) 1912 [] := by
  have h : kOp m_X5_fire m_X6_fire kIO kIS [vI (xs (i + (0 + 1))).toInt] S := op_fire I (kR_t _)
  have hw := kOp.w (E3 := "java/lang/IllegalStateException") h w_X5_fire w_X6_fire (fun _ => ⟨by decide, rfl⟩) (nL := 4) (o := 2) (A := (aS vI (aS vR aN (eLR 0)) (eL 1))) (f := oI2W) (g0 := (fun r => (Int32.ofInt r).toInt)) (fun _ => rfl) (L := vR 0 :: ([vI (xs (i + (0 + 1))).toInt] ++ [vR 103])) rfl (fun _ => rfl)
  exact lw_case C hfl (gLT gL_law_X6_thrown) (a := 1) (p0 := 1912) (ix1 := 194) (ix2 := 196) (off := 215) false (g0 := (fun r => (Int32.ofInt r).toInt)) (by funext r; simp) (t_L_fire l hfl) (gLT gL_law_L_fire) rfl (by decide +kernel) ⟨by decide, by decide⟩ (t_X6_fire l hfl) (gLT gL_law_X6_fire) rfl q_X6_fire ⟨by decide, by decide⟩
    ⟨(fun t ht => match t, ht with
    | 0, _ => ⟨dL_law_1913, dL_law_1914, dL_law_1916, dL_law_1917, dL_law_1918⟩
    | t + 1, h => absurd h (by omega)), dL_law_1912, dL_law_1919, dL_law_1920, dL_law_1923, dL_law_1925, (fun t ht => match t, ht with
    | 0, _ => ⟨dL_law_1926, dL_law_1927, dL_law_1929, dL_law_1930, dL_law_1931⟩
    | t + 1, h => absurd h (by omega)), dL_law_1932, dL_law_1935⟩ ⟨dL_law_1937, dL_law_1938, dL_law_1941, dL_law_1943, dL_law_1948, dL_law_1950, dL_law_1953, dL_law_1954, dL_law_1955, dL_law_1956, (fun _ => ⟨dL_law_1958, dL_law_1959, dL_law_1960⟩), (fun h => by cases h), dL_law_1965, by decide⟩ (by omega) hw hk kk
set_option maxRecDepth 20000 in
set_option maxHeartbeats 4000000 in
theorem lc_reduced (C : lw_C p l s m meth c b L xs base tb) (hfl : l.stackTraces = false) {i : Nat} (hi : i + 4 < L) {S : Nat → Nat → Int} (I : kInv S) (hk : k + 1 ≤ 647848 ∧ n + 6 ≤ 7152561)
    (kk : ∀ S', kInv S' → lwK p l e s m below meth c b base D dT (k + 1) (n + 6) (k_W S') (lw5 b base i) 2180 []) : lwK p l e s m below meth c b base D dT k n (k_W S) (lw5 b base i) 1968 [] := by
  have h : kOp m_X5_reduced m_X6_reduced kIO kIS [vI (xs (i + (0 + 1))).toInt, vI (xs (i + (1 + 1))).toInt] S := op_reduced I (kR_t _) (kR_t _)
  have hw := kOp.w (E3 := "java/lang/IllegalStateException") h w_X5_reduced w_X6_reduced (fun _ => ⟨by decide, rfl⟩) (nL := 5) (o := 3) (A := (aS vI (aS vI (aS vR aN (eLR 0)) (eL 1)) (eL 2))) (f := oI2W) (g0 := (fun r => (Int32.ofInt r).toInt)) (fun _ => rfl) (L := vR 0 :: ([vI (xs (i + (0 + 1))).toInt, vI (xs (i + (1 + 1))).toInt] ++ [vR 103])) rfl (fun _ => rfl)
  exact lw_case C hfl (gLT gL_law_X6_thrown) (a := 2) (p0 := 1968) (ix1 := 197) (ix2 := 199) (off := 147) false (g0 := (fun r => (Int32.ofInt r).toInt)) (by funext r; simp) (t_L_reduced l hfl) (gLT gL_law_L_reduced) rfl (by decide +kernel) ⟨by decide, by decide⟩ (t_X6_reduced l hfl) (gLT gL_law_X6_reduced) rfl q_X6_reduced ⟨by decide, by decide⟩
    ⟨(fun t ht => match t, ht with
    | 0, _ => ⟨dL_law_1969, dL_law_1970, dL_law_1972, dL_law_1973, dL_law_1974⟩
    | 1, _ => ⟨dL_law_1975, dL_law_1976, dL_law_1978, dL_law_1979, dL_law_1980⟩
    | t + 2, h => absurd h (by omega)), dL_law_1968, dL_law_1981, dL_law_1982, dL_law_1985, dL_law_1987, (fun t ht => match t, ht with
    | 0, _ => ⟨dL_law_1988, dL_law_1989, dL_law_1991, dL_law_1992, dL_law_1993⟩
    | 1, _ => ⟨dL_law_1994, dL_law_1995, dL_law_1997, dL_law_1998, dL_law_1999⟩
    | t + 2, h => absurd h (by omega)), dL_law_2000, dL_law_2003⟩ ⟨dL_law_2005, dL_law_2006, dL_law_2009, dL_law_2011, dL_law_2016, dL_law_2018, dL_law_2021, dL_law_2022, dL_law_2023, dL_law_2024, (fun _ => ⟨dL_law_2026, dL_law_2027, dL_law_2028⟩), (fun h => by cases h), dL_law_2033, by decide⟩ (by omega) hw hk kk
set_option maxRecDepth 20000 in
set_option maxHeartbeats 4000000 in
theorem lc_rank (C : lw_C p l s m meth c b L xs base tb) (hfl : l.stackTraces = false) {i : Nat} (hi : i + 4 < L) {S : Nat → Nat → Int} (I : kInv S) (hk : k + 1 ≤ 647848 ∧ n + 6 ≤ 7152561)
    (kk : ∀ S', kInv S' → lwK p l e s m below meth c b base D dT (k + 1) (n + 6) (k_W S') (lw5 b base i) 2180 []) : lwK p l e s m below meth c b base D dT k n (k_W S) (lw5 b base i) 2036 [] := by
  have h : kOp m_X5_rank m_X6_rank kIS "" [] S := op_rank I
  have hw := kOp.w (E3 := "java/lang/IllegalStateException") h w_X5_rank w_X6_rank (fun h => absurd rfl h) (nL := 3) (o := 1) (A := (aS vR aN (eLR 0))) (f := oI2W) (g0 := (fun r => (Int32.ofInt r).toInt)) (fun _ => rfl) (L := vR 0 :: ([] ++ [vR 103])) rfl (fun _ => rfl)
  exact lw_case C hfl (gLT gL_law_X6_thrown) (a := 0) (p0 := 2036) (ix1 := 200) (ix2 := 203) (off := 103) false (g0 := (fun r => (Int32.ofInt r).toInt)) (by funext r; simp) (t_L_rank l hfl) (gLT gL_law_L_rank) rfl (by decide +kernel) ⟨by decide, by decide⟩ (t_X6_rank l hfl) (gLT gL_law_X6_rank) rfl q_X6_rank ⟨by decide, by decide⟩
    ⟨(fun t ht => absurd ht (Nat.not_lt_zero t)), dL_law_2036, dL_law_2037, dL_law_2038, dL_law_2041, dL_law_2043, (fun t ht => absurd ht (Nat.not_lt_zero t)), dL_law_2044, dL_law_2047⟩ ⟨dL_law_2049, dL_law_2050, dL_law_2053, dL_law_2055, dL_law_2060, dL_law_2062, dL_law_2065, dL_law_2066, dL_law_2067, dL_law_2068, (fun _ => ⟨dL_law_2070, dL_law_2071, dL_law_2072⟩), (fun h => by cases h), dL_law_2077, by decide⟩ (by omega) hw hk kk
set_option maxRecDepth 20000 in
set_option maxHeartbeats 4000000 in
theorem lc_restRank (C : lw_C p l s m meth c b L xs base tb) (hfl : l.stackTraces = false) {i : Nat} (hi : i + 4 < L) {S : Nat → Nat → Int} (I : kInv S) (hk : k + 1 ≤ 647848 ∧ n + 6 ≤ 7152561)
    (kk : ∀ S', kInv S' → lwK p l e s m below meth c b base D dT (k + 1) (n + 6) (k_W S') (lw5 b base i) 2180 []) : lwK p l e s m below meth c b base D dT k n (k_W S) (lw5 b base i) 2080 [] := by
  have h : kOp m_X5_restRank m_X6_restRank kIS "" [] S := op_restRank I
  have hw := kOp.w (E3 := "java/lang/IllegalStateException") h w_X5_restRank w_X6_restRank (fun h => absurd rfl h) (nL := 3) (o := 1) (A := (aS vR aN (eLR 0))) (f := oI2W) (g0 := (fun r => (Int32.ofInt r).toInt)) (fun _ => rfl) (L := vR 0 :: ([] ++ [vR 103])) rfl (fun _ => rfl)
  exact lw_case C hfl (gLT gL_law_X6_thrown) (a := 0) (p0 := 2080) (ix1 := 204) (ix2 := 206) (off := 59) false (g0 := (fun r => (Int32.ofInt r).toInt)) (by funext r; simp) (t_L_restRank l hfl) (gLT gL_law_L_restRank) rfl (by decide +kernel) ⟨by decide, by decide⟩ (t_X6_restRank l hfl) (gLT gL_law_X6_restRank) rfl q_X6_restRank ⟨by decide, by decide⟩
    ⟨(fun t ht => absurd ht (Nat.not_lt_zero t)), dL_law_2080, dL_law_2081, dL_law_2082, dL_law_2085, dL_law_2087, (fun t ht => absurd ht (Nat.not_lt_zero t)), dL_law_2088, dL_law_2091⟩ ⟨dL_law_2093, dL_law_2094, dL_law_2097, dL_law_2099, dL_law_2104, dL_law_2106, dL_law_2109, dL_law_2110, dL_law_2111, dL_law_2112, (fun _ => ⟨dL_law_2114, dL_law_2115, dL_law_2116⟩), (fun h => by cases h), dL_law_2121, by decide⟩ (by omega) hw hk kk
set_option maxRecDepth 20000 in
set_option maxHeartbeats 4000000 in
theorem lc_graph (C : lw_C p l s m meth c b L xs base tb) (hfl : l.stackTraces = false) {i : Nat} (hi : i + 4 < L) {S : Nat → Nat → Int} (I : kInv S) (hk : k + 1 ≤ 647848 ∧ n + 6 ≤ 7152561)
    (kk : ∀ S', kInv S' → lwK p l e s m below meth c b base D dT (k + 1) (n + 6) (k_W S') (lw5 b base i) 2180 []) : lwK p l e s m below meth c b base D dT k n (k_W S) (lw5 b base i) 2124 [] := by
  have h : kOp m_X5_graph m_X6_graph kIA "" [vI (xs (i + (0 + 1))).toInt] S := op_graph I (kR_t _)
  have hw := kOp.w (E3 := "java/lang/IllegalArgumentException") h w_X5_graph w_X6_graph (fun h => absurd rfl h) (nL := 4) (o := 2) (A := (aS vI (aS vR aN (eLR 0)) (eL 1))) (f := oI2W) (g0 := (fun r => (Int32.ofInt r).toInt)) (fun _ => rfl) (L := vR 0 :: ([vI (xs (i + (0 + 1))).toInt] ++ [vR 103])) rfl (fun _ => rfl)
  exact lw_case C hfl (gLT gL_law_X6_thrown) (a := 1) (p0 := 2124) (ix1 := 207) (ix2 := 209) (off := 3) false (g0 := (fun r => (Int32.ofInt r).toInt)) (by funext r; simp) (t_L_graph l hfl) (gLT gL_law_L_graph) rfl (by decide +kernel) ⟨by decide, by decide⟩ (t_X6_graph l hfl) (gLT gL_law_X6_graph) rfl q_X6_graph ⟨by decide, by decide⟩
    ⟨(fun t ht => match t, ht with
    | 0, _ => ⟨dL_law_2125, dL_law_2126, dL_law_2128, dL_law_2129, dL_law_2130⟩
    | t + 1, h => absurd h (by omega)), dL_law_2124, dL_law_2131, dL_law_2132, dL_law_2135, dL_law_2137, (fun t ht => match t, ht with
    | 0, _ => ⟨dL_law_2138, dL_law_2139, dL_law_2141, dL_law_2142, dL_law_2143⟩
    | t + 1, h => absurd h (by omega)), dL_law_2144, dL_law_2147⟩ ⟨dL_law_2149, dL_law_2150, dL_law_2153, dL_law_2155, dL_law_2160, dL_law_2162, dL_law_2165, dL_law_2166, dL_law_2167, dL_law_2168, (fun _ => ⟨dL_law_2170, dL_law_2171, dL_law_2172⟩), (fun h => by cases h), dL_law_2177, by decide⟩ (by omega) hw hk kk
end LC
