/-! printed by wip/p32/gen: what each method of the law's does, as a function -/
noncomputable def s_L_draw_24 (sc : List Int) : z_St :=
    sRet vI (e2 oRem (e2 oAnd (eL 3) (eC 2147483647)) (eL 2))
noncomputable def b_L_draw (sc : List Int) : z_St :=
    sSeq (sSet vI 3 (eIf (bCmp cLt (eL 1) (eSLen sc (eLS 0))) (eSLd sc (eLS 0) (eL 1)) (e2 oAdd (e2 oMul (eC 1070327761) (e2 oAdd (eL 1) (eC 1151))) (eC 799912421))))
    ((s_L_draw_24 sc))
noncomputable def m_L_draw (sc : List Int) : z_Mt := z_body 4 (b_L_draw sc)
def cn_L_draw : Nat → Nat := fun pc => 0
noncomputable def b_L_plus : z_St :=
    sRet vI (eIf (bOr (bCmp cEq (eL 0) (eC 1000000)) (bCmp cEq (eL 1) (eC 1000000))) (eC 1000000) (e2 oAdd (eL 0) (eL 1)))
noncomputable def m_L_plus : z_Mt := z_body 2 (b_L_plus)
def cn_L_plus : Nat → Nat := fun pc => 0
noncomputable def b_L_lesser : z_St :=
    sRet vI (eIf (bCmp cLt (eL 0) (eL 1)) (eL 0) (eL 1))
noncomputable def m_L_lesser : z_Mt := z_body 2 (b_L_lesser)
def cn_L_lesser : Nat → Nat := fun pc => 0
noncomputable def b_L_asks : z_St :=
    sRet vI (eIf (bCmp cEq (eL 1) (eC 0)) (eCl (m_X5_product) (aS vI (aS vI (aS vI (aS vR (aN) (eLR 0)) (eL 2)) (eL 3)) (eL 4))) (eIf (bCmp cEq (eL 1) (eC 1)) (eCl (m_X5_multiply) (aS vI (aS vI (aS vI (aS vR (aN) (eLR 0)) (eL 2)) (eL 3)) (eL 4))) (eIf (bCmp cEq (eL 1) (eC 2)) (eCl (m_X5_star) (aS vI (aS vI (aS vR (aN) (eLR 0)) (eL 2)) (eL 3))) (eIf (bCmp cEq (eL 1) (eC 3)) (eIf (eClB (m_X5_solve) (aS vI (aS vI (aS vI (aS vR (aN) (eLR 0)) (eL 2)) (eL 3)) (eL 4))) (eC 1) (eC 0)) (eIf (bCmp cEq (eL 1) (eC 4)) (eIf (eClB (m_X5_project) (aS vI (aS vI (aS vI (aS vR (aN) (eLR 0)) (eL 2)) (eL 3)) (eL 4))) (eC 1) (eC 0)) (eIf (bCmp cEq (eL 1) (eC 5)) (eCl (m_X5_rank) (aS vR (aN) (eLR 0))) (eIf (bCmp cEq (eL 1) (eC 6)) (eCl (m_X5_restRank) (aS vR (aN) (eLR 0))) (eIf (bCmp cEq (eL 1) (eC 7)) (eCl (m_X5_reduced) (aS vI (aS vI (aS vR (aN) (eLR 0)) (eL 2)) (eL 3))) (eIf (bCmp cEq (eL 1) (eC 8)) (eCl (m_X5_fire) (aS vI (aS vR (aN) (eLR 0)) (eL 2))) (eCl (m_X5_root) (aS vI (aS vI (aS vI (aS vR (aN) (eLR 0)) (eL 2)) (eL 3)) (eL 4))))))))))))
noncomputable def m_L_asks : z_Mt := z_wb 6 "java/lang/IndexOutOfBoundsException" (-70007) "java/lang/IllegalStateException" (-70008) b_L_asks
noncomputable def s_L_isPoly_131 : z_St :=
    sSet vB 9 (bAnd (eLB 9) (bOr (eLB 11) (bNot (eClB (m_X5_isSpare) (aS vI (aS vI (aS vR (aN) (eLR 0)) (eL 2)) (eL 10))))))
noncomputable def s_L_isPoly_106 : z_St :=
    sSeq (sSet vI 6 (e2 oAdd (eL 6) (eIf (bAnd (eLB 11) (bNot (eClB (m_X5_isSpare) (aS vI (aS vI (aS vR (aN) (eLR 0)) (eL 2)) (eL 10))))) (eC 1) (eC 0))))
    (s_L_isPoly_131)
noncomputable def s_L_isPoly_92 : z_St :=
    sSeq (sSet vI 5 (eIf (eLB 11) (eL 10) (eL 5)))
    (s_L_isPoly_106)
noncomputable def s_L_isPoly_73 : z_St :=
    sSeq (sSet vI 4 (eIf (bAnd (eLB 11) (bCmp cLt (eL 4) (eC 0))) (eL 10) (eL 4)))
    (s_L_isPoly_92)
noncomputable def l_L_isPoly_52 : z_St :=
    sSeq (sSet vB 11 (bCmp cNe (eLd 0 (eLR 1) (e2 oAdd (e2 oMul (eC 9) (eL 2)) (eL 10))) (eC 1000000)))
    (s_L_isPoly_73)
noncomputable def s_L_isPoly_300 : z_St :=
    sSet vI 14 (eCl (m_L_lesser) (aS vI (aS vI (aN) (eL 14)) (eL 17)))
noncomputable def s_L_isPoly_264 : z_St :=
    sSeq (sSet vI 15 (eIf (bCmp cLt (eL 17) (eL 14)) (eC 1) (eIf (bAnd (bCmp cEq (eL 17) (eL 14)) (bCmp cNe (eL 17) (eC 1999999999))) (e2 oAdd (eL 15) (eC 1)) (eL 15))))
    (s_L_isPoly_300)
noncomputable def l_L_isPoly_225 : z_St :=
    sSeq (sSet vI 17 (eIf (bCmp cEq (eLd 0 (eLR 1) (e2 oAdd (e2 oMul (eC 9) (eL 2)) (eL 16))) (eC 1000000)) (eC 1999999999) (e2 oAdd (e2 oMul (eLd 0 (eLR 1) (e2 oAdd (e2 oMul (eC 9) (eL 2)) (eL 16))) (eL 12)) (e2 oMul (eL 16) (eL 11)))))
    (s_L_isPoly_264)
noncomputable def s_L_isPoly_335 : z_St :=
    sSet vB 9 (bAnd (bAnd (bAnd (bAnd (bCmp cGt (eL 12) (eC 0)) (bCmp cGt (eL 13) (eC 0))) (bCmp cEq (e2 oRem (eL 13) (eL 12)) (eC 0))) (bCmp cGt (eL 15) (eC 1))) (bOr (bCmp cEq (eL 10) (eC 0)) (bCmp cLt (e2 oMul (eCl (m_X5_root) (aS vI (aS vI (aS vI (aS vR (aN) (eLR 0)) (eL 2)) (e2 oSub (eL 10) (eC 1))) (eC 0))) (eL 12)) (e2 oMul (eL 11) (eCl (m_X5_root) (aS vI (aS vI (aS vI (aS vR (aN) (eLR 0)) (eL 2)) (e2 oSub (eL 10) (eC 1))) (eC 1)))))))
noncomputable def s_L_isPoly_328 : z_St :=
    sSeq (sSet vI 8 (e2 oAdd (eL 8) (eL 13)))
    (s_L_isPoly_335)
noncomputable def s_L_isPoly_315 : z_St :=
    sSeq (sSet vI 7 (e2 oAdd (eL 7) (e2 oMul (e2 oDiv (eL 13) (eL 12)) (eL 11))))
    (s_L_isPoly_328)
noncomputable def s_L_isPoly_215 : z_St :=
    sSeq (sSeq (sSet vI 16 (eC 0)) (sLoop (bCmp cLt (eL 16) (eC 9))
    (l_L_isPoly_225)
    (sInc 16 (1)) z_fuel))
    (s_L_isPoly_315)
noncomputable def s_L_isPoly_212 : z_St :=
    sSeq (sSet vI 15 (eC 0))
    (s_L_isPoly_215)
noncomputable def s_L_isPoly_208 : z_St :=
    sSeq (sSet vI 14 (eC 1999999999))
    (s_L_isPoly_212)
noncomputable def s_L_isPoly_198 : z_St :=
    sSeq (sSet vI 13 (eCl (m_X5_root) (aS vI (aS vI (aS vI (aS vR (aN) (eLR 0)) (eL 2)) (eL 10)) (eC 2))))
    (s_L_isPoly_208)
noncomputable def s_L_isPoly_188 : z_St :=
    sSeq (sSet vI 12 (eCl (m_X5_root) (aS vI (aS vI (aS vI (aS vR (aN) (eLR 0)) (eL 2)) (eL 10)) (eC 1))))
    (s_L_isPoly_198)
noncomputable def l_L_isPoly_178 : z_St :=
    sSeq (sSet vI 11 (eCl (m_X5_root) (aS vI (aS vI (aS vI (aS vR (aN) (eLR 0)) (eL 2)) (eL 10)) (eC 0))))
    (s_L_isPoly_188)
noncomputable def s_L_isPoly_406 : z_St :=
    sRet vB (bAnd (bAnd (bAnd (eLB 9) (eIf (bCmp cEq (eL 6) (eC 0)) (bAnd (bCmp cEq (eL 3) (eC 0)) (bCmp cLt (eL 4) (eC 0))) (bCmp cEq (eL 3) (e2 oSub (eL 6) (eC 1))))) (bOr (bCmp cLt (eL 4) (eC 0)) (bAnd (bCmp cEq (eL 8) (e2 oSub (eL 5) (eL 4))) (bCmp cEq (eL 7) (e2 oSub (eLd 0 (eLR 1) (e2 oAdd (e2 oMul (eC 9) (eL 2)) (eL 4))) (eLd 0 (eLR 1) (e2 oAdd (e2 oMul (eC 9) (eL 2)) (eL 5)))))))) (eClB (m_X5_areSame) (aS vI (aS vI (aS vR (aN) (eLR 0)) (eL 2)) (eL 2))))
noncomputable def s_L_isPoly_164 : z_St :=
    sSeq (sSeq (sSet vI 10 (eC 0)) (sLoop (bAnd (bCmp cLt (eL 10) (eL 3)) (eLB 9))
    (l_L_isPoly_178)
    (sInc 10 (1)) z_fuel))
    (s_L_isPoly_406)
noncomputable def s_L_isPoly_42 : z_St :=
    sSeq (sSeq (sSet vI 10 (eC 0)) (sLoop (bCmp cLt (eL 10) (eC 9))
    (l_L_isPoly_52)
    (sInc 10 (1)) z_fuel))
    (s_L_isPoly_164)
noncomputable def s_L_isPoly_21 : z_St :=
    sSeq (sSet vB 9 (bCmp cEq (eCl (m_L_asks) (aS vI (aS vI (aS vI (aS vI (aS vR (aN) (eLR 0)) (eC 9)) (eL 2)) (eL 3)) (eC 0))) (eC (-70007))))
    (s_L_isPoly_42)
noncomputable def s_L_isPoly_18 : z_St :=
    sSeq (sSet vI 8 (eC 0))
    (s_L_isPoly_21)
noncomputable def s_L_isPoly_15 : z_St :=
    sSeq (sSet vI 7 (eC 0))
    (s_L_isPoly_18)
noncomputable def s_L_isPoly_12 : z_St :=
    sSeq (sSet vI 6 (eC 0))
    (s_L_isPoly_15)
noncomputable def s_L_isPoly_9 : z_St :=
    sSeq (sSet vI 5 (eC (-1)))
    (s_L_isPoly_12)
noncomputable def s_L_isPoly_6 : z_St :=
    sSeq (sSet vI 4 (eC (-1)))
    (s_L_isPoly_9)
noncomputable def b_L_isPoly : z_St :=
    sSeq (sSet vI 3 (eCl (m_X5_roots) (aS vI (aS vR (aN) (eLR 0)) (eL 2))))
    (s_L_isPoly_6)
noncomputable def m_L_isPoly : z_Mt := z_body 18 (b_L_isPoly)
def cn_L_isPoly : Nat → Nat := fun pc => if pc ≤ 27 then 0 else 1
noncomputable def l_L_valueOf_13 : z_St :=
    sSet vI 3 (eIf (bCmp cEq (eLd 0 (eLR 0) (e2 oAdd (e2 oMul (eC 9) (eL 1)) (eL 4))) (eC 1000000)) (eL 3) (eCl (m_L_lesser) (aS vI (aS vI (aN) (eL 3)) (e2 oAdd (eLd 0 (eLR 0) (e2 oAdd (e2 oMul (eC 9) (eL 1)) (eL 4))) (e2 oMul (eL 4) (eL 2))))))
noncomputable def s_L_valueOf_56 : z_St :=
    sRet vI (eL 3)
noncomputable def s_L_valueOf_3 : z_St :=
    sSeq (sSeq (sSet vI 4 (eC 0)) (sLoop (bCmp cLt (eL 4) (eC 9))
    (l_L_valueOf_13)
    (sInc 4 (1)) z_fuel))
    (s_L_valueOf_56)
noncomputable def b_L_valueOf : z_St :=
    sSeq (sSet vI 3 (eC 1000000))
    (s_L_valueOf_3)
noncomputable def m_L_valueOf : z_Mt := z_body 5 (b_L_valueOf)
def cn_L_valueOf : Nat → Nat := fun pc => 0
noncomputable def s_L_polys_125 : z_St :=
    sRet vB (bCmp cEq (eCl (m_X5_coefficient) (aS vI (aS vI (aS vI (aS vR (aN) (eLR 0)) (eL 5)) (eL 9)) (eL 10))) (eL 11))
noncomputable def s_L_polys_113 : z_St :=
    sSeq (sASt 0 (eLR 3) (e2 oAdd (e2 oMul (eC 9) (eL 5)) (eL 9)) (eL 10))
    (s_L_polys_125)
noncomputable def s_L_polys_101 : z_St :=
    sSeq (sSet vI 11 (eLd 0 (eLR 3) (e2 oAdd (e2 oMul (eC 9) (eL 5)) (eL 9))))
    (s_L_polys_113)
noncomputable def s_L_polys_51 : z_St :=
    sSeq (sSet vI 10 (eIf (bCmp cEq (e2 oRem (e2 oDiv (eL 2) (eC 9)) (eC 5)) (eC 0)) (eC 1000000) (e2 oAdd (e2 oSub (e2 oRem (e2 oDiv (eL 2) (eC 45)) (eC 41)) (eC 20)) (eIf (bCmp cEq (e2 oRem (e2 oDiv (eL 2) (eC 2000)) (eC 9)) (eC 0)) (e2 oMul (e2 oMul (eC 7) (eL 9)) (eL 9)) (eC 0)))))
    (s_L_polys_101)
noncomputable def s_L_polys_227 : z_St :=
    sASt 0 (eLR 3) (e2 oAdd (eC 36) (eL 12)) (eL 13)
noncomputable def s_L_polys_210 : z_St :=
    sSeq (sSet vI 9 (e2 oAdd (eL 9) (eIf (bCmp cEq (eL 13) (eC 1000000)) (eC 0) (eC 1))))
    (s_L_polys_227)
noncomputable def l_L_polys_185 : z_St :=
    sSeq (sSet vI 13 (eCl (m_L_lesser) (aS vI (aS vI (aN) (eLd 0 (eLR 3) (e2 oAdd (e2 oMul (eC 9) (eL 5)) (eL 12)))) (eLd 0 (eLR 3) (e2 oAdd (e2 oMul (eC 9) (eL 6)) (eL 12))))))
    (s_L_polys_210)
noncomputable def l_L_polys_252 : z_St :=
    sASt 0 (eLR 3) (e2 oAdd (e2 oMul (eC 9) (eL 7)) (eL 12)) (eLd 0 (eLR 3) (e2 oAdd (eC 36) (eL 12)))
noncomputable def s_L_polys_275 : z_St :=
    sRet vB (bAnd (bCmp cEq (eCl (m_X5_sum) (aS vI (aS vI (aS vI (aS vR (aN) (eLR 0)) (eL 5)) (eL 6)) (eL 7))) (eL 9)) (bCmp cEq (eCl (m_X5_value) (aS vI (aS vI (aS vR (aN) (eLR 0)) (eL 7)) (eL 8))) (eCl (m_L_lesser) (aS vI (aS vI (aN) (eL 10)) (eL 11)))))
noncomputable def s_L_polys_242 : z_St :=
    sSeq (sSeq (sSet vI 12 (eC 0)) (sLoop (bCmp cLt (eL 12) (eC 9))
    (l_L_polys_252)
    (sInc 12 (1)) z_fuel))
    (s_L_polys_275)
noncomputable def s_L_polys_175 : z_St :=
    sSeq (sSeq (sSet vI 12 (eC 0)) (sLoop (bCmp cLt (eL 12) (eC 9))
    (l_L_polys_185)
    (sInc 12 (1)) z_fuel))
    (s_L_polys_242)
noncomputable def s_L_polys_165 : z_St :=
    sSeq (sSet vI 11 (eCl (m_X5_value) (aS vI (aS vI (aS vR (aN) (eLR 0)) (eL 6)) (eL 8))))
    (s_L_polys_175)
noncomputable def s_L_polys_155 : z_St :=
    sSeq (sSet vI 10 (eCl (m_X5_value) (aS vI (aS vI (aS vR (aN) (eLR 0)) (eL 5)) (eL 8))))
    (s_L_polys_165)
noncomputable def l_L_polys_357 : z_St :=
    sASt 0 (eLR 3) (eL 13) (eC 1000000)
noncomputable def s_L_polys_395 : z_St :=
    sASt 0 (eLR 3) (eL 14) (eCl (m_L_lesser) (aS vI (aS vI (aN) (eLd 0 (eLR 3) (eL 14))) (eCl (m_L_plus) (aS vI (aS vI (aN) (eLd 0 (eLR 3) (e2 oAdd (e2 oMul (eC 9) (eL 5)) (e2 oDiv (eL 13) (eC 9))))) (eLd 0 (eLR 3) (e2 oAdd (e2 oMul (eC 9) (eL 6)) (e2 oRem (eL 13) (eC 9))))))))
noncomputable def l_L_polys_379 : z_St :=
    sSeq (sSet vI 14 (e2 oAdd (e2 oAdd (eC 36) (e2 oDiv (eL 13) (eC 9))) (e2 oRem (eL 13) (eC 9))))
    (s_L_polys_395)
noncomputable def s_L_polys_512 : z_St :=
    sSet vI 9 (e2 oAdd (eL 9) (eIf (bCmp cEq (eLd 0 (eLR 3) (eL 13)) (eC 1000000)) (eC 0) (eC 1)))
noncomputable def l_L_polys_452 : z_St :=
    sSeq (sSet vB 12 (bAnd (eLB 12) (eIf (bCmp cLt (eL 13) (eC 45)) (bOr (bCmp cEq (eLd 0 (eLR 3) (eL 13)) (eC 1000000)) (bAnd (bCmp cGe (eLd 0 (eLR 3) (eL 13)) (eC (-9999))) (bCmp cLe (eLd 0 (eLR 3) (eL 13)) (eC 9999)))) (bCmp cEq (eLd 0 (eLR 3) (eL 13)) (eC 1000000)))))
    (s_L_polys_512)
noncomputable def l_L_polys_552 : z_St :=
    sASt 0 (eLR 3) (e2 oAdd (e2 oMul (eC 9) (eL 7)) (eL 13)) (eLd 0 (eLR 3) (e2 oAdd (eC 36) (eL 13)))
noncomputable def s_L_polys_575 : z_St :=
    sRet vB (bAnd (bCmp cEq (eCl (m_L_asks) (aS vI (aS vI (aS vI (aS vI (aS vR (aN) (eLR 0)) (eC 0)) (eL 5)) (eL 6)) (eL 7))) (eIf (eLB 12) (eL 9) (eC (-70008)))) (bOr (bNot (eLB 12)) (bCmp cEq (eCl (m_X5_value) (aS vI (aS vI (aS vR (aN) (eLR 0)) (eL 7)) (eL 8))) (eCl (m_L_plus) (aS vI (aS vI (aN) (eL 10)) (eL 11))))))
noncomputable def s_L_polys_537 : z_St :=
    sSeq (sSeq (sSet vI 13 (eC 0)) (sLoop (bAnd (bCmp cLt (eL 13) (eC 9)) (eLB 12))
    (l_L_polys_552)
    (sInc 13 (1)) z_fuel))
    (s_L_polys_575)
noncomputable def s_L_polys_441 : z_St :=
    sSeq (sSeq (sSet vI 13 (eC 36)) (sLoop (bCmp cLt (eL 13) (eC 53))
    (l_L_polys_452)
    (sInc 13 (1)) z_fuel))
    (s_L_polys_537)
noncomputable def s_L_polys_369 : z_St :=
    sSeq (sSeq (sSet vI 13 (eC 0)) (sLoop (bCmp cLt (eL 13) (eC 81))
    (l_L_polys_379)
    (sInc 13 (1)) z_fuel))
    (s_L_polys_441)
noncomputable def s_L_polys_346 : z_St :=
    sSeq (sSeq (sSet vI 13 (eC 36)) (sLoop (bCmp cLt (eL 13) (eC 53))
    (l_L_polys_357)
    (sInc 13 (1)) z_fuel))
    (s_L_polys_369)
noncomputable def s_L_polys_343 : z_St :=
    sSeq (sSet vB 12 (eCB true))
    (s_L_polys_346)
noncomputable def s_L_polys_333 : z_St :=
    sSeq (sSet vI 11 (eCl (m_X5_value) (aS vI (aS vI (aS vR (aN) (eLR 0)) (eL 6)) (eL 8))))
    (s_L_polys_343)
noncomputable def s_L_polys_323 : z_St :=
    sSeq (sSet vI 10 (eCl (m_X5_value) (aS vI (aS vI (aS vR (aN) (eLR 0)) (eL 5)) (eL 8))))
    (s_L_polys_333)
noncomputable def l_L_polys_776 : z_St :=
    sASt 0 (eLR 3) (e2 oAdd (e2 oMul (eC 9) (eL 6)) (eL 14)) (eIf (bCmp cEq (eL 14) (eL 11)) (eC 1000000) (eLd 0 (eLR 3) (e2 oAdd (e2 oMul (eC 9) (eL 5)) (eL 14))))
noncomputable def s_L_polys_814 : z_St :=
    sRet vB (bAnd (bAnd (bAnd (bAnd (bOr (bNot (eLB 9)) (eLB 10)) (eClB (m_X5_areSame) (aS vI (aS vI (aS vR (aN) (eLR 0)) (eL 5)) (eL 6)))) (eClB (m_X5_areSame) (aS vI (aS vI (aS vR (aN) (eLR 0)) (eL 6)) (eL 5)))) (bCmp cEq (eCl (m_X5_value) (aS vI (aS vI (aS vR (aN) (eLR 0)) (eL 6)) (eL 8))) (eL 13))) (bCmp cEq (eCl (m_X5_roots) (aS vI (aS vR (aN) (eLR 0)) (eL 5))) (eCl (m_X5_roots) (aS vI (aS vR (aN) (eLR 0)) (eL 6)))))
noncomputable def s_L_polys_766 : z_St :=
    sSeq (sSeq (sSet vI 14 (eC 0)) (sLoop (bCmp cLt (eL 14) (eC 9))
    (l_L_polys_776)
    (sInc 14 (1)) z_fuel))
    (s_L_polys_814)
noncomputable def s_L_polys_755 : z_St :=
    sSeq (sPop (eCl (m_X5_coefficient) (aS vI (aS vI (aS vI (aS vR (aN) (eLR 0)) (eL 6)) (eL 11)) (eC 1000000))))
    (s_L_polys_766)
noncomputable def s_L_polys_880 : z_St :=
    sRet vB (bAnd (bOr (bNot (eLB 9)) (eLB 10)) (bCmp cEq (eL 13) (eCl (m_L_valueOf) (aS vI (aS vI (aS vR (aN) (eLR 3)) (eL 5)) (eL 8)))))
noncomputable def s_L_polys_732 : z_St :=
    sSeq (sIf (bAnd (eLB 12) (bCmp cNe (eL 5) (eL 6))) (sSeq (sPop (eCl (m_X5_sum) (aS vI (aS vI (aS vI (aS vR (aN) (eLR 0)) (eL 5)) (eL 5)) (eL 6))))
    (s_L_polys_755)) sNop)
    (s_L_polys_880)
noncomputable def s_L_polys_722 : z_St :=
    sSeq (sSet vI 13 (eCl (m_X5_value) (aS vI (aS vI (aS vR (aN) (eLR 0)) (eL 5)) (eL 8))))
    (s_L_polys_732)
noncomputable def s_L_polys_712 : z_St :=
    sSeq (sSet vB 12 (eClB (m_X5_isSpare) (aS vI (aS vI (aS vR (aN) (eLR 0)) (eL 5)) (eL 11))))
    (s_L_polys_722)
noncomputable def s_L_polys_702 : z_St :=
    sSeq (sSet vI 11 (e2 oRem (e2 oDiv (eL 2) (eC 2000)) (eC 9)))
    (s_L_polys_712)
noncomputable def s_L_polys_640 : z_St :=
    sSeq (sSet vB 10 (bAnd (bAnd (bCmp cEq (eCl (m_X5_value) (aS vI (aS vI (aS vR (aN) (eLR 0)) (eL 5)) (eL 8))) (eCl (m_X5_value) (aS vI (aS vI (aS vR (aN) (eLR 0)) (eL 6)) (eL 8)))) (bCmp cEq (eCl (m_X5_value) (aS vI (aS vI (aS vR (aN) (eLR 0)) (eL 5)) (eC 0))) (eCl (m_X5_value) (aS vI (aS vI (aS vR (aN) (eLR 0)) (eL 6)) (eC 0))))) (bCmp cEq (eCl (m_X5_value) (aS vI (aS vI (aS vR (aN) (eLR 0)) (eL 5)) (eC 7))) (eCl (m_X5_value) (aS vI (aS vI (aS vR (aN) (eLR 0)) (eL 6)) (eC 7))))))
    (s_L_polys_702)
noncomputable def s_L_polys_630 : z_St :=
    sSeq (sSet vB 9 (eClB (m_X5_areSame) (aS vI (aS vI (aS vR (aN) (eLR 0)) (eL 5)) (eL 6))))
    (s_L_polys_640)
noncomputable def s_L_polys_314 : z_St :=
    sSeq (sIf (bCmp cEq (eL 4) (eC 3)) (sSeq (sSet vI 9 (eC 0))
    (s_L_polys_323)) sNop)
    (s_L_polys_630)
noncomputable def s_L_polys_146 : z_St :=
    sSeq (sIf (bCmp cEq (eL 4) (eC 2)) (sSeq (sSet vI 9 (eC 0))
    (s_L_polys_155)) sNop)
    (s_L_polys_314)
noncomputable def s_L_polys_39 : z_St :=
    sSeq (sIf (bCmp cLt (eL 4) (eC 2)) (sSeq (sSet vI 9 (e2 oRem (eL 2) (eC 9)))
    (s_L_polys_51)) sNop)
    (s_L_polys_146)
noncomputable def s_L_polys_28 : z_St :=
    sSeq (sSet vI 8 (e2 oSub (e2 oRem (eL 2) (eC 1999)) (eC 999)))
    (s_L_polys_39)
noncomputable def s_L_polys_20 : z_St :=
    sSeq (sSet vI 7 (e2 oRem (e2 oDiv (eL 1) (eC 80)) (eC 4)))
    (s_L_polys_28)
noncomputable def s_L_polys_12 : z_St :=
    sSeq (sSet vI 6 (e2 oRem (e2 oDiv (eL 1) (eC 20)) (eC 4)))
    (s_L_polys_20)
noncomputable def s_L_polys_5 : z_St :=
    sSeq (sSet vI 5 (e2 oRem (e2 oDiv (eL 1) (eC 5)) (eC 4)))
    (s_L_polys_12)
noncomputable def b_L_polys : z_St :=
    sSeq (sSet vI 4 (e2 oRem (eL 1) (eC 5)))
    (s_L_polys_5)
noncomputable def m_L_polys : z_Mt := z_body 15 (b_L_polys)
def cn_L_polys : Nat → Nat := fun pc => if pc ≤ 583 then 0 else 1
noncomputable def s_L_fills_31 (sc : List Int) : z_St :=
    sPop (eCl (m_X5_entry) (aS vI (aS vI (aS vI (aS vI (aS vR (aN) (eLR 0)) (eL 1)) (e2 oDiv (eL 7) (eL 2))) (e2 oRem (eL 7) (eL 2))) (eIf (bCmp cEq (e2 oRem (eL 8) (eC 4)) (eC 0)) (eC 1000000) (e2 oAdd (eL 5) (e2 oRem (e2 oDiv (eL 8) (eC 4)) (eL 6))))))
noncomputable def l_L_fills_18 (sc : List Int) : z_St :=
    sSeq (sSet vI 8 (eCl ((m_L_draw sc)) (aS vI (aS vI (aS wS (aN) (eLS 3)) (e2 oAdd (eL 4) (eL 7))) (eC 1048576))))
    ((s_L_fills_31 sc))
noncomputable def s_L_fills_7 (sc : List Int) : z_St :=
    sSeq (sSet vI 7 (eC 0)) (sLoop (bCmp cLt (eL 7) (e2 oMul (eL 2) (eL 2)))
    ((l_L_fills_18 sc))
    (sInc 7 (1)) z_fuel)
noncomputable def b_L_fills (sc : List Int) : z_St :=
    sSeq (sSeq (sPop (eCl (m_X5_matrix) (aS vI (aS vI (aS vR (aN) (eLR 0)) (eL 1)) (eL 2))))
    ((s_L_fills_7 sc)))
    (sRetV)
noncomputable def m_L_fills (sc : List Int) : z_Mt := z_body 9 (b_L_fills sc)
def cn_L_fills : Nat → Nat := fun pc => 0
noncomputable def l_L_isLike_14 : z_St :=
    sSet vB 4 (bAnd (eLB 4) (bCmp cEq (eCl (m_X5_at) (aS vI (aS vI (aS vI (aS vR (aN) (eLR 0)) (eL 1)) (e2 oDiv (eL 5) (eL 3))) (e2 oRem (eL 5) (eL 3)))) (eCl (m_X5_at) (aS vI (aS vI (aS vI (aS vR (aN) (eLR 0)) (eL 2)) (e2 oDiv (eL 5) (eL 3))) (e2 oRem (eL 5) (eL 3))))))
noncomputable def s_L_isLike_61 : z_St :=
    sRet vB (eLB 4)
noncomputable def s_L_isLike_3 : z_St :=
    sSeq (sSeq (sSet vI 5 (eC 0)) (sLoop (bCmp cLt (eL 5) (e2 oMul (eL 3) (eL 3)))
    (l_L_isLike_14)
    (sInc 5 (1)) z_fuel))
    (s_L_isLike_61)
noncomputable def b_L_isLike : z_St :=
    sSeq (sSet vB 4 (eCB true))
    (s_L_isLike_3)
noncomputable def m_L_isLike : z_Mt := z_body 6 (b_L_isLike)
def cn_L_isLike : Nat → Nat := fun pc => 0
noncomputable def l_L_matrices_334 (sc : List Int) : z_St :=
    sSet vB 6 (bAnd (bCmp cLe (eCl (m_X5_at) (aS vI (aS vI (aS vI (aS vR (aN) (eLR 0)) (eC 1)) (e2 oDiv (eL 10) (eL 3))) (e2 oRem (eL 10) (eL 3)))) (eCl (m_X5_at) (aS vI (aS vI (aS vI (aS vR (aN) (eLR 0)) (eC 0)) (e2 oDiv (eL 10) (eL 3))) (e2 oRem (eL 10) (eL 3))))) (bOr (bCmp cNe (e2 oDiv (eL 10) (eL 3)) (e2 oRem (eL 10) (eL 3))) (bCmp cEq (eCl (m_X5_at) (aS vI (aS vI (aS vI (aS vR (aN) (eLR 0)) (eC 1)) (e2 oDiv (eL 10) (eL 3))) (e2 oDiv (eL 10) (eL 3)))) (eC 0))))
noncomputable def s_L_matrices_403 (sc : List Int) : z_St :=
    sRet vB (eLB 6)
noncomputable def s_L_matrices_318 (sc : List Int) : z_St :=
    sSeq (sSeq (sSet vI 10 (eC 0)) (sLoop (bAnd (bCmp cLt (eL 10) (e2 oMul (eL 3) (eL 3))) (eLB 6))
    ((l_L_matrices_334 sc))
    (sInc 10 (1)) z_fuel))
    ((s_L_matrices_403 sc))
noncomputable def s_L_matrices_228 (sc : List Int) : z_St :=
    sSeq (sSet vB 6 (bAnd (bAnd (bAnd (bAnd (bAnd (bAnd (bAnd (bAnd (eLB 6) (bCmp cGe (eL 7) (eC 0))) (bCmp cEq (eCl (m_L_asks) (aS vI (aS vI (aS vI (aS vI (aS vR (aN) (eLR 0)) (eC 1)) (eC 1)) (eC 1)) (eC 3))) (eL 9))) (eClB (m_L_isLike) (aS vI (aS vI (aS vI (aS vR (aN) (eLR 0)) (eC 1)) (eC 3)) (eL 3)))) (bCmp cEq (eCl (m_L_asks) (aS vI (aS vI (aS vI (aS vI (aS vR (aN) (eLR 0)) (eC 2)) (eC 1)) (eC 3)) (eC 0))) (eL 9))) (eClB (m_L_isLike) (aS vI (aS vI (aS vI (aS vR (aN) (eLR 0)) (eC 1)) (eC 3)) (eL 3)))) (bCmp cEq (eCl (m_X5_mean) (aS vI (aS vI (aS vR (aN) (eLR 0)) (eC 1)) (eC 0))) (eC 0))) (bCmp cEq (eCl (m_X5_mean) (aS vI (aS vI (aS vR (aN) (eLR 0)) (eC 1)) (eC 1))) (eC 1))) (bCmp cEq (eCl (m_X5_determinant) (aS vI (aS vR (aN) (eLR 0)) (eC 1))) (eC 0))))
    ((s_L_matrices_318 sc))
noncomputable def s_L_matrices_197 (sc : List Int) : z_St :=
    sSeq (sIf (bOr (bCmp cLt (eL 9) (eC 0)) (bNot (eLB 6))) (sRet vB (bAnd (bAnd (eLB 6) (bCmp cLt (eL 7) (eC 0))) (bCmp cGt (eL 8) (eC 0)))) sNop)
    ((s_L_matrices_228 sc))
noncomputable def s_L_matrices_187 (sc : List Int) : z_St :=
    sSeq (sSet vI 9 (eCl (m_L_asks) (aS vI (aS vI (aS vI (aS vI (aS vR (aN) (eLR 0)) (eC 2)) (eC 0)) (eC 1)) (eC 0))))
    ((s_L_matrices_197 sc))
noncomputable def s_L_matrices_179 (sc : List Int) : z_St :=
    sSeq (sSet vI 8 (eCl (m_X5_mean) (aS vI (aS vI (aS vR (aN) (eLR 0)) (eC 0)) (eC 1))))
    ((s_L_matrices_187 sc))
noncomputable def s_L_matrices_171 (sc : List Int) : z_St :=
    sSeq (sSet vI 7 (eCl (m_X5_mean) (aS vI (aS vI (aS vR (aN) (eLR 0)) (eC 0)) (eC 0))))
    ((s_L_matrices_179 sc))
noncomputable def s_L_matrices_67 (sc : List Int) : z_St :=
    sSeq (sSet vB 6 (bAnd (bAnd (bAnd (bAnd (bAnd (bAnd (bCmp cGe (eCl (m_L_asks) (aS vI (aS vI (aS vI (aS vI (aS vR (aN) (eLR 0)) (eC 1)) (eC 0)) (eC 1)) (eC 3))) (eC 0)) (bCmp cLe (eCl (m_X5_determinant) (aS vI (aS vR (aN) (eLR 0)) (eC 3))) (eCl (m_L_plus) (aS vI (aS vI (aN) (eL 4)) (eL 5))))) (bCmp cGe (eCl (m_L_asks) (aS vI (aS vI (aS vI (aS vI (aS vR (aN) (eLR 0)) (eC 1)) (eC 3)) (eC 2)) (eC 3))) (eC 0))) (bCmp cGe (eCl (m_L_asks) (aS vI (aS vI (aS vI (aS vI (aS vR (aN) (eLR 0)) (eC 1)) (eC 1)) (eC 2)) (eC 1))) (eC 0))) (bCmp cGe (eCl (m_L_asks) (aS vI (aS vI (aS vI (aS vI (aS vR (aN) (eLR 0)) (eC 1)) (eC 0)) (eC 1)) (eC 1))) (eC 0))) (eClB (m_L_isLike) (aS vI (aS vI (aS vI (aS vR (aN) (eLR 0)) (eC 1)) (eC 3)) (eL 3)))) (bCmp cEq (eBI (bCmp cEq (eL 4) (eC 1000000))) (eBI (bCmp cEq (eCl (m_X5_ways) (aS vI (aS vR (aN) (eLR 0)) (eC 0))) (eC 0))))))
    ((s_L_matrices_171 sc))
noncomputable def s_L_matrices_60 (sc : List Int) : z_St :=
    sSeq (sSet vI 5 (eCl (m_X5_determinant) (aS vI (aS vR (aN) (eLR 0)) (eC 1))))
    ((s_L_matrices_67 sc))
noncomputable def s_L_matrices_53 (sc : List Int) : z_St :=
    sSeq (sSet vI 4 (eCl (m_X5_determinant) (aS vI (aS vR (aN) (eLR 0)) (eC 0))))
    ((s_L_matrices_60 sc))
noncomputable def s_L_matrices_38 (sc : List Int) : z_St :=
    sSeq (sCl ((m_L_fills sc)) (aS vI (aS vI (aS vI (aS wS (aS vI (aS vI (aS vR (aN) (eLR 0)) (eC 2)) (eL 3)) (eLS 1)) (e2 oAdd (eL 2) (eC 51))) (eC (-3))) (eC 9)))
    ((s_L_matrices_53 sc))
noncomputable def s_L_matrices_23 (sc : List Int) : z_St :=
    sSeq (sCl ((m_L_fills sc)) (aS vI (aS vI (aS vI (aS wS (aS vI (aS vI (aS vR (aN) (eLR 0)) (eC 1)) (eL 3)) (eLS 1)) (e2 oAdd (eL 2) (eC 26))) (eC (-20))) (eC 60)))
    ((s_L_matrices_38 sc))
noncomputable def s_L_matrices_9 (sc : List Int) : z_St :=
    sSeq (sCl ((m_L_fills sc)) (aS vI (aS vI (aS vI (aS wS (aS vI (aS vI (aS vR (aN) (eLR 0)) (eC 0)) (eL 3)) (eLS 1)) (e2 oAdd (eL 2) (eC 1))) (eC (-6))) (eC 40)))
    ((s_L_matrices_23 sc))
noncomputable def b_L_matrices (sc : List Int) : z_St :=
    sSeq (sSet vI 3 (e2 oAdd (eC 1) (eCl ((m_L_draw sc)) (aS vI (aS vI (aS wS (aN) (eLS 1)) (eL 2)) (eC 5)))))
    ((s_L_matrices_9 sc))
noncomputable def m_L_matrices (sc : List Int) : z_Mt := z_body 11 (b_L_matrices sc)
def cn_L_matrices : Nat → Nat := fun pc => if pc ≤ 72 then 0 else if pc ≤ 98 then 1 else if pc ≤ 109 then 2 else if pc ≤ 120 then 3 else if pc ≤ 192 then 4 else if pc ≤ 243 then 5 else if pc ≤ 266 then 6 else 7
noncomputable def l_L_vectors_44 (sc : List Int) : z_St :=
    sPop (eCl (m_X5_entry) (aS vI (aS vI (aS vI (aS vI (aS vR (aN) (eLR 0)) (eC 1)) (e2 oDiv (eL 5) (eL 3))) (e2 oRem (eL 5) (eL 3))) (e2 oSub (e2 oRem (e2 oDiv (eCl ((m_L_draw sc)) (aS vI (aS vI (aS wS (aN) (eLS 1)) (e2 oAdd (e2 oAdd (eL 2) (eC 1)) (eL 5))) (eC 1048576))) (eC 4)) (eC 70)) (eC 30))))
noncomputable def s_L_vectors_119 (sc : List Int) : z_St :=
    sPop (eCl (m_X5_part) (aS vI (aS vI (aS vI (aS vR (aN) (eLR 0)) (eC 1)) (eL 5)) (eC 7)))
noncomputable def l_L_vectors_93 (sc : List Int) : z_St :=
    sSeq (sPop (eCl (m_X5_part) (aS vI (aS vI (aS vI (aS vR (aN) (eLR 0)) (eC 0)) (eL 5)) (e2 oSub (eCl ((m_L_draw sc)) (aS vI (aS vI (aS wS (aN) (eLS 1)) (e2 oAdd (e2 oAdd (eL 2) (eC 26)) (eL 5))) (eC 1999))) (eC 999)))))
    ((s_L_vectors_119 sc))
noncomputable def l_L_vectors_170 (sc : List Int) : z_St :=
    sSet vI 8 (eCl (m_L_lesser) (aS vI (aS vI (aN) (eL 8)) (eCl (m_L_plus) (aS vI (aS vI (aN) (eCl (m_X5_at) (aS vI (aS vI (aS vI (aS vR (aN) (eLR 0)) (eC 0)) (eL 7)) (eL 9)))) (eCl (m_X5_partAt) (aS vI (aS vI (aS vR (aN) (eLR 0)) (eC 1)) (eL 9)))))))
noncomputable def s_L_vectors_226 (sc : List Int) : z_St :=
    sSet vB 6 (bAnd (eLB 6) (bCmp cEq (eL 8) (eCl (m_X5_partAt) (aS vI (aS vI (aS vR (aN) (eLR 0)) (eC 0)) (eL 7)))))
noncomputable def s_L_vectors_202 (sc : List Int) : z_St :=
    sSeq (sSet vB 4 (bAnd (eLB 4) (bCmp cGe (eL 8) (eCl (m_X5_partAt) (aS vI (aS vI (aS vR (aN) (eLR 0)) (eC 0)) (eL 7))))))
    ((s_L_vectors_226 sc))
noncomputable def s_L_vectors_161 (sc : List Int) : z_St :=
    sSeq (sSeq (sSet vI 9 (eC 0)) (sLoop (bCmp cLt (eL 9) (eL 3))
    ((l_L_vectors_170 sc))
    (sInc 9 (1)) z_fuel))
    ((s_L_vectors_202 sc))
noncomputable def l_L_vectors_157 (sc : List Int) : z_St :=
    sSeq (sSet vI 8 (eC 1000000))
    ((s_L_vectors_161 sc))
noncomputable def l_L_vectors_265 (sc : List Int) : z_St :=
    sSet vB 4 (bAnd (eLB 4) (bCmp cEq (eCl (m_X5_partAt) (aS vI (aS vI (aS vR (aN) (eLR 0)) (eC 1)) (eL 7))) (eC 7)))
noncomputable def s_L_vectors_352 (sc : List Int) : z_St :=
    sSet vB 4 (bAnd (bAnd (eLB 4) (bCmp cGe (eCl (m_X5_partAt) (aS vI (aS vI (aS vR (aN) (eLR 0)) (eC 2)) (eL 8))) (eCl (m_X5_partAt) (aS vI (aS vI (aS vR (aN) (eLR 0)) (eC 0)) (eL 8))))) (bCmp cLt (eCl (m_X5_partAt) (aS vI (aS vI (aS vR (aN) (eLR 0)) (eC 0)) (eL 8))) (eC 1000)))
noncomputable def l_L_vectors_323 (sc : List Int) : z_St :=
    sSeq (sSet vB 7 (bAnd (eLB 7) (bCmp cEq (eCl (m_X5_partAt) (aS vI (aS vI (aS vR (aN) (eLR 0)) (eC 2)) (eL 8))) (eCl (m_X5_partAt) (aS vI (aS vI (aS vR (aN) (eLR 0)) (eC 0)) (eL 8))))))
    ((s_L_vectors_352 sc))
noncomputable def s_L_vectors_400 (sc : List Int) : z_St :=
    sRet vB (bAnd (bAnd (bAnd (bAnd (eLB 4) (bCmp cEq (eL 5) (eIf (eLB 6) (eC 1) (eC 0)))) (bCmp cEq (eBI (eLB 7)) (eBI (bCmp cEq (eCl (m_L_asks) (aS vI (aS vI (aS vI (aS vI (aS vR (aN) (eLR 0)) (eC 4)) (eC 1)) (eC 0)) (eC 3))) (eC 1))))) (bCmp cEq (eCl (m_L_asks) (aS vI (aS vI (aS vI (aS vI (aS vR (aN) (eLR 0)) (eC 4)) (eC 1)) (eC 2)) (eC 3))) (eC 1))) (bCmp cEq (eCl (m_X5_partAt) (aS vI (aS vI (aS vR (aN) (eLR 0)) (eC 3)) (e2 oSub (eL 3) (eC 1)))) (eCl (m_X5_partAt) (aS vI (aS vI (aS vR (aN) (eLR 0)) (eC 2)) (e2 oSub (eL 3) (eC 1))))))
noncomputable def s_L_vectors_314 (sc : List Int) : z_St :=
    sSeq (sSeq (sSet vI 8 (eC 0)) (sLoop (bCmp cLt (eL 8) (eL 3))
    ((l_L_vectors_323 sc))
    (sInc 8 (1)) z_fuel))
    ((s_L_vectors_400 sc))
noncomputable def s_L_vectors_295 (sc : List Int) : z_St :=
    sSeq (sSet vB 7 (bCmp cEq (eCl (m_L_asks) (aS vI (aS vI (aS vI (aS vI (aS vR (aN) (eLR 0)) (eC 4)) (eC 1)) (eC 0)) (eC 2))) (eC 1)))
    ((s_L_vectors_314 sc))
noncomputable def s_L_vectors_256 (sc : List Int) : z_St :=
    sSeq (sSeq (sSet vI 7 (eL 3)) (sLoop (bCmp cLt (eL 7) (eC 5))
    ((l_L_vectors_265 sc))
    (sInc 7 (1)) z_fuel))
    ((s_L_vectors_295 sc))
noncomputable def s_L_vectors_148 (sc : List Int) : z_St :=
    sSeq (sSeq (sSet vI 7 (eC 0)) (sLoop (bCmp cLt (eL 7) (eL 3))
    ((l_L_vectors_157 sc))
    (sInc 7 (1)) z_fuel))
    ((s_L_vectors_256 sc))
noncomputable def s_L_vectors_145 (sc : List Int) : z_St :=
    sSeq (sSet vB 6 (eCB true))
    ((s_L_vectors_148 sc))
noncomputable def s_L_vectors_135 (sc : List Int) : z_St :=
    sSeq (sSet vI 5 (eCl (m_L_asks) (aS vI (aS vI (aS vI (aS vI (aS vR (aN) (eLR 0)) (eC 3)) (eC 0)) (eC 0)) (eC 1))))
    ((s_L_vectors_145 sc))
noncomputable def s_L_vectors_84 (sc : List Int) : z_St :=
    sSeq (sSeq (sSet vI 5 (eC 0)) (sLoop (bCmp cLt (eL 5) (eC 5))
    ((l_L_vectors_93 sc))
    (sInc 5 (1)) z_fuel))
    ((s_L_vectors_135 sc))
noncomputable def s_L_vectors_33 (sc : List Int) : z_St :=
    sSeq (sSeq (sSet vI 5 (eC 0)) (sLoop (bCmp cLt (eL 5) (e2 oMul (eL 3) (eL 3)))
    ((l_L_vectors_44 sc))
    (sInc 5 (1)) z_fuel))
    ((s_L_vectors_84 sc))
noncomputable def s_L_vectors_26 (sc : List Int) : z_St :=
    sSeq (sPop (eCl (m_X5_matrix) (aS vI (aS vI (aS vR (aN) (eLR 0)) (eC 1)) (eL 3))))
    ((s_L_vectors_33 sc))
noncomputable def s_L_vectors_12 (sc : List Int) : z_St :=
    sSeq (sCl ((m_L_fills sc)) (aS vI (aS vI (aS vI (aS wS (aS vI (aS vI (aS vR (aN) (eLR 0)) (eC 0)) (eL 3)) (eLS 1)) (e2 oAdd (eL 2) (eC 1))) (eC (-30))) (eC 70)))
    ((s_L_vectors_26 sc))
noncomputable def s_L_vectors_9 (sc : List Int) : z_St :=
    sSeq (sSet vB 4 (eCB true))
    ((s_L_vectors_12 sc))
noncomputable def b_L_vectors (sc : List Int) : z_St :=
    sSeq (sSet vI 3 (e2 oAdd (eC 1) (eCl ((m_L_draw sc)) (aS vI (aS vI (aS wS (aN) (eLS 1)) (eL 2)) (eC 5)))))
    ((s_L_vectors_9 sc))
noncomputable def m_L_vectors (sc : List Int) : z_Mt := z_body 10 (b_L_vectors sc)
def cn_L_vectors : Nat → Nat := fun pc => if pc ≤ 140 then 0 else if pc ≤ 300 then 1 else if pc ≤ 427 then 2 else if pc ≤ 447 then 3 else 4
