/-! ===== access, store, load, flush: both sides ===== -/
def acc (W : WD) (v : Int32) (wr us : Bool) : Int32 × WD := if ok (vR W) 64 v = true then (lc (rch (vS W) (tP (vT W)) v.toNatClampNeg wr us).2.1, act W (rch (vS W) (tP (vT W)) v.toNatClampNeg wr us).1 (b2 (!(rch (vS W) (tP (vT W)) v.toNatClampNeg wr us).2.2.2.2) 1) 0 (rch (vS W) (tP (vT W)) v.toNatClampNeg wr us).2.2.1 (b2 (rch (vS W) (tP (vT W)) v.toNatClampNeg wr us).2.2.2.2 1)) else (m1, uE W 1)
def sto (W : WD) (v i x : Int32) (us : Bool) : Int32 × WD := if (ok (vR W) 64 v && ok true 8 i) = true then (if ok true 4096 x = true then (lc (rch (vS W) (tP (vT W)) v.toNatClampNeg true us).2.1, act W (stS (rch (vS W) (tP (vT W)) v.toNatClampNeg true us) i.toNatClampNeg x.toNatClampNeg) (b2 (!(rch (vS W) (tP (vT W)) v.toNatClampNeg true us).2.2.2.2) 1) (b2 (stT (rch (vS W) (tP (vT W)) v.toNatClampNeg true us)) 1) (rch (vS W) (tP (vT W)) v.toNatClampNeg true us).2.2.1 (b2 (rch (vS W) (tP (vT W)) v.toNatClampNeg true us).2.2.2.2 1)) else (m1, uE W 2)) else (m1, uE W 1)
def lod (W : WD) (f : Int32) : Int32 × WD := if ok (vR W) 16 f = true then (ic (cnt (su (vS W)) 8), act W (loa (vS W) f.toNatClampNeg) 0 0 0 0) else (m1, uE W 1)
def flu (W : WD) (v : Int32) : Int32 × WD := if ok (vR W) 64 v = true then (ic (flN (vS W) v.toNatClampNeg), act W (fls (vS W) v.toNatClampNeg) 0 0 0 0) else (m1, uE W 1)
section ACK
variable {S : SH} {I J J' : II} {L L' : LL} {o x ta tb p q rg pc rs ps m ou a c e : Nat} {W : WD} {s : St}
theorem k_isWord (v : Int32) (h : AH) : p_X7_isWord v h = some (bi (ok true 4096 v), h) := by
  have b1 : (1 : Int32) &&& 1 = 1 := by decide
  have b0 : (0 : Int32) &&& 1 = 0 := by decide
  rcases i_cases v with n | ⟨k, hk, rfl⟩
  · rw [ok_neg n]; simp (maxSteps := 1000000) (disch := omega) only [↓reduceIte, ↓if_bi0, ↓if_bi1, hp_tg, hp_rI, hp_rR, hp_rL, hp_wI, hp_wL, Option.bind_some, if_11, if_01, bi_and1, i10, i01, bi_t, bi_f, ic_add, mr_4, ml_4, mr_8, ml_8, mr_10, ml_10, ic_add1, ic_sub1, ic_clamp, ic_div, ic_irm, ic_lt0, ic_0lt, ic_eq0, ic_lt, ic_inj, and15, and7, and31, and63, shl1, shr_ok, neg_1, neg_2, neg_3, neg_4, kc_lt0, kc_ic, kc_m2, kc_1, kc_0, i0_add, add_i0, or_i0, z_8, z_4, z_64, z_256, ic_m2, ec_m1, ic_m1, m1_lt0, m2_lt0, m3_lt0, m4_lt0, up_s, if_true, if_false, ne_eq, not_true_eq_false, not_false_eq_true, Bool.false_eq_true, eq_self, or_self, or_false, false_or, and_self, and_true, true_and, ite_self, Nat.reduceEqDiff, Nat.reduceLT, Nat.reduceMod, Nat.reduceMul, Nat.reduceAdd, Nat.reducePow, Nat.reduceDiv, lt_2, lt_3, lt_4, lt_5, lt_6, lt_7, lt_8, lt_10, lt_11, lt_12, lt_15, lt_16, lt_18, lt_20, lt_24, lt_31, lt_32, lt_48, lt_57, lt_59, lt_63, lt_64, lt_74, lt_75, lt_97, lt_122, lt_128, lt_144, lt_145, lt_146, lt_147, lt_155, lt_163, lt_171, lt_179, lt_200, lt_243, lt_244, lt_255, lt_256, lt_732, lt_900, lt_3660, lt_3904, lt_4095, lt_65536, lt_65537, lt_252645135, lt_858993459, lt_1431655765, ↓p_has_b, p_has, ↓p_has9_b, p_has9, ↓p_bit_b, p_bit, ↓p_bit1_b, p_bit1, ↓p_bit0_b, p_bit0, p_X7_isWord_16, p_X7_isWord_15, p_X7_isWord, b0, n]
  · rw [ok_ic (by omega) hk]
    by_cases d : k < 4096
    · rw [decide_eq_true d]; simp (maxSteps := 1000000) (disch := omega) only [↓reduceIte, ↓if_bi0, ↓if_bi1, hp_tg, hp_rI, hp_rR, hp_rL, hp_wI, hp_wL, Option.bind_some, if_11, if_01, bi_and1, i10, i01, bi_t, bi_f, ic_add, mr_4, ml_4, mr_8, ml_8, mr_10, ml_10, ic_add1, ic_sub1, ic_clamp, ic_div, ic_irm, ic_lt0, ic_0lt, ic_eq0, ic_lt, ic_inj, and15, and7, and31, and63, shl1, shr_ok, neg_1, neg_2, neg_3, neg_4, kc_lt0, kc_ic, kc_m2, kc_1, kc_0, i0_add, add_i0, or_i0, z_8, z_4, z_64, z_256, ic_m2, ec_m1, ic_m1, m1_lt0, m2_lt0, m3_lt0, m4_lt0, up_s, if_true, if_false, ne_eq, not_true_eq_false, not_false_eq_true, Bool.false_eq_true, eq_self, or_self, or_false, false_or, and_self, and_true, true_and, ite_self, Nat.reduceEqDiff, Nat.reduceLT, Nat.reduceMod, Nat.reduceMul, Nat.reduceAdd, Nat.reducePow, Nat.reduceDiv, lt_2, lt_3, lt_4, lt_5, lt_6, lt_7, lt_8, lt_10, lt_11, lt_12, lt_15, lt_16, lt_18, lt_20, lt_24, lt_31, lt_32, lt_48, lt_57, lt_59, lt_63, lt_64, lt_74, lt_75, lt_97, lt_122, lt_128, lt_144, lt_145, lt_146, lt_147, lt_155, lt_163, lt_171, lt_179, lt_200, lt_243, lt_244, lt_255, lt_256, lt_732, lt_900, lt_3660, lt_3904, lt_4095, lt_65536, lt_65537, lt_252645135, lt_858993459, lt_1431655765, ↓p_has_b, p_has, ↓p_has9_b, p_has9, ↓p_bit_b, p_bit, ↓p_bit1_b, p_bit1, ↓p_bit0_b, p_bit0, p_X7_isWord_16, p_X7_isWord_15, p_X7_isWord, b1, show ¬ 4095 < k by omega]
    · rw [decide_eq_false d]; simp (maxSteps := 1000000) (disch := omega) only [↓reduceIte, ↓if_bi0, ↓if_bi1, hp_tg, hp_rI, hp_rR, hp_rL, hp_wI, hp_wL, Option.bind_some, if_11, if_01, bi_and1, i10, i01, bi_t, bi_f, ic_add, mr_4, ml_4, mr_8, ml_8, mr_10, ml_10, ic_add1, ic_sub1, ic_clamp, ic_div, ic_irm, ic_lt0, ic_0lt, ic_eq0, ic_lt, ic_inj, and15, and7, and31, and63, shl1, shr_ok, neg_1, neg_2, neg_3, neg_4, kc_lt0, kc_ic, kc_m2, kc_1, kc_0, i0_add, add_i0, or_i0, z_8, z_4, z_64, z_256, ic_m2, ec_m1, ic_m1, m1_lt0, m2_lt0, m3_lt0, m4_lt0, up_s, if_true, if_false, ne_eq, not_true_eq_false, not_false_eq_true, Bool.false_eq_true, eq_self, or_self, or_false, false_or, and_self, and_true, true_and, ite_self, Nat.reduceEqDiff, Nat.reduceLT, Nat.reduceMod, Nat.reduceMul, Nat.reduceAdd, Nat.reducePow, Nat.reduceDiv, lt_2, lt_3, lt_4, lt_5, lt_6, lt_7, lt_8, lt_10, lt_11, lt_12, lt_15, lt_16, lt_18, lt_20, lt_24, lt_31, lt_32, lt_48, lt_57, lt_59, lt_63, lt_64, lt_74, lt_75, lt_97, lt_122, lt_128, lt_144, lt_145, lt_146, lt_147, lt_155, lt_163, lt_171, lt_179, lt_200, lt_243, lt_244, lt_255, lt_256, lt_732, lt_900, lt_3660, lt_3904, lt_4095, lt_65536, lt_65537, lt_252645135, lt_858993459, lt_1431655765, ↓p_has_b, p_has, ↓p_has9_b, p_has9, ↓p_bit_b, p_bit, ↓p_bit1_b, p_bit1, ↓p_bit0_b, p_bit0, p_X7_isWord_16, p_X7_isWord_15, p_X7_isWord, b0, show 4095 < k by omega]
theorem k_isWord_b (v : Int32) (h : AH) {β : Type} (f9 : Int32 × AH → Option β) : (p_X7_isWord v h).bind f9 = f9 (bi (ok true 4096 v), h) := bnd (by apply k_isWord <;> assumption)
theorem kc_access (H : KH S I o x ta tb p q rg pc rs ps m ou W c) (hc : c < 1000000) (v : Int32) (wr us : Bool) : KC S I L o x ta p q rs ps m (p_X7_access o v (bi wr) (bi us) (hp S I L)) (acc W v wr us) := by
  have H9 := H
  obtain ⟨hA, ⟨y0, -, -, -, y4, -, -, -, -, -, -, hP, -⟩, hC, hV⟩ := H9
  have F := k_isPage (L := L) y0 hC.1 v
  unfold acc
  cases z : ok (vR W) 64 v
  · rw [z] at F
    rw [if_neg (by decide)]
    refine kc_no1 H ?_
    simp (maxSteps := 1000000) (disch := omega) only [↓reduceIte, ↓if_bi0, ↓if_bi1, hp_tg, hp_rI, hp_rR, hp_rL, hp_wI, hp_wL, Option.bind_some, if_11, if_01, bi_and1, i10, i01, bi_t, bi_f, ic_add, mr_4, ml_4, mr_8, ml_8, mr_10, ml_10, ic_add1, ic_sub1, ic_clamp, ic_div, ic_irm, ic_lt0, ic_0lt, ic_eq0, ic_lt, ic_inj, and15, and7, and31, and63, shl1, shr_ok, neg_1, neg_2, neg_3, neg_4, kc_lt0, kc_ic, kc_m2, kc_1, kc_0, i0_add, add_i0, or_i0, z_8, z_4, z_64, z_256, ic_m2, ec_m1, ic_m1, m1_lt0, m2_lt0, m3_lt0, m4_lt0, up_s, if_true, if_false, ne_eq, not_true_eq_false, not_false_eq_true, Bool.false_eq_true, eq_self, or_self, or_false, false_or, and_self, and_true, true_and, ite_self, Nat.reduceEqDiff, Nat.reduceLT, Nat.reduceMod, Nat.reduceMul, Nat.reduceAdd, Nat.reducePow, Nat.reduceDiv, lt_2, lt_3, lt_4, lt_5, lt_6, lt_7, lt_8, lt_10, lt_11, lt_12, lt_15, lt_16, lt_18, lt_20, lt_24, lt_31, lt_32, lt_48, lt_57, lt_59, lt_63, lt_64, lt_74, lt_75, lt_97, lt_122, lt_128, lt_144, lt_145, lt_146, lt_147, lt_155, lt_163, lt_171, lt_179, lt_200, lt_243, lt_244, lt_255, lt_256, lt_732, lt_900, lt_3660, lt_3904, lt_4095, lt_65536, lt_65537, lt_252645135, lt_858993459, lt_1431655765, ↓p_has_b, p_has, ↓p_has9_b, p_has9, ↓p_bit_b, p_bit, ↓p_bit1_b, p_bit1, ↓p_bit0_b, p_bit0, p_X7_access, p_X7_refuse, y0, ↓bnd (F), F]
  · rw [z] at F
    rw [if_pos rfl]
    obtain ⟨hr, f, hf, rfl⟩ := ok_t (by omega) z
    rw [ic_clamp (show f < 2147483648 by omega)]
    obtain ⟨V1, V2, V3, -⟩ := hV.2.2.2.2.2.2.1 hr
    have c9 := V3.2
    obtain ⟨J, e1, C1, f1⟩ := k_keep (L := L) H hr
    obtain ⟨R0, R1⟩ := C1.2.2.2.2.2.2.2.2.2.2.2.2.1 hr
    have cH := C1.2.2.2.2.2.2.2.2.2.2.2.2.2.1
    have cF := C1.2.2.2.2.2.2.2.2.2.2.2.2.2.2.1
    have cP := C1.2.2.2.2.2.2.2.2.2.2.2.2.2.2.2.1
    have cD := C1.2.2.2.2.2.2.2.2.2.2.2.2.2.2.2.2
    obtain ⟨J2, e2, R2, f2, g3, g4, g5, g6, g7⟩ := k_reach (L := L) hP R1 V3.1 (by show sc (vS W) < _; omega) hf wr us
    rw [cH, bi_b2, ic_add] at g3
    rw [cF, bi_b2, ic_add] at g4
    rw [cD, ic_add] at g7
    rw [cP] at g6
    refine kc_act H C1 f1 f2 R2 g3 g4 g6 g7 ?_
    have e3 : p_X2_reach p (ic f) (ic (md wr us)) (hp S J L) = some (lc (rch (vS W) (tP (vT W)) f wr us).2.1, hp S J2 L) := e2
    simp (maxSteps := 1000000) (disch := omega) only [↓reduceIte, ↓if_bi0, ↓if_bi1, hp_tg, hp_rI, hp_rR, hp_rL, hp_wI, hp_wL, Option.bind_some, if_11, if_01, bi_and1, i10, i01, bi_t, bi_f, ic_add, mr_4, ml_4, mr_8, ml_8, mr_10, ml_10, ic_add1, ic_sub1, ic_clamp, ic_div, ic_irm, ic_lt0, ic_0lt, ic_eq0, ic_lt, ic_inj, and15, and7, and31, and63, shl1, shr_ok, neg_1, neg_2, neg_3, neg_4, kc_lt0, kc_ic, kc_m2, kc_1, kc_0, i0_add, add_i0, or_i0, z_8, z_4, z_64, z_256, ic_m2, ec_m1, ic_m1, m1_lt0, m2_lt0, m3_lt0, m4_lt0, up_s, if_true, if_false, ne_eq, not_true_eq_false, not_false_eq_true, Bool.false_eq_true, eq_self, or_self, or_false, false_or, and_self, and_true, true_and, ite_self, Nat.reduceEqDiff, Nat.reduceLT, Nat.reduceMod, Nat.reduceMul, Nat.reduceAdd, Nat.reducePow, Nat.reduceDiv, lt_2, lt_3, lt_4, lt_5, lt_6, lt_7, lt_8, lt_10, lt_11, lt_12, lt_15, lt_16, lt_18, lt_20, lt_24, lt_31, lt_32, lt_48, lt_57, lt_59, lt_63, lt_64, lt_74, lt_75, lt_97, lt_122, lt_128, lt_144, lt_145, lt_146, lt_147, lt_155, lt_163, lt_171, lt_179, lt_200, lt_243, lt_244, lt_255, lt_256, lt_732, lt_900, lt_3660, lt_3904, lt_4095, lt_65536, lt_65537, lt_252645135, lt_858993459, lt_1431655765, ↓p_has_b, p_has, ↓p_has9_b, p_has9, ↓p_bit_b, p_bit, ↓p_bit1_b, p_bit1, ↓p_bit0_b, p_bit0, p_X7_access, p_X7_answer, y0, y4, hP.t, ↓bnd (F), F, ↓bnd (e1), e1, ↓bnd (p_mode wr us (hp S J L)), p_mode wr us (hp S J L), ↓bnd (e3), e3]
theorem kc_store (H : KH S I o x ta tb p q rg pc rs ps m ou W c) (hc : c < 1000000) (v i w : Int32) (us : Bool) : KC S I L o x ta p q rs ps m (p_X7_store o v i w (bi us) (hp S I L)) (sto W v i w us) := by
  have H9 := H
  obtain ⟨hA, ⟨y0, -, -, -, y4, -, -, -, -, -, -, hP, -⟩, hC, hV⟩ := H9
  have F := k_isPage (L := L) y0 hC.1 v
  have F2 := k_isPlace i (hp S I L)
  have F3 := k_isWord w (hp S I L)
  unfold sto
  cases z : ok (vR W) 64 v
  · rw [z] at F
    rw [Bool.false_and, if_neg (by decide)]
    refine kc_no1 H ?_
    simp (maxSteps := 1000000) (disch := omega) only [↓reduceIte, ↓if_bi0, ↓if_bi1, hp_tg, hp_rI, hp_rR, hp_rL, hp_wI, hp_wL, Option.bind_some, if_11, if_01, bi_and1, i10, i01, bi_t, bi_f, ic_add, mr_4, ml_4, mr_8, ml_8, mr_10, ml_10, ic_add1, ic_sub1, ic_clamp, ic_div, ic_irm, ic_lt0, ic_0lt, ic_eq0, ic_lt, ic_inj, and15, and7, and31, and63, shl1, shr_ok, neg_1, neg_2, neg_3, neg_4, kc_lt0, kc_ic, kc_m2, kc_1, kc_0, i0_add, add_i0, or_i0, z_8, z_4, z_64, z_256, ic_m2, ec_m1, ic_m1, m1_lt0, m2_lt0, m3_lt0, m4_lt0, up_s, if_true, if_false, ne_eq, not_true_eq_false, not_false_eq_true, Bool.false_eq_true, eq_self, or_self, or_false, false_or, and_self, and_true, true_and, ite_self, Nat.reduceEqDiff, Nat.reduceLT, Nat.reduceMod, Nat.reduceMul, Nat.reduceAdd, Nat.reducePow, Nat.reduceDiv, lt_2, lt_3, lt_4, lt_5, lt_6, lt_7, lt_8, lt_10, lt_11, lt_12, lt_15, lt_16, lt_18, lt_20, lt_24, lt_31, lt_32, lt_48, lt_57, lt_59, lt_63, lt_64, lt_74, lt_75, lt_97, lt_122, lt_128, lt_144, lt_145, lt_146, lt_147, lt_155, lt_163, lt_171, lt_179, lt_200, lt_243, lt_244, lt_255, lt_256, lt_732, lt_900, lt_3660, lt_3904, lt_4095, lt_65536, lt_65537, lt_252645135, lt_858993459, lt_1431655765, ↓p_has_b, p_has, ↓p_has9_b, p_has9, ↓p_bit_b, p_bit, ↓p_bit1_b, p_bit1, ↓p_bit0_b, p_bit0, p_X7_store, p_X7_store_15, p_X7_refuse, y0, ↓bnd (F), F]
  · rw [z] at F
    cases z2 : ok true 8 i
    · rw [z2] at F2
      rw [Bool.and_false, if_neg (by decide)]
      refine kc_no1 H ?_
      simp (maxSteps := 1000000) (disch := omega) only [↓reduceIte, ↓if_bi0, ↓if_bi1, hp_tg, hp_rI, hp_rR, hp_rL, hp_wI, hp_wL, Option.bind_some, if_11, if_01, bi_and1, i10, i01, bi_t, bi_f, ic_add, mr_4, ml_4, mr_8, ml_8, mr_10, ml_10, ic_add1, ic_sub1, ic_clamp, ic_div, ic_irm, ic_lt0, ic_0lt, ic_eq0, ic_lt, ic_inj, and15, and7, and31, and63, shl1, shr_ok, neg_1, neg_2, neg_3, neg_4, kc_lt0, kc_ic, kc_m2, kc_1, kc_0, i0_add, add_i0, or_i0, z_8, z_4, z_64, z_256, ic_m2, ec_m1, ic_m1, m1_lt0, m2_lt0, m3_lt0, m4_lt0, up_s, if_true, if_false, ne_eq, not_true_eq_false, not_false_eq_true, Bool.false_eq_true, eq_self, or_self, or_false, false_or, and_self, and_true, true_and, ite_self, Nat.reduceEqDiff, Nat.reduceLT, Nat.reduceMod, Nat.reduceMul, Nat.reduceAdd, Nat.reducePow, Nat.reduceDiv, lt_2, lt_3, lt_4, lt_5, lt_6, lt_7, lt_8, lt_10, lt_11, lt_12, lt_15, lt_16, lt_18, lt_20, lt_24, lt_31, lt_32, lt_48, lt_57, lt_59, lt_63, lt_64, lt_74, lt_75, lt_97, lt_122, lt_128, lt_144, lt_145, lt_146, lt_147, lt_155, lt_163, lt_171, lt_179, lt_200, lt_243, lt_244, lt_255, lt_256, lt_732, lt_900, lt_3660, lt_3904, lt_4095, lt_65536, lt_65537, lt_252645135, lt_858993459, lt_1431655765, ↓p_has_b, p_has, ↓p_has9_b, p_has9, ↓p_bit_b, p_bit, ↓p_bit1_b, p_bit1, ↓p_bit0_b, p_bit0, p_X7_store, p_X7_store_15, p_X7_refuse, y0, ↓bnd (F), F, ↓bnd (F2), F2]
    · rw [z2] at F2
      rw [Bool.and_self, if_pos rfl]
      cases z3 : ok true 4096 w
      · rw [z3] at F3
        rw [if_neg (by decide)]
        refine kc_no (e := 2) H (by decide) ?_
        simp (maxSteps := 1000000) (disch := omega) only [↓reduceIte, ↓if_bi0, ↓if_bi1, hp_tg, hp_rI, hp_rR, hp_rL, hp_wI, hp_wL, Option.bind_some, if_11, if_01, bi_and1, i10, i01, bi_t, bi_f, ic_add, mr_4, ml_4, mr_8, ml_8, mr_10, ml_10, ic_add1, ic_sub1, ic_clamp, ic_div, ic_irm, ic_lt0, ic_0lt, ic_eq0, ic_lt, ic_inj, and15, and7, and31, and63, shl1, shr_ok, neg_1, neg_2, neg_3, neg_4, kc_lt0, kc_ic, kc_m2, kc_1, kc_0, i0_add, add_i0, or_i0, z_8, z_4, z_64, z_256, ic_m2, ec_m1, ic_m1, m1_lt0, m2_lt0, m3_lt0, m4_lt0, up_s, if_true, if_false, ne_eq, not_true_eq_false, not_false_eq_true, Bool.false_eq_true, eq_self, or_self, or_false, false_or, and_self, and_true, true_and, ite_self, Nat.reduceEqDiff, Nat.reduceLT, Nat.reduceMod, Nat.reduceMul, Nat.reduceAdd, Nat.reducePow, Nat.reduceDiv, lt_2, lt_3, lt_4, lt_5, lt_6, lt_7, lt_8, lt_10, lt_11, lt_12, lt_15, lt_16, lt_18, lt_20, lt_24, lt_31, lt_32, lt_48, lt_57, lt_59, lt_63, lt_64, lt_74, lt_75, lt_97, lt_122, lt_128, lt_144, lt_145, lt_146, lt_147, lt_155, lt_163, lt_171, lt_179, lt_200, lt_243, lt_244, lt_255, lt_256, lt_732, lt_900, lt_3660, lt_3904, lt_4095, lt_65536, lt_65537, lt_252645135, lt_858993459, lt_1431655765, ↓p_has_b, p_has, ↓p_has9_b, p_has9, ↓p_bit_b, p_bit, ↓p_bit1_b, p_bit1, ↓p_bit0_b, p_bit0, p_X7_store, p_X7_store_15, p_X7_refuse, y0, ↓bnd (F), F, ↓bnd (F2), F2, ↓bnd (F3), F3]
      · rw [z3] at F3
        rw [if_pos rfl]
        obtain ⟨hr, f, hf, rfl⟩ := ok_t (by omega) z
        obtain ⟨-, k, hk, rfl⟩ := ok_t (by omega) z2
        obtain ⟨-, n, hn, rfl⟩ := ok_t (by omega) z3
        rw [ic_clamp (show f < 2147483648 by omega), ic_clamp (show k < 2147483648 by omega), ic_clamp (show n < 2147483648 by omega)]
        obtain ⟨V1, V2, V3, -⟩ := hV.2.2.2.2.2.2.1 hr
        have c9 := V3.2
        obtain ⟨J, e1, C1, f1⟩ := k_keep (L := L) H hr
        obtain ⟨R0, R1⟩ := C1.2.2.2.2.2.2.2.2.2.2.2.2.1 hr
        have cH := C1.2.2.2.2.2.2.2.2.2.2.2.2.2.1
        have cF := C1.2.2.2.2.2.2.2.2.2.2.2.2.2.2.1
        have cP := C1.2.2.2.2.2.2.2.2.2.2.2.2.2.2.2.1
        have cD := C1.2.2.2.2.2.2.2.2.2.2.2.2.2.2.2.2
        obtain ⟨J2, e2, R2, f2, g3, g4, g5, g6, g7⟩ := k_put (L := L) hP R1 V3.1 (by show sc (vS W) < _; omega) hf hk hn us
        rw [cH, bi_b2, ic_add] at g3
        rw [cF, bi_b2, ic_add] at g4
        rw [cD, ic_add] at g7
        rw [cP, bi_b2, ic_add] at g6
        refine kc_act H C1 f1 f2 R2 g3 g4 g6 g7 ?_
        have e3 : p_X2_put p (ic f) (ic k) (ic n) (ic (md true us)) (hp S J L) = some (lc (rch (vS W) (tP (vT W)) f true us).2.1, hp S J2 L) := e2
        have M1 : p_X7_mode 1 (bi us) (hp S J L) = some (ic (md true us), hp S J L) := p_mode true us _
        simp (maxSteps := 1000000) (disch := omega) only [↓reduceIte, ↓if_bi0, ↓if_bi1, hp_tg, hp_rI, hp_rR, hp_rL, hp_wI, hp_wL, Option.bind_some, if_11, if_01, bi_and1, i10, i01, bi_t, bi_f, ic_add, mr_4, ml_4, mr_8, ml_8, mr_10, ml_10, ic_add1, ic_sub1, ic_clamp, ic_div, ic_irm, ic_lt0, ic_0lt, ic_eq0, ic_lt, ic_inj, and15, and7, and31, and63, shl1, shr_ok, neg_1, neg_2, neg_3, neg_4, kc_lt0, kc_ic, kc_m2, kc_1, kc_0, i0_add, add_i0, or_i0, z_8, z_4, z_64, z_256, ic_m2, ec_m1, ic_m1, m1_lt0, m2_lt0, m3_lt0, m4_lt0, up_s, if_true, if_false, ne_eq, not_true_eq_false, not_false_eq_true, Bool.false_eq_true, eq_self, or_self, or_false, false_or, and_self, and_true, true_and, ite_self, Nat.reduceEqDiff, Nat.reduceLT, Nat.reduceMod, Nat.reduceMul, Nat.reduceAdd, Nat.reducePow, Nat.reduceDiv, lt_2, lt_3, lt_4, lt_5, lt_6, lt_7, lt_8, lt_10, lt_11, lt_12, lt_15, lt_16, lt_18, lt_20, lt_24, lt_31, lt_32, lt_48, lt_57, lt_59, lt_63, lt_64, lt_74, lt_75, lt_97, lt_122, lt_128, lt_144, lt_145, lt_146, lt_147, lt_155, lt_163, lt_171, lt_179, lt_200, lt_243, lt_244, lt_255, lt_256, lt_732, lt_900, lt_3660, lt_3904, lt_4095, lt_65536, lt_65537, lt_252645135, lt_858993459, lt_1431655765, ↓p_has_b, p_has, ↓p_has9_b, p_has9, ↓p_bit_b, p_bit, ↓p_bit1_b, p_bit1, ↓p_bit0_b, p_bit0, p_X7_store, p_X7_answer, y0, y4, hP.t, ↓bnd (F), F, ↓bnd (F2), F2, ↓bnd (F3), F3, ↓bnd (e1), e1, ↓bnd (M1), M1, ↓bnd (e3), e3]
theorem kc_load (H : KH S I o x ta tb p q rg pc rs ps m ou W c) (v : Int32) : KC S I L o x ta p q rs ps m (p_X7_load o v (hp S I L)) (lod W v) := by
  have H9 := H
  obtain ⟨hA, ⟨y0, -, -, -, y4, -, -, -, -, -, -, hP, -⟩, hC, hV⟩ := H9
  have F := k_isFrame (L := L) y0 hC.1 v
  unfold lod
  cases z : ok (vR W) 16 v
  · rw [z] at F
    rw [if_neg (by decide)]
    refine kc_no1 H ?_
    simp (maxSteps := 1000000) (disch := omega) only [↓reduceIte, ↓if_bi0, ↓if_bi1, hp_tg, hp_rI, hp_rR, hp_rL, hp_wI, hp_wL, Option.bind_some, if_11, if_01, bi_and1, i10, i01, bi_t, bi_f, ic_add, mr_4, ml_4, mr_8, ml_8, mr_10, ml_10, ic_add1, ic_sub1, ic_clamp, ic_div, ic_irm, ic_lt0, ic_0lt, ic_eq0, ic_lt, ic_inj, and15, and7, and31, and63, shl1, shr_ok, neg_1, neg_2, neg_3, neg_4, kc_lt0, kc_ic, kc_m2, kc_1, kc_0, i0_add, add_i0, or_i0, z_8, z_4, z_64, z_256, ic_m2, ec_m1, ic_m1, m1_lt0, m2_lt0, m3_lt0, m4_lt0, up_s, if_true, if_false, ne_eq, not_true_eq_false, not_false_eq_true, Bool.false_eq_true, eq_self, or_self, or_false, false_or, and_self, and_true, true_and, ite_self, Nat.reduceEqDiff, Nat.reduceLT, Nat.reduceMod, Nat.reduceMul, Nat.reduceAdd, Nat.reducePow, Nat.reduceDiv, lt_2, lt_3, lt_4, lt_5, lt_6, lt_7, lt_8, lt_10, lt_11, lt_12, lt_15, lt_16, lt_18, lt_20, lt_24, lt_31, lt_32, lt_48, lt_57, lt_59, lt_63, lt_64, lt_74, lt_75, lt_97, lt_122, lt_128, lt_144, lt_145, lt_146, lt_147, lt_155, lt_163, lt_171, lt_179, lt_200, lt_243, lt_244, lt_255, lt_256, lt_732, lt_900, lt_3660, lt_3904, lt_4095, lt_65536, lt_65537, lt_252645135, lt_858993459, lt_1431655765, ↓p_has_b, p_has, ↓p_has9_b, p_has9, ↓p_bit_b, p_bit, ↓p_bit1_b, p_bit1, ↓p_bit0_b, p_bit0, p_X7_load, p_X7_refuse, y0, ↓bnd (F), F]
  · rw [z] at F
    rw [if_pos rfl]
    obtain ⟨hr, f, hf, rfl⟩ := ok_t (by omega) z
    rw [ic_clamp (show f < 2147483648 by omega)]
    obtain ⟨V1, V2, V3, -⟩ := hV.2.2.2.2.2.2.1 hr
    obtain ⟨J, e1, C1, f1⟩ := k_keep (L := L) H hr
    obtain ⟨R0, R1⟩ := C1.2.2.2.2.2.2.2.2.2.2.2.2.1 hr
    have cH := C1.2.2.2.2.2.2.2.2.2.2.2.2.2.1
    have cF := C1.2.2.2.2.2.2.2.2.2.2.2.2.2.2.1
    have cP := C1.2.2.2.2.2.2.2.2.2.2.2.2.2.2.2.1
    have cD := C1.2.2.2.2.2.2.2.2.2.2.2.2.2.2.2.2
    obtain ⟨J2, e2, R2, f2⟩ := k_takeRoot (L := L) hP R1 V3.1 hf
    have ep : J2 p = J p := f2 p (by omega)
    have e3 : p_X2_takeRoot p (ic f) (hp S J L) = some (ic (cnt (su (vS W)) 8), hp S J2 L) := e2
    refine kc_act H C1 f1 (fun y hy => f2 y (by omega)) R2 (by rw [ep]; exact cH) (by rw [ep]; exact cF) (by rw [ep]; exact cP) (by rw [ep]; exact cD) ?_
    simp (maxSteps := 1000000) (disch := omega) only [↓reduceIte, ↓if_bi0, ↓if_bi1, hp_tg, hp_rI, hp_rR, hp_rL, hp_wI, hp_wL, Option.bind_some, if_11, if_01, bi_and1, i10, i01, bi_t, bi_f, ic_add, mr_4, ml_4, mr_8, ml_8, mr_10, ml_10, ic_add1, ic_sub1, ic_clamp, ic_div, ic_irm, ic_lt0, ic_0lt, ic_eq0, ic_lt, ic_inj, and15, and7, and31, and63, shl1, shr_ok, neg_1, neg_2, neg_3, neg_4, kc_lt0, kc_ic, kc_m2, kc_1, kc_0, i0_add, add_i0, or_i0, z_8, z_4, z_64, z_256, ic_m2, ec_m1, ic_m1, m1_lt0, m2_lt0, m3_lt0, m4_lt0, up_s, if_true, if_false, ne_eq, not_true_eq_false, not_false_eq_true, Bool.false_eq_true, eq_self, or_self, or_false, false_or, and_self, and_true, true_and, ite_self, Nat.reduceEqDiff, Nat.reduceLT, Nat.reduceMod, Nat.reduceMul, Nat.reduceAdd, Nat.reducePow, Nat.reduceDiv, lt_2, lt_3, lt_4, lt_5, lt_6, lt_7, lt_8, lt_10, lt_11, lt_12, lt_15, lt_16, lt_18, lt_20, lt_24, lt_31, lt_32, lt_48, lt_57, lt_59, lt_63, lt_64, lt_74, lt_75, lt_97, lt_122, lt_128, lt_144, lt_145, lt_146, lt_147, lt_155, lt_163, lt_171, lt_179, lt_200, lt_243, lt_244, lt_255, lt_256, lt_732, lt_900, lt_3660, lt_3904, lt_4095, lt_65536, lt_65537, lt_252645135, lt_858993459, lt_1431655765, ↓p_has_b, p_has, ↓p_has9_b, p_has9, ↓p_bit_b, p_bit, ↓p_bit1_b, p_bit1, ↓p_bit0_b, p_bit0, p_X7_load, p_X7_answer, y0, y4, hP.t, ↓bnd (F), F, ↓bnd (e1), e1, ↓bnd (e3), e3]
theorem kc_flush (H : KH S I o x ta tb p q rg pc rs ps m ou W c) (v : Int32) : KC S I L o x ta p q rs ps m (p_X7_flush o v (hp S I L)) (flu W v) := by
  have H9 := H
  obtain ⟨hA, ⟨y0, -, -, -, y4, -, -, -, -, -, -, hP, -⟩, hC, hV⟩ := H9
  have F := k_isPage (L := L) y0 hC.1 v
  unfold flu
  cases z : ok (vR W) 64 v
  · rw [z] at F
    rw [if_neg (by decide)]
    refine kc_no1 H ?_
    simp (maxSteps := 1000000) (disch := omega) only [↓reduceIte, ↓if_bi0, ↓if_bi1, hp_tg, hp_rI, hp_rR, hp_rL, hp_wI, hp_wL, Option.bind_some, if_11, if_01, bi_and1, i10, i01, bi_t, bi_f, ic_add, mr_4, ml_4, mr_8, ml_8, mr_10, ml_10, ic_add1, ic_sub1, ic_clamp, ic_div, ic_irm, ic_lt0, ic_0lt, ic_eq0, ic_lt, ic_inj, and15, and7, and31, and63, shl1, shr_ok, neg_1, neg_2, neg_3, neg_4, kc_lt0, kc_ic, kc_m2, kc_1, kc_0, i0_add, add_i0, or_i0, z_8, z_4, z_64, z_256, ic_m2, ec_m1, ic_m1, m1_lt0, m2_lt0, m3_lt0, m4_lt0, up_s, if_true, if_false, ne_eq, not_true_eq_false, not_false_eq_true, Bool.false_eq_true, eq_self, or_self, or_false, false_or, and_self, and_true, true_and, ite_self, Nat.reduceEqDiff, Nat.reduceLT, Nat.reduceMod, Nat.reduceMul, Nat.reduceAdd, Nat.reducePow, Nat.reduceDiv, lt_2, lt_3, lt_4, lt_5, lt_6, lt_7, lt_8, lt_10, lt_11, lt_12, lt_15, lt_16, lt_18, lt_20, lt_24, lt_31, lt_32, lt_48, lt_57, lt_59, lt_63, lt_64, lt_74, lt_75, lt_97, lt_122, lt_128, lt_144, lt_145, lt_146, lt_147, lt_155, lt_163, lt_171, lt_179, lt_200, lt_243, lt_244, lt_255, lt_256, lt_732, lt_900, lt_3660, lt_3904, lt_4095, lt_65536, lt_65537, lt_252645135, lt_858993459, lt_1431655765, ↓p_has_b, p_has, ↓p_has9_b, p_has9, ↓p_bit_b, p_bit, ↓p_bit1_b, p_bit1, ↓p_bit0_b, p_bit0, p_X7_flush, p_X7_refuse, y0, ↓bnd (F), F]
  · rw [z] at F
    rw [if_pos rfl]
    obtain ⟨hr, f, hf, rfl⟩ := ok_t (by omega) z
    rw [ic_clamp (show f < 2147483648 by omega)]
    obtain ⟨V1, V2, V3, -⟩ := hV.2.2.2.2.2.2.1 hr
    obtain ⟨J, e1, C1, f1⟩ := k_keep (L := L) H hr
    obtain ⟨R0, R1⟩ := C1.2.2.2.2.2.2.2.2.2.2.2.2.1 hr
    have cH := C1.2.2.2.2.2.2.2.2.2.2.2.2.2.1
    have cF := C1.2.2.2.2.2.2.2.2.2.2.2.2.2.2.1
    have cP := C1.2.2.2.2.2.2.2.2.2.2.2.2.2.2.2.1
    have cD := C1.2.2.2.2.2.2.2.2.2.2.2.2.2.2.2.2
    obtain ⟨J2, e2, R2, f2⟩ := k_forget (L := L) hP R1 V3.1 hf
    have ep : J2 p = J p := f2 p (by omega)
    have e3 : p_X2_forget p (ic f) (hp S J L) = some (ic (flN (vS W) f), hp S J2 L) := e2
    refine kc_act H C1 f1 (fun y hy => f2 y (by omega)) R2 (by rw [ep]; exact cH) (by rw [ep]; exact cF) (by rw [ep]; exact cP) (by rw [ep]; exact cD) ?_
    simp (maxSteps := 1000000) (disch := omega) only [↓reduceIte, ↓if_bi0, ↓if_bi1, hp_tg, hp_rI, hp_rR, hp_rL, hp_wI, hp_wL, Option.bind_some, if_11, if_01, bi_and1, i10, i01, bi_t, bi_f, ic_add, mr_4, ml_4, mr_8, ml_8, mr_10, ml_10, ic_add1, ic_sub1, ic_clamp, ic_div, ic_irm, ic_lt0, ic_0lt, ic_eq0, ic_lt, ic_inj, and15, and7, and31, and63, shl1, shr_ok, neg_1, neg_2, neg_3, neg_4, kc_lt0, kc_ic, kc_m2, kc_1, kc_0, i0_add, add_i0, or_i0, z_8, z_4, z_64, z_256, ic_m2, ec_m1, ic_m1, m1_lt0, m2_lt0, m3_lt0, m4_lt0, up_s, if_true, if_false, ne_eq, not_true_eq_false, not_false_eq_true, Bool.false_eq_true, eq_self, or_self, or_false, false_or, and_self, and_true, true_and, ite_self, Nat.reduceEqDiff, Nat.reduceLT, Nat.reduceMod, Nat.reduceMul, Nat.reduceAdd, Nat.reducePow, Nat.reduceDiv, lt_2, lt_3, lt_4, lt_5, lt_6, lt_7, lt_8, lt_10, lt_11, lt_12, lt_15, lt_16, lt_18, lt_20, lt_24, lt_31, lt_32, lt_48, lt_57, lt_59, lt_63, lt_64, lt_74, lt_75, lt_97, lt_122, lt_128, lt_144, lt_145, lt_146, lt_147, lt_155, lt_163, lt_171, lt_179, lt_200, lt_243, lt_244, lt_255, lt_256, lt_732, lt_900, lt_3660, lt_3904, lt_4095, lt_65536, lt_65537, lt_252645135, lt_858993459, lt_1431655765, ↓p_has_b, p_has, ↓p_has9_b, p_has9, ↓p_bit_b, p_bit, ↓p_bit1_b, p_bit1, ↓p_bit0_b, p_bit0, p_X7_flush, p_X7_answer, y0, y4, hP.t, ↓bnd (F), F, ↓bnd (e1), e1, ↓bnd (e3), e3]
end ACK
section ACX
variable {S : SH} {I J J' : II} {L L' : LL} {m a c e pl : Nat} {W : WD} {s : St}
theorem x_counted (hL : ML S m) (r : Int32) {F f D d A G : Nat} {b : Bool} (h21 : J m 21 = ic F) (h27 : J m 27 = ic f) (h23 : J m 23 = ic D) (h28 : J m 28 = ic d) (h25 : J m 25 = ic A) (h24 : J m 24 = ic G) (h31 : J m 31 = bi b) (hR : RW (J (m + 3)) s) : ∃ K, p_X9_counted m r (hp S J L) = some (r, hp S K L) ∧ RW (K (m + 2)) s ∧ K m 1 = 0 ∧ K m 2 = m1 ∧ K m 21 = ic (F + f) ∧ K m 22 = J m 22 ∧ K m 23 = ic (D + d) ∧ K m 24 = ic (G + b2 b 1) ∧ K m 25 = ic (A + 1) ∧ (∀ j, 2 < j → j < 21 → K m j = J m j) ∧ ∀ y, y ≠ m → y ≠ m + 2 → K y = J y := by
  have key : ∀ J4 : II, J4 = up2 (up2 (up2 (up2 J m 21 (ic (F + f))) m 23 (ic (D + d))) m 25 (ic (A + 1))) m 24 (ic (G + b2 b 1)) → p_X9_counted m r (hp S J L) = (p_X9_remains m (hp S J4 L)).bind (fun h102 => if (tg h102 m).1 = 8 then ((p_X9_good m r h102).bind fun q103 => some (q103.1, q103.2)) else none) := by
    intro J4 e4
    have a1 : up2 J m 21 (ic (F + f)) m 23 = ic D := by rw [up_k (by omega)]; exact h23
    have a2 : up2 J m 21 (ic (F + f)) m 28 = ic d := by rw [up_k (by omega)]; exact h28
    have a3 : up2 (up2 J m 21 (ic (F + f))) m 23 (ic (D + d)) m 25 = ic A := by rw [up_k (by omega), up_k (by omega)]; exact h25
    have a4 : up2 (up2 (up2 J m 21 (ic (F + f))) m 23 (ic (D + d))) m 25 (ic (A + 1)) m 31 = bi b := by rw [up_k (by omega), up_k (by omega), up_k (by omega)]; exact h31
    have a5 : up2 (up2 (up2 J m 21 (ic (F + f))) m 23 (ic (D + d))) m 25 (ic (A + 1)) m 24 = ic G := by rw [up_k (by omega), up_k (by omega), up_k (by omega)]; exact h24
    unfold p_X9_counted
    cases b
    · have e5 : J4 = up2 (up2 (up2 (up2 J m 21 (ic (F + f))) m 23 (ic (D + d))) m 25 (ic (A + 1))) m 24 (ic G) := e4
      rw [e5]
      simp only [↓reduceIte, ↓if_bi0, hp_tg, hp_rR, hp_rI, hp_wI, eq_self, bi_t, bi_f, i10, if_true, if_false, Bool.false_eq_true, hL.t, h21, h27, ic_add, a1, a2, a3, ic_add1, a4, a5, p_X9_counted_53, add_i0]
    · have e5 : J4 = up2 (up2 (up2 (up2 J m 21 (ic (F + f))) m 23 (ic (D + d))) m 25 (ic (A + 1))) m 24 (ic (G + 1)) := e4
      rw [e5]
      simp only [↓reduceIte, ↓if_bi0, hp_tg, hp_rR, hp_rI, hp_wI, eq_self, bi_t, bi_f, i10, if_true, if_false, Bool.false_eq_true, hL.t, h21, h27, ic_add, a1, a2, a3, ic_add1, a4, a5, p_X9_counted_53]
  have key2 := key _ rfl
  generalize h4 : up2 (up2 (up2 (up2 J m 21 (ic (F + f))) m 23 (ic (D + d))) m 25 (ic (A + 1))) m 24 (ic (G + b2 b 1)) = J4 at key2
  have j21 : J4 m 21 = ic (F + f) := by rw [← h4, up_k (by omega), up_k (by omega), up_k (by omega), up_s]
  have j23 : J4 m 23 = ic (D + d) := by rw [← h4, up_k (by omega), up_k (by omega), up_s]
  have j25 : J4 m 25 = ic (A + 1) := by rw [← h4, up_k (by omega), up_s]
  have j24 : J4 m 24 = ic (G + b2 b 1) := by rw [← h4, up_s]
  have jo : ∀ j, j ≠ 21 → j ≠ 23 → j ≠ 24 → j ≠ 25 → J4 m j = J m j := fun j q1 q2 q3 q4 => by rw [← h4, up_k q3, up_k q4, up_k q2, up_k q1]
  have jy : ∀ y, y ≠ m → J4 y = J y := fun y hy => funext fun j => by rw [← h4, up_a hy, up_a hy, up_a hy, up_a hy]
  obtain ⟨K, e1, k1, k2⟩ := x_remains (I := J4) (L := L) hL
  have km := k2 m (by omega)
  have em : ∀ j, j ≠ 1 → j ≠ 2 → up2 (up2 K m 1 0) m 2 m1 m j = J4 m j := fun j h1 h2 => by rw [up_k h2, up_k h1, km]
  have eb : ∀ b, b ≠ m → up2 (up2 K m 1 0) m 2 m1 b = K b := fun b h1 => funext fun j => by rw [up_a h1, up_a h1]
  refine ⟨up2 (up2 K m 1 0) m 2 m1, ?_, ?_, by rw [up_k (by omega), up_s], up_s _ _ _ _, by rw [em 21 (by omega) (by omega)]; exact j21, by rw [em 22 (by omega) (by omega)]; exact jo 22 (by omega) (by omega) (by omega) (by omega), by rw [em 23 (by omega) (by omega)]; exact j23, by rw [em 24 (by omega) (by omega)]; exact j24, by rw [em 25 (by omega) (by omega)]; exact j25, fun j q1 q2 => by rw [em j (by omega) (by omega)]; exact jo j (by omega) (by omega) (by omega) (by omega), fun y q1 q2 => by rw [eb y q1, k2 y q2, jy y q1]⟩
  · rw [key2]
    refine Eq.trans (bnd e1) ?_
    simp (maxSteps := 1000000) (disch := omega) only [↓reduceIte, ↓if_bi0, ↓if_bi1, hp_tg, hp_rI, hp_rR, hp_rL, hp_wI, hp_wL, Option.bind_some, if_11, if_01, bi_and1, i10, i01, bi_t, bi_f, ic_add, mr_4, ml_4, mr_8, ml_8, mr_10, ml_10, ic_add1, ic_sub1, ic_clamp, ic_div, ic_irm, ic_lt0, ic_0lt, ic_eq0, ic_lt, ic_inj, and15, and7, and31, and63, shl1, shr_ok, neg_1, neg_2, neg_3, neg_4, kc_lt0, kc_ic, kc_m2, kc_1, kc_0, i0_add, add_i0, or_i0, z_8, z_4, z_64, z_256, ic_m2, ec_m1, ic_m1, m1_lt0, m2_lt0, m3_lt0, m4_lt0, up_s, if_true, if_false, ne_eq, not_true_eq_false, not_false_eq_true, Bool.false_eq_true, eq_self, or_self, or_false, false_or, and_self, and_true, true_and, ite_self, Nat.reduceEqDiff, Nat.reduceLT, Nat.reduceMod, Nat.reduceMul, Nat.reduceAdd, Nat.reducePow, Nat.reduceDiv, lt_2, lt_3, lt_4, lt_5, lt_6, lt_7, lt_8, lt_10, lt_11, lt_12, lt_15, lt_16, lt_18, lt_20, lt_24, lt_31, lt_32, lt_48, lt_57, lt_59, lt_63, lt_64, lt_74, lt_75, lt_97, lt_122, lt_128, lt_144, lt_145, lt_146, lt_147, lt_155, lt_163, lt_171, lt_179, lt_200, lt_243, lt_244, lt_255, lt_256, lt_732, lt_900, lt_3660, lt_3904, lt_4095, lt_65536, lt_65537, lt_252645135, lt_858993459, lt_1431655765, ↓p_has_b, p_has, ↓p_has9_b, p_has9, ↓p_bit_b, p_bit, ↓p_bit1_b, p_bit1, ↓p_bit0_b, p_bit0, hL.t, ↓x_good_b hL, x_good hL]
  · rw [eb (m + 2) (by omega)]
    exact hR.cong fun j hj => by rw [k1 j hj, jy (m + 3) (by omega)]
theorem xc_access (H : XH S I m a W c) (hc : c < 1000000) (v : Int32) (wr us : Bool) : XC S I m a (p_X9_access m v (bi wr) (bi us) (hp S I L)) (acc W v wr us) := by
  have H9 := H
  have F := x_asked (L := L) H v
  obtain ⟨hL, hm, hM, hX, hV⟩ := H9
  unfold acc
  cases z : ok (vR W) 64 v
  · rw [z] at F
    rw [if_neg (by decide)]
    refine xc_no1 (L' := L) H (Xq.z I m) ?_
    simp (maxSteps := 1000000) (disch := omega) only [↓reduceIte, ↓if_bi0, ↓if_bi1, hp_tg, hp_rI, hp_rR, hp_rL, hp_wI, hp_wL, Option.bind_some, if_11, if_01, bi_and1, i10, i01, bi_t, bi_f, ic_add, mr_4, ml_4, mr_8, ml_8, mr_10, ml_10, ic_add1, ic_sub1, ic_clamp, ic_div, ic_irm, ic_lt0, ic_0lt, ic_eq0, ic_lt, ic_inj, and15, and7, and31, and63, shl1, shr_ok, neg_1, neg_2, neg_3, neg_4, kc_lt0, kc_ic, kc_m2, kc_1, kc_0, i0_add, add_i0, or_i0, z_8, z_4, z_64, z_256, ic_m2, ec_m1, ic_m1, m1_lt0, m2_lt0, m3_lt0, m4_lt0, up_s, if_true, if_false, ne_eq, not_true_eq_false, not_false_eq_true, Bool.false_eq_true, eq_self, or_self, or_false, false_or, and_self, and_true, true_and, ite_self, Nat.reduceEqDiff, Nat.reduceLT, Nat.reduceMod, Nat.reduceMul, Nat.reduceAdd, Nat.reducePow, Nat.reduceDiv, lt_2, lt_3, lt_4, lt_5, lt_6, lt_7, lt_8, lt_10, lt_11, lt_12, lt_15, lt_16, lt_18, lt_20, lt_24, lt_31, lt_32, lt_48, lt_57, lt_59, lt_63, lt_64, lt_74, lt_75, lt_97, lt_122, lt_128, lt_144, lt_145, lt_146, lt_147, lt_155, lt_163, lt_171, lt_179, lt_200, lt_243, lt_244, lt_255, lt_256, lt_732, lt_900, lt_3660, lt_3904, lt_4095, lt_65536, lt_65537, lt_252645135, lt_858993459, lt_1431655765, ↓p_has_b, p_has, ↓p_has9_b, p_has9, ↓p_bit_b, p_bit, ↓p_bit1_b, p_bit1, ↓p_bit0_b, p_bit0, p_X9_access, hL.t, ↓bnd (F), F, ↓x_refused_b hL, x_refused hL]
  · rw [z] at F
    rw [if_pos rfl]
    obtain ⟨hr, f, hf, rfl⟩ := ok_t (by omega) z
    rw [ic_clamp (show f < 2147483648 by omega)]
    obtain ⟨V1, V2, V3, -⟩ := hV.2.2.2.2.2.2.1 hr
    have c9 := V3.2
    obtain ⟨J, e1, XJ⟩ := x_rem (L := L) H hr (Xq.z I m)
    have XJ9 := XJ
    obtain ⟨p1, w1, g19, g26, g27, g28, g29, gj, gb⟩ := XJ9
    obtain ⟨J2, e2, w2, f2, k27, k28, k29, k30, k31, kj⟩ := x_reaches (L := L) hL w1 V3.1 (by omega) g26 hf wr us
    have hj : ∀ j, 2 < j → j < 26 → j ≠ 19 → J2 m j = I m j := fun j q1 q2 q3 => (kj j (by omega)).trans (gj j q1 q2 q3)
    obtain ⟨K, e3, w3, t1, t2, t21, t22, t23, t24, t25, tj, tb⟩ := x_counted (L := L) (J := J2) hL (lc (rch (vS W) (tP (vT W)) f wr us).2.1) (F := vF W) (f := b2 (!(rch (vS W) (tP (vT W)) f wr us).2.2.2.2) 1) (D := vD W) (d := (rch (vS W) (tP (vT W)) f wr us).2.2.1) (A := vH W + vF W) (G := vH W) (by rw [hj 21 (by omega) (by omega) (by omega)]; exact hX.2.2.2.2.2.2.1) (by rw [k27, g27, i0_add, bi_b2]) (by rw [hj 23 (by omega) (by omega) (by omega)]; exact hX.2.2.2.2.2.2.2.2.1) (by rw [k28, g28, i0_add]) (by rw [hj 25 (by omega) (by omega) (by omega)]; exact hX.2.2.2.2.2.2.2.2.2.2.1) (by rw [hj 24 (by omega) (by omega) (by omega)]; exact hX.2.2.2.2.2.2.2.2.2.1) k31 w2
    refine xc_act (L' := L) H hr XJ w3 t1 t2 (fun j q1 q2 => by rw [tj j q1 q2, kj j (by omega)]) t21 (by rw [t22, hj 22 (by omega) (by omega) (by omega)]; exact hX.2.2.2.2.2.2.2.1) t23 t24 ?_ (fun b q1 q2 q3 => by rw [tb b q1 q2, f2 b q1 q3]) ?_
    · rw [t25]
      congr 1
      cases (rch (vS W) (tP (vT W)) f wr us).2.2.2.2
      · show vH W + vF W + 1 = vH W + 0 + (vF W + 1); omega
      · show vH W + vF W + 1 = vH W + 1 + (vF W + 0); omega
    · simp (maxSteps := 1000000) (disch := omega) only [↓reduceIte, ↓if_bi0, ↓if_bi1, hp_tg, hp_rI, hp_rR, hp_rL, hp_wI, hp_wL, Option.bind_some, if_11, if_01, bi_and1, i10, i01, bi_t, bi_f, ic_add, mr_4, ml_4, mr_8, ml_8, mr_10, ml_10, ic_add1, ic_sub1, ic_clamp, ic_div, ic_irm, ic_lt0, ic_0lt, ic_eq0, ic_lt, ic_inj, and15, and7, and31, and63, shl1, shr_ok, neg_1, neg_2, neg_3, neg_4, kc_lt0, kc_ic, kc_m2, kc_1, kc_0, i0_add, add_i0, or_i0, z_8, z_4, z_64, z_256, ic_m2, ec_m1, ic_m1, m1_lt0, m2_lt0, m3_lt0, m4_lt0, up_s, if_true, if_false, ne_eq, not_true_eq_false, not_false_eq_true, Bool.false_eq_true, eq_self, or_self, or_false, false_or, and_self, and_true, true_and, ite_self, Nat.reduceEqDiff, Nat.reduceLT, Nat.reduceMod, Nat.reduceMul, Nat.reduceAdd, Nat.reducePow, Nat.reduceDiv, lt_2, lt_3, lt_4, lt_5, lt_6, lt_7, lt_8, lt_10, lt_11, lt_12, lt_15, lt_16, lt_18, lt_20, lt_24, lt_31, lt_32, lt_48, lt_57, lt_59, lt_63, lt_64, lt_74, lt_75, lt_97, lt_122, lt_128, lt_144, lt_145, lt_146, lt_147, lt_155, lt_163, lt_171, lt_179, lt_200, lt_243, lt_244, lt_255, lt_256, lt_732, lt_900, lt_3660, lt_3904, lt_4095, lt_65536, lt_65537, lt_252645135, lt_858993459, lt_1431655765, ↓p_has_b, p_has, ↓p_has9_b, p_has9, ↓p_bit_b, p_bit, ↓p_bit1_b, p_bit1, ↓p_bit0_b, p_bit0, p_X9_access, hL.t, ↓bnd (F), F, ↓bnd (e1), e1, ↓bnd (e2), e2, ↓bnd (e3), e3]
theorem xc_store (H : XH S I m a W c) (hc : c < 1000000) (v i w : Int32) (us : Bool) : XC S I m a (p_X9_store m v i w (bi us) (hp S I L)) (sto W v i w us) := by
  have H9 := H
  have F := x_asked (L := L) H v
  have F2 := x_in0 (n := 7) (by omega) i (hp S (up2 I m 0 0) L)
  have F3 := x_in0 (n := 4095) (by omega) w (hp S (up2 I m 0 0) L)
  obtain ⟨hL, hm, hM, hX, hV⟩ := H9
  unfold sto
  cases z : ok (vR W) 64 v
  · rw [z] at F
    rw [Bool.false_and, if_neg (by decide)]
    refine xc_no1 (L' := L) H (Xq.z I m) ?_
    simp (maxSteps := 1000000) (disch := omega) only [↓reduceIte, ↓if_bi0, ↓if_bi1, hp_tg, hp_rI, hp_rR, hp_rL, hp_wI, hp_wL, Option.bind_some, if_11, if_01, bi_and1, i10, i01, bi_t, bi_f, ic_add, mr_4, ml_4, mr_8, ml_8, mr_10, ml_10, ic_add1, ic_sub1, ic_clamp, ic_div, ic_irm, ic_lt0, ic_0lt, ic_eq0, ic_lt, ic_inj, and15, and7, and31, and63, shl1, shr_ok, neg_1, neg_2, neg_3, neg_4, kc_lt0, kc_ic, kc_m2, kc_1, kc_0, i0_add, add_i0, or_i0, z_8, z_4, z_64, z_256, ic_m2, ec_m1, ic_m1, m1_lt0, m2_lt0, m3_lt0, m4_lt0, up_s, if_true, if_false, ne_eq, not_true_eq_false, not_false_eq_true, Bool.false_eq_true, eq_self, or_self, or_false, false_or, and_self, and_true, true_and, ite_self, Nat.reduceEqDiff, Nat.reduceLT, Nat.reduceMod, Nat.reduceMul, Nat.reduceAdd, Nat.reducePow, Nat.reduceDiv, lt_2, lt_3, lt_4, lt_5, lt_6, lt_7, lt_8, lt_10, lt_11, lt_12, lt_15, lt_16, lt_18, lt_20, lt_24, lt_31, lt_32, lt_48, lt_57, lt_59, lt_63, lt_64, lt_74, lt_75, lt_97, lt_122, lt_128, lt_144, lt_145, lt_146, lt_147, lt_155, lt_163, lt_171, lt_179, lt_200, lt_243, lt_244, lt_255, lt_256, lt_732, lt_900, lt_3660, lt_3904, lt_4095, lt_65536, lt_65537, lt_252645135, lt_858993459, lt_1431655765, ↓p_has_b, p_has, ↓p_has9_b, p_has9, ↓p_bit_b, p_bit, ↓p_bit1_b, p_bit1, ↓p_bit0_b, p_bit0, p_X9_store, p_X9_store_23, hL.t, ↓bnd (F), F, ↓x_refused_b hL, x_refused hL]
  · rw [z] at F
    cases z2 : ok true 8 i
    · rw [z2] at F2
      rw [Bool.and_false, if_neg (by decide)]
      refine xc_no1 (L' := L) H (Xq.z I m) ?_
      simp (maxSteps := 1000000) (disch := omega) only [↓reduceIte, ↓if_bi0, ↓if_bi1, hp_tg, hp_rI, hp_rR, hp_rL, hp_wI, hp_wL, Option.bind_some, if_11, if_01, bi_and1, i10, i01, bi_t, bi_f, ic_add, mr_4, ml_4, mr_8, ml_8, mr_10, ml_10, ic_add1, ic_sub1, ic_clamp, ic_div, ic_irm, ic_lt0, ic_0lt, ic_eq0, ic_lt, ic_inj, and15, and7, and31, and63, shl1, shr_ok, neg_1, neg_2, neg_3, neg_4, kc_lt0, kc_ic, kc_m2, kc_1, kc_0, i0_add, add_i0, or_i0, z_8, z_4, z_64, z_256, ic_m2, ec_m1, ic_m1, m1_lt0, m2_lt0, m3_lt0, m4_lt0, up_s, if_true, if_false, ne_eq, not_true_eq_false, not_false_eq_true, Bool.false_eq_true, eq_self, or_self, or_false, false_or, and_self, and_true, true_and, ite_self, Nat.reduceEqDiff, Nat.reduceLT, Nat.reduceMod, Nat.reduceMul, Nat.reduceAdd, Nat.reducePow, Nat.reduceDiv, lt_2, lt_3, lt_4, lt_5, lt_6, lt_7, lt_8, lt_10, lt_11, lt_12, lt_15, lt_16, lt_18, lt_20, lt_24, lt_31, lt_32, lt_48, lt_57, lt_59, lt_63, lt_64, lt_74, lt_75, lt_97, lt_122, lt_128, lt_144, lt_145, lt_146, lt_147, lt_155, lt_163, lt_171, lt_179, lt_200, lt_243, lt_244, lt_255, lt_256, lt_732, lt_900, lt_3660, lt_3904, lt_4095, lt_65536, lt_65537, lt_252645135, lt_858993459, lt_1431655765, ↓p_has_b, p_has, ↓p_has9_b, p_has9, ↓p_bit_b, p_bit, ↓p_bit1_b, p_bit1, ↓p_bit0_b, p_bit0, p_X9_store, p_X9_store_23, hL.t, ↓bnd (F), F, ↓bnd (F2), F2, ↓x_refused_b hL, x_refused hL]
    · rw [z2] at F2
      rw [Bool.and_self, if_pos rfl]
      cases z3 : ok true 4096 w
      · rw [z3] at F3
        rw [if_neg (by decide)]
        refine xc_to (L' := L) (e := 2) H (Xq.z I m) (by decide) ?_
        simp (maxSteps := 1000000) (disch := omega) only [↓reduceIte, ↓if_bi0, ↓if_bi1, hp_tg, hp_rI, hp_rR, hp_rL, hp_wI, hp_wL, Option.bind_some, if_11, if_01, bi_and1, i10, i01, bi_t, bi_f, ic_add, mr_4, ml_4, mr_8, ml_8, mr_10, ml_10, ic_add1, ic_sub1, ic_clamp, ic_div, ic_irm, ic_lt0, ic_0lt, ic_eq0, ic_lt, ic_inj, and15, and7, and31, and63, shl1, shr_ok, neg_1, neg_2, neg_3, neg_4, kc_lt0, kc_ic, kc_m2, kc_1, kc_0, i0_add, add_i0, or_i0, z_8, z_4, z_64, z_256, ic_m2, ec_m1, ic_m1, m1_lt0, m2_lt0, m3_lt0, m4_lt0, up_s, if_true, if_false, ne_eq, not_true_eq_false, not_false_eq_true, Bool.false_eq_true, eq_self, or_self, or_false, false_or, and_self, and_true, true_and, ite_self, Nat.reduceEqDiff, Nat.reduceLT, Nat.reduceMod, Nat.reduceMul, Nat.reduceAdd, Nat.reducePow, Nat.reduceDiv, lt_2, lt_3, lt_4, lt_5, lt_6, lt_7, lt_8, lt_10, lt_11, lt_12, lt_15, lt_16, lt_18, lt_20, lt_24, lt_31, lt_32, lt_48, lt_57, lt_59, lt_63, lt_64, lt_74, lt_75, lt_97, lt_122, lt_128, lt_144, lt_145, lt_146, lt_147, lt_155, lt_163, lt_171, lt_179, lt_200, lt_243, lt_244, lt_255, lt_256, lt_732, lt_900, lt_3660, lt_3904, lt_4095, lt_65536, lt_65537, lt_252645135, lt_858993459, lt_1431655765, ↓p_has_b, p_has, ↓p_has9_b, p_has9, ↓p_bit_b, p_bit, ↓p_bit1_b, p_bit1, ↓p_bit0_b, p_bit0, p_X9_store, p_X9_store_23, hL.t, ↓bnd (F), F, ↓bnd (F2), F2, ↓bnd (F3), F3, ↓x_refused_b hL, x_refused hL]
      · rw [z3] at F3
        rw [if_pos rfl]
        obtain ⟨hr, f, hf, rfl⟩ := ok_t (by omega) z
        obtain ⟨-, k, hk, rfl⟩ := ok_t (by omega) z2
        obtain ⟨-, n, hn, rfl⟩ := ok_t (by omega) z3
        rw [ic_clamp (show f < 2147483648 by omega), ic_clamp (show k < 2147483648 by omega), ic_clamp (show n < 2147483648 by omega)]
        obtain ⟨V1, V2, V3, -⟩ := hV.2.2.2.2.2.2.1 hr
        have c9 := V3.2
        obtain ⟨J, e1, XJ⟩ := x_rem (L := L) H hr (Xq.z I m)
        have XJ9 := XJ
        obtain ⟨p1, w1, g19, g26, g27, g28, g29, gj, gb⟩ := XJ9
        obtain ⟨J2, e2, w2, f2, k27, k28, k31, k32, kj⟩ := x_stores (L := L) hL w1 V3.1 (by omega) g26 hf hk hn us
        have hj : ∀ j, 2 < j → j < 26 → j ≠ 19 → J2 m j = I m j := fun j q1 q2 q3 => (kj j (by omega)).trans (gj j q1 q2 q3)
        have h22 : J2 m 22 = ic (vP W) := (hj 22 (by omega) (by omega) (by omega)).trans hX.2.2.2.2.2.2.2.1
        rw [bi_b2] at k32
        have uo : ∀ j, j ≠ 22 → up2 J2 m 22 (ic (vP W + b2 (stT (rch (vS W) (tP (vT W)) f true us)) 1)) m j = J2 m j := fun j q => up_k q
        have uy : ∀ y, y ≠ m → up2 J2 m 22 (ic (vP W + b2 (stT (rch (vS W) (tP (vT W)) f true us)) 1)) y = J2 y := fun y q => funext fun j => up_a q
        obtain ⟨K, e3, w3, t1, t2, t21, t22, t23, t24, t25, tj, tb⟩ := x_counted (L := L) (J := up2 J2 m 22 (ic (vP W + b2 (stT (rch (vS W) (tP (vT W)) f true us)) 1))) hL (lc (rch (vS W) (tP (vT W)) f true us).2.1) (F := vF W) (f := b2 (!(rch (vS W) (tP (vT W)) f true us).2.2.2.2) 1) (D := vD W) (d := (rch (vS W) (tP (vT W)) f true us).2.2.1) (A := vH W + vF W) (G := vH W) (by rw [uo 21 (by omega), hj 21 (by omega) (by omega) (by omega)]; exact hX.2.2.2.2.2.2.1) (by rw [uo 27 (by omega), k27, g27, i0_add, bi_b2]) (by rw [uo 23 (by omega), hj 23 (by omega) (by omega) (by omega)]; exact hX.2.2.2.2.2.2.2.2.1) (by rw [uo 28 (by omega), k28, g28, i0_add]) (by rw [uo 25 (by omega), hj 25 (by omega) (by omega) (by omega)]; exact hX.2.2.2.2.2.2.2.2.2.2.1) (by rw [uo 24 (by omega), hj 24 (by omega) (by omega) (by omega)]; exact hX.2.2.2.2.2.2.2.2.2.1) (by rw [uo 31 (by omega)]; exact k31) (by rw [uy (m + 3) (by omega)]; exact w2)
        refine xc_act (L' := L) H hr XJ w3 t1 t2 (fun j q1 q2 => by rw [tj j q1 q2, uo j (by omega), kj j (by omega)]) t21 (by rw [t22, up_s]) t23 t24 ?_ (fun b q1 q2 q3 => by rw [tb b q1 q2, uy b q1, f2 b q1 q3]) ?_
        · rw [t25]
          congr 1
          cases (rch (vS W) (tP (vT W)) f true us).2.2.2.2
          · show vH W + vF W + 1 = vH W + 0 + (vF W + 1); omega
          · show vH W + vF W + 1 = vH W + 1 + (vF W + 0); omega
        · simp (maxSteps := 1000000) (disch := omega) only [↓reduceIte, ↓if_bi0, ↓if_bi1, hp_tg, hp_rI, hp_rR, hp_rL, hp_wI, hp_wL, Option.bind_some, if_11, if_01, bi_and1, i10, i01, bi_t, bi_f, ic_add, mr_4, ml_4, mr_8, ml_8, mr_10, ml_10, ic_add1, ic_sub1, ic_clamp, ic_div, ic_irm, ic_lt0, ic_0lt, ic_eq0, ic_lt, ic_inj, and15, and7, and31, and63, shl1, shr_ok, neg_1, neg_2, neg_3, neg_4, kc_lt0, kc_ic, kc_m2, kc_1, kc_0, i0_add, add_i0, or_i0, z_8, z_4, z_64, z_256, ic_m2, ec_m1, ic_m1, m1_lt0, m2_lt0, m3_lt0, m4_lt0, up_s, if_true, if_false, ne_eq, not_true_eq_false, not_false_eq_true, Bool.false_eq_true, eq_self, or_self, or_false, false_or, and_self, and_true, true_and, ite_self, Nat.reduceEqDiff, Nat.reduceLT, Nat.reduceMod, Nat.reduceMul, Nat.reduceAdd, Nat.reducePow, Nat.reduceDiv, lt_2, lt_3, lt_4, lt_5, lt_6, lt_7, lt_8, lt_10, lt_11, lt_12, lt_15, lt_16, lt_18, lt_20, lt_24, lt_31, lt_32, lt_48, lt_57, lt_59, lt_63, lt_64, lt_74, lt_75, lt_97, lt_122, lt_128, lt_144, lt_145, lt_146, lt_147, lt_155, lt_163, lt_171, lt_179, lt_200, lt_243, lt_244, lt_255, lt_256, lt_732, lt_900, lt_3660, lt_3904, lt_4095, lt_65536, lt_65537, lt_252645135, lt_858993459, lt_1431655765, ↓p_has_b, p_has, ↓p_has9_b, p_has9, ↓p_bit_b, p_bit, ↓p_bit1_b, p_bit1, ↓p_bit0_b, p_bit0, p_X9_store, hL.t, ↓bnd (F), F, ↓bnd (F2), F2, ↓bnd (F3), F3, ↓bnd (e1), e1, ↓bnd (e2), e2, h22, k32, ↓bnd (e3), e3]
theorem xc_load (H : XH S I m a W c) (v : Int32) : XC S I m a (p_X9_load m v (hp S I L)) (lod W v) := by
  have H9 := H
  have a0 := H.a0
  obtain ⟨hL, hm, hM, hX, hV⟩ := H9
  unfold lod
  cases hr : vR W
  · have lm := hM.2 hr
    rw [ok_ff, if_neg (by decide)]
    refine xc_no1 (L' := L) H (Xq.z I m) ?_
    simp (maxSteps := 1000000) (disch := omega) only [↓reduceIte, ↓if_bi0, ↓if_bi1, hp_tg, hp_rI, hp_rR, hp_rL, hp_wI, hp_wL, Option.bind_some, if_11, if_01, bi_and1, i10, i01, bi_t, bi_f, ic_add, mr_4, ml_4, mr_8, ml_8, mr_10, ml_10, ic_add1, ic_sub1, ic_clamp, ic_div, ic_irm, ic_lt0, ic_0lt, ic_eq0, ic_lt, ic_inj, and15, and7, and31, and63, shl1, shr_ok, neg_1, neg_2, neg_3, neg_4, kc_lt0, kc_ic, kc_m2, kc_1, kc_0, i0_add, add_i0, or_i0, z_8, z_4, z_64, z_256, ic_m2, ec_m1, ic_m1, m1_lt0, m2_lt0, m3_lt0, m4_lt0, up_s, if_true, if_false, ne_eq, not_true_eq_false, not_false_eq_true, Bool.false_eq_true, eq_self, or_self, or_false, false_or, and_self, and_true, true_and, ite_self, Nat.reduceEqDiff, Nat.reduceLT, Nat.reduceMod, Nat.reduceMul, Nat.reduceAdd, Nat.reducePow, Nat.reduceDiv, lt_2, lt_3, lt_4, lt_5, lt_6, lt_7, lt_8, lt_10, lt_11, lt_12, lt_15, lt_16, lt_18, lt_20, lt_24, lt_31, lt_32, lt_48, lt_57, lt_59, lt_63, lt_64, lt_74, lt_75, lt_97, lt_122, lt_128, lt_144, lt_145, lt_146, lt_147, lt_155, lt_163, lt_171, lt_179, lt_200, lt_243, lt_244, lt_255, lt_256, lt_732, lt_900, lt_3660, lt_3904, lt_4095, lt_65536, lt_65537, lt_252645135, lt_858993459, lt_1431655765, ↓p_has_b, p_has, ↓p_has9_b, p_has9, ↓p_bit_b, p_bit, ↓p_bit1_b, p_bit1, ↓p_bit0_b, p_bit0, p_X9_load, p_X9_load_19, hL.t, lm, ↓x_refused_b hL, x_refused hL]
  · have lm := (hM.y hr).1
    have F := x_isFrame v (hp S (up2 I m 0 0) L)
    cases z : ok true 16 v
    · rw [z] at F
      rw [if_neg (by decide)]
      refine xc_no1 (L' := L) H (Xq.z I m) ?_
      simp (maxSteps := 1000000) (disch := omega) only [↓reduceIte, ↓if_bi0, ↓if_bi1, hp_tg, hp_rI, hp_rR, hp_rL, hp_wI, hp_wL, Option.bind_some, if_11, if_01, bi_and1, i10, i01, bi_t, bi_f, ic_add, mr_4, ml_4, mr_8, ml_8, mr_10, ml_10, ic_add1, ic_sub1, ic_clamp, ic_div, ic_irm, ic_lt0, ic_0lt, ic_eq0, ic_lt, ic_inj, and15, and7, and31, and63, shl1, shr_ok, neg_1, neg_2, neg_3, neg_4, kc_lt0, kc_ic, kc_m2, kc_1, kc_0, i0_add, add_i0, or_i0, z_8, z_4, z_64, z_256, ic_m2, ec_m1, ic_m1, m1_lt0, m2_lt0, m3_lt0, m4_lt0, up_s, if_true, if_false, ne_eq, not_true_eq_false, not_false_eq_true, Bool.false_eq_true, eq_self, or_self, or_false, false_or, and_self, and_true, true_and, ite_self, Nat.reduceEqDiff, Nat.reduceLT, Nat.reduceMod, Nat.reduceMul, Nat.reduceAdd, Nat.reducePow, Nat.reduceDiv, lt_2, lt_3, lt_4, lt_5, lt_6, lt_7, lt_8, lt_10, lt_11, lt_12, lt_15, lt_16, lt_18, lt_20, lt_24, lt_31, lt_32, lt_48, lt_57, lt_59, lt_63, lt_64, lt_74, lt_75, lt_97, lt_122, lt_128, lt_144, lt_145, lt_146, lt_147, lt_155, lt_163, lt_171, lt_179, lt_200, lt_243, lt_244, lt_255, lt_256, lt_732, lt_900, lt_3660, lt_3904, lt_4095, lt_65536, lt_65537, lt_252645135, lt_858993459, lt_1431655765, ↓p_has_b, p_has, ↓p_has9_b, p_has9, ↓p_bit_b, p_bit, ↓p_bit1_b, p_bit1, ↓p_bit0_b, p_bit0, p_X9_load, p_X9_load_19, hL.t, lm, a0, ↓bnd (F), F, ↓x_refused_b hL, x_refused hL]
    · rw [z] at F
      rw [if_pos rfl]
      obtain ⟨-, f, hf, rfl⟩ := ok_t (by omega) z
      rw [ic_clamp (show f < 2147483648 by omega)]
      obtain ⟨V1, V2, V3, -⟩ := hV.2.2.2.2.2.2.1 hr
      obtain ⟨J, e1, XJ⟩ := x_rem (L := L) H hr (Xq.z I m)
      have XJ9 := XJ
      obtain ⟨p1, w1, g19, g26, g27, g28, g29, gj, gb⟩ := XJ9
      have w2 : RW (up2 J (m + 3) 146 (ic f) (m + 3)) (ur (vS W) f) := (w1.setrt (ic f) rfl).cong fun j _ => up_i _ _ _ _ _
      have uy : ∀ y, y ≠ m + 3 → up2 J (m + 3) 146 (ic f) y = J y := fun y q => funext fun j => up_a q
      obtain ⟨K, e2, w3, t1, t2, tj, tb⟩ := x_load42 (L := L) hL w2 V3.1 (by rw [uy m (by omega)]; exact g26) hf
      have hk : ∀ j, 2 < j → j < 26 → K m j = J m j := fun j q1 q2 => by rw [tj j (by omega) (by omega), uy m (by omega)]
      refine xc_act (L' := L) H hr XJ w3 t1 t2 (fun j q1 q2 => hk j q1 (by omega)) (by rw [hk 21 (by omega) (by omega), gj 21 (by omega) (by omega) (by omega)]; exact hX.2.2.2.2.2.2.1) (by rw [hk 22 (by omega) (by omega), gj 22 (by omega) (by omega) (by omega)]; exact hX.2.2.2.2.2.2.2.1) (by rw [hk 23 (by omega) (by omega), gj 23 (by omega) (by omega) (by omega)]; exact hX.2.2.2.2.2.2.2.2.1) (by rw [hk 24 (by omega) (by omega), gj 24 (by omega) (by omega) (by omega)]; exact hX.2.2.2.2.2.2.2.2.2.1) (by rw [hk 25 (by omega) (by omega), gj 25 (by omega) (by omega) (by omega)]; exact hX.2.2.2.2.2.2.2.2.2.2.1) (fun b q1 q2 q3 => by rw [tb b q1 q2 q3, uy b q3]) ?_
      refine Eq.trans ?_ e2
      simp (maxSteps := 1000000) (disch := omega) only [↓reduceIte, ↓if_bi0, ↓if_bi1, hp_tg, hp_rI, hp_rR, hp_rL, hp_wI, hp_wL, Option.bind_some, if_11, if_01, bi_and1, i10, i01, bi_t, bi_f, ic_add, mr_4, ml_4, mr_8, ml_8, mr_10, ml_10, ic_add1, ic_sub1, ic_clamp, ic_div, ic_irm, ic_lt0, ic_0lt, ic_eq0, ic_lt, ic_inj, and15, and7, and31, and63, shl1, shr_ok, neg_1, neg_2, neg_3, neg_4, kc_lt0, kc_ic, kc_m2, kc_1, kc_0, i0_add, add_i0, or_i0, z_8, z_4, z_64, z_256, ic_m2, ec_m1, ic_m1, m1_lt0, m2_lt0, m3_lt0, m4_lt0, up_s, if_true, if_false, ne_eq, not_true_eq_false, not_false_eq_true, Bool.false_eq_true, eq_self, or_self, or_false, false_or, and_self, and_true, true_and, ite_self, Nat.reduceEqDiff, Nat.reduceLT, Nat.reduceMod, Nat.reduceMul, Nat.reduceAdd, Nat.reducePow, Nat.reduceDiv, lt_2, lt_3, lt_4, lt_5, lt_6, lt_7, lt_8, lt_10, lt_11, lt_12, lt_15, lt_16, lt_18, lt_20, lt_24, lt_31, lt_32, lt_48, lt_57, lt_59, lt_63, lt_64, lt_74, lt_75, lt_97, lt_122, lt_128, lt_144, lt_145, lt_146, lt_147, lt_155, lt_163, lt_171, lt_179, lt_200, lt_243, lt_244, lt_255, lt_256, lt_732, lt_900, lt_3660, lt_3904, lt_4095, lt_65536, lt_65537, lt_252645135, lt_858993459, lt_1431655765, ↓p_has_b, p_has, ↓p_has9_b, p_has9, ↓p_bit_b, p_bit, ↓p_bit1_b, p_bit1, ↓p_bit0_b, p_bit0, p_X9_load, hL.t, lm, a0, ↓bnd (F), F, ↓bnd (e1), e1, hL.x, if_inB hL.xt]
theorem xc_flush (H : XH S I m a W c) (v : Int32) : XC S I m a (p_X9_flush m v (hp S I L)) (flu W v) := by
  have H9 := H
  have F := x_asked (L := L) H v
  obtain ⟨hL, hm, hM, hX, hV⟩ := H9
  unfold flu
  cases z : ok (vR W) 64 v
  · rw [z] at F
    rw [if_neg (by decide)]
    refine xc_no1 (L' := L) H (Xq.z I m) ?_
    simp (maxSteps := 1000000) (disch := omega) only [↓reduceIte, ↓if_bi0, ↓if_bi1, hp_tg, hp_rI, hp_rR, hp_rL, hp_wI, hp_wL, Option.bind_some, if_11, if_01, bi_and1, i10, i01, bi_t, bi_f, ic_add, mr_4, ml_4, mr_8, ml_8, mr_10, ml_10, ic_add1, ic_sub1, ic_clamp, ic_div, ic_irm, ic_lt0, ic_0lt, ic_eq0, ic_lt, ic_inj, and15, and7, and31, and63, shl1, shr_ok, neg_1, neg_2, neg_3, neg_4, kc_lt0, kc_ic, kc_m2, kc_1, kc_0, i0_add, add_i0, or_i0, z_8, z_4, z_64, z_256, ic_m2, ec_m1, ic_m1, m1_lt0, m2_lt0, m3_lt0, m4_lt0, up_s, if_true, if_false, ne_eq, not_true_eq_false, not_false_eq_true, Bool.false_eq_true, eq_self, or_self, or_false, false_or, and_self, and_true, true_and, ite_self, Nat.reduceEqDiff, Nat.reduceLT, Nat.reduceMod, Nat.reduceMul, Nat.reduceAdd, Nat.reducePow, Nat.reduceDiv, lt_2, lt_3, lt_4, lt_5, lt_6, lt_7, lt_8, lt_10, lt_11, lt_12, lt_15, lt_16, lt_18, lt_20, lt_24, lt_31, lt_32, lt_48, lt_57, lt_59, lt_63, lt_64, lt_74, lt_75, lt_97, lt_122, lt_128, lt_144, lt_145, lt_146, lt_147, lt_155, lt_163, lt_171, lt_179, lt_200, lt_243, lt_244, lt_255, lt_256, lt_732, lt_900, lt_3660, lt_3904, lt_4095, lt_65536, lt_65537, lt_252645135, lt_858993459, lt_1431655765, ↓p_has_b, p_has, ↓p_has9_b, p_has9, ↓p_bit_b, p_bit, ↓p_bit1_b, p_bit1, ↓p_bit0_b, p_bit0, p_X9_flush, hL.t, ↓bnd (F), F, ↓x_refused_b hL, x_refused hL]
  · rw [z] at F
    rw [if_pos rfl]
    obtain ⟨hr, f, hf, rfl⟩ := ok_t (by omega) z
    rw [ic_clamp (show f < 2147483648 by omega)]
    obtain ⟨V1, V2, V3, -⟩ := hV.2.2.2.2.2.2.1 hr
    obtain ⟨J, e1, XJ⟩ := x_rem (L := L) H hr (Xq.z I m)
    have XJ9 := XJ
    obtain ⟨p1, w1, g19, g26, g27, g28, g29, gj, gb⟩ := XJ9
    have e2 : p_X9_hitAt m (ic f) 0 0 (hp S J L) = some (ha (hit (vS W) f false false), hp S J L) := x_hitAt (L := L) hL w1 V3.1 g26 hf false false
    have u1 := V3.1.2.2
    unfold fls flN
    by_cases d : upe (vS W) f = 0
    · rw [show hit (vS W) f false false = none by unfold hit; rw [if_pos d], show ha none = m1 from rfl] at e2
      rw [if_pos d, if_pos d]
      refine xc_act0 (L := L) (L' := L) H hr XJ w1 (fun j _ => rfl) (fun b _ _ => rfl) ?_
      intro K eK
      simp (maxSteps := 1000000) (disch := omega) only [↓reduceIte, ↓if_bi0, ↓if_bi1, hp_tg, hp_rI, hp_rR, hp_rL, hp_wI, hp_wL, Option.bind_some, if_11, if_01, bi_and1, i10, i01, bi_t, bi_f, ic_add, mr_4, ml_4, mr_8, ml_8, mr_10, ml_10, ic_add1, ic_sub1, ic_clamp, ic_div, ic_irm, ic_lt0, ic_0lt, ic_eq0, ic_lt, ic_inj, and15, and7, and31, and63, shl1, shr_ok, neg_1, neg_2, neg_3, neg_4, kc_lt0, kc_ic, kc_m2, kc_1, kc_0, i0_add, add_i0, or_i0, z_8, z_4, z_64, z_256, ic_m2, ec_m1, ic_m1, m1_lt0, m2_lt0, m3_lt0, m4_lt0, up_s, if_true, if_false, ne_eq, not_true_eq_false, not_false_eq_true, Bool.false_eq_true, eq_self, or_self, or_false, false_or, and_self, and_true, true_and, ite_self, Nat.reduceEqDiff, Nat.reduceLT, Nat.reduceMod, Nat.reduceMul, Nat.reduceAdd, Nat.reducePow, Nat.reduceDiv, lt_2, lt_3, lt_4, lt_5, lt_6, lt_7, lt_8, lt_10, lt_11, lt_12, lt_15, lt_16, lt_18, lt_20, lt_24, lt_31, lt_32, lt_48, lt_57, lt_59, lt_63, lt_64, lt_74, lt_75, lt_97, lt_122, lt_128, lt_144, lt_145, lt_146, lt_147, lt_155, lt_163, lt_171, lt_179, lt_200, lt_243, lt_244, lt_255, lt_256, lt_732, lt_900, lt_3660, lt_3904, lt_4095, lt_65536, lt_65537, lt_252645135, lt_858993459, lt_1431655765, ↓p_has_b, p_has, ↓p_has9_b, p_has9, ↓p_bit_b, p_bit, ↓p_bit1_b, p_bit1, ↓p_bit0_b, p_bit0, p_X9_flush, p_X9_flush_43, p_X9_flush_58, hL.t, ↓bnd (F), F, ↓bnd (e1), e1, ↓bnd (e2), e2, ↓bnd (eK), eK, ↓x_good_b hL, x_good hL, ic_zero]
    · rw [if_neg d, if_neg d]
      have hat : 8 * ((upe (vS W) f - 1) / 4) + f % 8 < 64 := by have := upe_4 V3.1 hf d; omega
      generalize hq : 8 * ((upe (vS W) f - 1) / 4) + f % 8 = at9 at hat ⊢
      by_cases d2 : se (vS W) at9 = 0
      · rw [show hit (vS W) f false false = none by unfold hit; rw [if_neg d, hq, if_pos d2], show ha none = m1 from rfl] at e2
        refine xc_act0 (L := L) (L' := L) H hr XJ (w1.toue fun b _ => ?_) (fun j _ => rfl) (fun b _ _ => rfl) ?_
        · show _ = if b = at9 then 0 else se (vS W) b
          by_cases e : b = at9
          · rw [if_pos e, e, d2]
          · rw [if_neg e]
        · intro K eK
          rw [decide_eq_false (fun q => q d2)]
          simp (maxSteps := 1000000) (disch := omega) only [↓reduceIte, ↓if_bi0, ↓if_bi1, hp_tg, hp_rI, hp_rR, hp_rL, hp_wI, hp_wL, Option.bind_some, if_11, if_01, bi_and1, i10, i01, bi_t, bi_f, ic_add, mr_4, ml_4, mr_8, ml_8, mr_10, ml_10, ic_add1, ic_sub1, ic_clamp, ic_div, ic_irm, ic_lt0, ic_0lt, ic_eq0, ic_lt, ic_inj, and15, and7, and31, and63, shl1, shr_ok, neg_1, neg_2, neg_3, neg_4, kc_lt0, kc_ic, kc_m2, kc_1, kc_0, i0_add, add_i0, or_i0, z_8, z_4, z_64, z_256, ic_m2, ec_m1, ic_m1, m1_lt0, m2_lt0, m3_lt0, m4_lt0, up_s, if_true, if_false, ne_eq, not_true_eq_false, not_false_eq_true, Bool.false_eq_true, eq_self, or_self, or_false, false_or, and_self, and_true, true_and, ite_self, Nat.reduceEqDiff, Nat.reduceLT, Nat.reduceMod, Nat.reduceMul, Nat.reduceAdd, Nat.reducePow, Nat.reduceDiv, lt_2, lt_3, lt_4, lt_5, lt_6, lt_7, lt_8, lt_10, lt_11, lt_12, lt_15, lt_16, lt_18, lt_20, lt_24, lt_31, lt_32, lt_48, lt_57, lt_59, lt_63, lt_64, lt_74, lt_75, lt_97, lt_122, lt_128, lt_144, lt_145, lt_146, lt_147, lt_155, lt_163, lt_171, lt_179, lt_200, lt_243, lt_244, lt_255, lt_256, lt_732, lt_900, lt_3660, lt_3904, lt_4095, lt_65536, lt_65537, lt_252645135, lt_858993459, lt_1431655765, ↓p_has_b, p_has, ↓p_has9_b, p_has9, ↓p_bit_b, p_bit, ↓p_bit1_b, p_bit1, ↓p_bit0_b, p_bit0, p_X9_flush, p_X9_flush_43, p_X9_flush_58, hL.t, ↓bnd (F), F, ↓bnd (e1), e1, ↓bnd (e2), e2, ↓bnd (eK), eK, ↓x_good_b hL, x_good hL]
          rfl
      · rw [show hit (vS W) f false false = some at9 by unfold hit; rw [if_neg d, hq, if_neg d2]; rfl, show ha (some at9) = ic (179 + at9) from rfl] at e2
        have w2 : RW (up2 J (m + 3) (179 + at9) m1 (m + 3)) (ue (vS W) (up1 (se (vS W)) at9 0)) := (w1.sete (e := 0) m1 rfl hat).cong fun j _ => up_i _ _ _ _ _
        have uy : ∀ y, y ≠ m + 3 → up2 J (m + 3) (179 + at9) m1 y = J y := fun y q => funext fun j => up_a q
        refine xc_act0 (L := L) (L' := L) (J' := up2 J (m + 3) (179 + at9) m1) H hr XJ w2 (fun j _ => by rw [uy m (by omega)]) (fun b _ q => uy b q) ?_
        intro K eK
        rw [decide_eq_true d2]
        simp (maxSteps := 1000000) (disch := omega) only [↓reduceIte, ↓if_bi0, ↓if_bi1, hp_tg, hp_rI, hp_rR, hp_rL, hp_wI, hp_wL, Option.bind_some, if_11, if_01, bi_and1, i10, i01, bi_t, bi_f, ic_add, mr_4, ml_4, mr_8, ml_8, mr_10, ml_10, ic_add1, ic_sub1, ic_clamp, ic_div, ic_irm, ic_lt0, ic_0lt, ic_eq0, ic_lt, ic_inj, and15, and7, and31, and63, shl1, shr_ok, neg_1, neg_2, neg_3, neg_4, kc_lt0, kc_ic, kc_m2, kc_1, kc_0, i0_add, add_i0, or_i0, z_8, z_4, z_64, z_256, ic_m2, ec_m1, ic_m1, m1_lt0, m2_lt0, m3_lt0, m4_lt0, up_s, if_true, if_false, ne_eq, not_true_eq_false, not_false_eq_true, Bool.false_eq_true, eq_self, or_self, or_false, false_or, and_self, and_true, true_and, ite_self, Nat.reduceEqDiff, Nat.reduceLT, Nat.reduceMod, Nat.reduceMul, Nat.reduceAdd, Nat.reducePow, Nat.reduceDiv, lt_2, lt_3, lt_4, lt_5, lt_6, lt_7, lt_8, lt_10, lt_11, lt_12, lt_15, lt_16, lt_18, lt_20, lt_24, lt_31, lt_32, lt_48, lt_57, lt_59, lt_63, lt_64, lt_74, lt_75, lt_97, lt_122, lt_128, lt_144, lt_145, lt_146, lt_147, lt_155, lt_163, lt_171, lt_179, lt_200, lt_243, lt_244, lt_255, lt_256, lt_732, lt_900, lt_3660, lt_3904, lt_4095, lt_65536, lt_65537, lt_252645135, lt_858993459, lt_1431655765, ↓p_has_b, p_has, ↓p_has9_b, p_has9, ↓p_bit_b, p_bit, ↓p_bit1_b, p_bit1, ↓p_bit0_b, p_bit0, p_X9_flush, p_X9_flush_43, p_X9_flush_58, hL.t, hL.x, if_inB hL.xt, ↓bnd (F), F, ↓bnd (e1), e1, ↓bnd (e2), e2, ↓bnd (eK), eK, ↓x_good_b hL, x_good hL]
        rfl
end ACX
