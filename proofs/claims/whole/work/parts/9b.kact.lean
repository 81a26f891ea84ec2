/-! ===== device, unmap, give, protect, clean: the class ===== -/
def dvW (W : WD) (f i x : Int32) : Int32 × WD := if (ok (vR W) 16 f && ok true 8 i) = true then (if ok true 4096 x = true then (if 0 < sH (vS W) f.toNatClampNeg then (ic (dvN (vS W) f.toNatClampNeg i.toNatClampNeg), act W (dev (vS W) f.toNatClampNeg i.toNatClampNeg x.toNatClampNeg) 0 0 0 0) else (m1, uE W 5)) else (m1, uE W 2)) else (m1, uE W 1)
def unW (W : WD) (f : Int32) : Int32 × WD := if ok (vR W) 16 f = true then (if 0 < sH (vS W) f.toNatClampNeg then (ic (cnt (fun a => isM (vS W) a f.toNatClampNeg) 64), act W (unm (vS W) f.toNatClampNeg) 0 0 0 0) else (m1, uE W 5)) else (m1, uE W 1)
def giW (W : WD) (f h : Int32) (b : Bool) : Int32 × WD := if ok (vR W) 16 f = true then (if ok true 32 h = true then (if sH (vS W) f.toNatClampNeg = 0 ∧ fs (fun k => decide (sH (vS W) k = h.toNatClampNeg + 1)) 16 0 = none then (1, act W (giv (vS W) f.toNatClampNeg h.toNatClampNeg b) 0 0 0 0) else (0, uE W 5)) else (0, uE W 2)) else (0, uE W 1)
def prW (W : WD) (f : Int32) : Int32 × WD := if ok (vR W) 16 f = true then (if sw (vS W) f.toNatClampNeg = true then (ic (cnt (fun a => isMW (vS W) a f.toNatClampNeg) 64), act W (pro (vS W) f.toNatClampNeg) 0 0 0 0) else (m1, uE W 5)) else (m1, uE W 1)
def clW (W : WD) (f : Int32) : Int32 × WD := if ok (vR W) 16 f = true then (bi ((sm (vS W)).testBit f.toNatClampNeg), act W (cle (vS W) f.toNatClampNeg) 0 0 0 0) else (m1, uE W 1)
section KAC
variable {S : SH} {I J J' : II} {L L' : LL} {o x ta tb p q rg pc rs ps m ou a c e pl : Nat} {W : WD} {s : St}
/-- an act of the class that counts nothing -/
theorem kc_act0 {oo : Option (Int32 × AH)} {r : Int32} (H : KH S I o x ta tb p q rg pc rs ps m ou W c) (C1 : CI J o x ta p q rs ps (uKp W)) (f1 : ∀ y, m ≤ y → J y = I y) (f : Fr J J' (p + 2) (p + 9)) (hR : PR J' p s (tP (vT W))) (h : oo = some (r, hp S (up2 J' o 11 0) L)) : KC S I L o x ta p q rs ps m oo (r, act W s 0 0 0 0) := by
  have ep : J' p = J p := f p (by omega)
  have cH := C1.2.2.2.2.2.2.2.2.2.2.2.2.2.1
  have cF := C1.2.2.2.2.2.2.2.2.2.2.2.2.2.2.1
  have cP := C1.2.2.2.2.2.2.2.2.2.2.2.2.2.2.2.1
  have cD := C1.2.2.2.2.2.2.2.2.2.2.2.2.2.2.2.2
  exact kc_act H C1 f1 (fun y hy => f y (by omega)) hR (by rw [ep]; exact cH) (by rw [ep]; exact cF) (by rw [ep]; exact cP) (by rw [ep]; exact cD) h
theorem kc_device (H : KH S I o x ta tb p q rg pc rs ps m ou W c) (v i w : Int32) : KC S I L o x ta p q rs ps m (p_X7_device o v i w (hp S I L)) (dvW W v i w) := by
  have H9 := H
  obtain ⟨hA, ⟨y0, -, -, -, y4, -, -, -, -, -, -, hP, -⟩, hC, hV⟩ := H9
  have F := k_isFrame (L := L) y0 hC.1 v
  have F2 := k_isPlace i (hp S I L)
  have F3 := k_isWord w (hp S I L)
  unfold dvW
  cases z : ok (vR W) 16 v
  · rw [z] at F
    rw [Bool.false_and, if_neg (by decide)]
    refine kc_no1 H ?_
    simp (maxSteps := 1000000) (disch := omega) only [↓reduceIte, ↓if_bi0, ↓if_bi1, hp_tg, hp_rI, hp_rR, hp_rL, hp_wI, hp_wL, Option.bind_some, if_11, if_01, bi_and1, i10, i01, bi_t, bi_f, ic_add, mr_4, ml_4, mr_8, ml_8, mr_10, ml_10, ic_add1, ic_sub1, ic_clamp, ic_div, ic_irm, ic_lt0, ic_0lt, ic_eq0, ic_lt, ic_inj, and15, and7, and31, and63, shl1, shr_ok, neg_1, neg_2, neg_3, neg_4, kc_lt0, kc_ic, kc_m2, kc_1, kc_0, i0_add, add_i0, or_i0, z_8, z_4, z_64, z_256, ic_m2, ec_m1, ic_m1, m1_lt0, m2_lt0, m3_lt0, m4_lt0, up_s, if_true, if_false, ne_eq, not_true_eq_false, not_false_eq_true, Bool.false_eq_true, eq_self, or_self, or_false, false_or, and_self, and_true, true_and, ite_self, Nat.reduceEqDiff, Nat.reduceLT, Nat.reduceMod, Nat.reduceMul, Nat.reduceAdd, Nat.reducePow, Nat.reduceDiv, lt_2, lt_3, lt_4, lt_5, lt_6, lt_7, lt_8, lt_10, lt_11, lt_12, lt_15, lt_16, lt_18, lt_20, lt_24, lt_31, lt_32, lt_48, lt_57, lt_59, lt_63, lt_64, lt_74, lt_75, lt_97, lt_122, lt_128, lt_144, lt_145, lt_146, lt_147, lt_155, lt_163, lt_171, lt_179, lt_200, lt_243, lt_244, lt_255, lt_256, lt_732, lt_900, lt_3660, lt_3904, lt_4095, lt_65536, lt_65537, lt_252645135, lt_858993459, lt_1431655765, ↓p_has_b, p_has, ↓p_has9_b, p_has9, ↓p_bit_b, p_bit, ↓p_bit1_b, p_bit1, ↓p_bit0_b, p_bit0, p_X7_device, p_X7_device_15, p_X7_refuse, y0, ↓bnd (F), F]
  · rw [z] at F
    cases z2 : ok true 8 i
    · rw [z2] at F2
      rw [Bool.and_false, if_neg (by decide)]
      refine kc_no1 H ?_
      simp (maxSteps := 1000000) (disch := omega) only [↓reduceIte, ↓if_bi0, ↓if_bi1, hp_tg, hp_rI, hp_rR, hp_rL, hp_wI, hp_wL, Option.bind_some, if_11, if_01, bi_and1, i10, i01, bi_t, bi_f, ic_add, mr_4, ml_4, mr_8, ml_8, mr_10, ml_10, ic_add1, ic_sub1, ic_clamp, ic_div, ic_irm, ic_lt0, ic_0lt, ic_eq0, ic_lt, ic_inj, and15, and7, and31, and63, shl1, shr_ok, neg_1, neg_2, neg_3, neg_4, kc_lt0, kc_ic, kc_m2, kc_1, kc_0, i0_add, add_i0, or_i0, z_8, z_4, z_64, z_256, ic_m2, ec_m1, ic_m1, m1_lt0, m2_lt0, m3_lt0, m4_lt0, up_s, if_true, if_false, ne_eq, not_true_eq_false, not_false_eq_true, Bool.false_eq_true, eq_self, or_self, or_false, false_or, and_self, and_true, true_and, ite_self, Nat.reduceEqDiff, Nat.reduceLT, Nat.reduceMod, Nat.reduceMul, Nat.reduceAdd, Nat.reducePow, Nat.reduceDiv, lt_2, lt_3, lt_4, lt_5, lt_6, lt_7, lt_8, lt_10, lt_11, lt_12, lt_15, lt_16, lt_18, lt_20, lt_24, lt_31, lt_32, lt_48, lt_57, lt_59, lt_63, lt_64, lt_74, lt_75, lt_97, lt_122, lt_128, lt_144, lt_145, lt_146, lt_147, lt_155, lt_163, lt_171, lt_179, lt_200, lt_243, lt_244, lt_255, lt_256, lt_732, lt_900, lt_3660, lt_3904, lt_4095, lt_65536, lt_65537, lt_252645135, lt_858993459, lt_1431655765, ↓p_has_b, p_has, ↓p_has9_b, p_has9, ↓p_bit_b, p_bit, ↓p_bit1_b, p_bit1, ↓p_bit0_b, p_bit0, p_X7_device, p_X7_device_15, p_X7_refuse, y0, ↓bnd (F), F, ↓bnd (F2), F2]
    · rw [z2] at F2
      rw [Bool.and_self, if_pos rfl]
      cases z3 : ok true 4096 w
      · rw [z3] at F3
        rw [if_neg (by decide)]
        refine kc_no (e := 2) H (by decide) ?_
        simp (maxSteps := 1000000) (disch := omega) only [↓reduceIte, ↓if_bi0, ↓if_bi1, hp_tg, hp_rI, hp_rR, hp_rL, hp_wI, hp_wL, Option.bind_some, if_11, if_01, bi_and1, i10, i01, bi_t, bi_f, ic_add, mr_4, ml_4, mr_8, ml_8, mr_10, ml_10, ic_add1, ic_sub1, ic_clamp, ic_div, ic_irm, ic_lt0, ic_0lt, ic_eq0, ic_lt, ic_inj, and15, and7, and31, and63, shl1, shr_ok, neg_1, neg_2, neg_3, neg_4, kc_lt0, kc_ic, kc_m2, kc_1, kc_0, i0_add, add_i0, or_i0, z_8, z_4, z_64, z_256, ic_m2, ec_m1, ic_m1, m1_lt0, m2_lt0, m3_lt0, m4_lt0, up_s, if_true, if_false, ne_eq, not_true_eq_false, not_false_eq_true, Bool.false_eq_true, eq_self, or_self, or_false, false_or, and_self, and_true, true_and, ite_self, Nat.reduceEqDiff, Nat.reduceLT, Nat.reduceMod, Nat.reduceMul, Nat.reduceAdd, Nat.reducePow, Nat.reduceDiv, lt_2, lt_3, lt_4, lt_5, lt_6, lt_7, lt_8, lt_10, lt_11, lt_12, lt_15, lt_16, lt_18, lt_20, lt_24, lt_31, lt_32, lt_48, lt_57, lt_59, lt_63, lt_64, lt_74, lt_75, lt_97, lt_122, lt_128, lt_144, lt_145, lt_146, lt_147, lt_155, lt_163, lt_171, lt_179, lt_200, lt_243, lt_244, lt_255, lt_256, lt_732, lt_900, lt_3660, lt_3904, lt_4095, lt_65536, lt_65537, lt_252645135, lt_858993459, lt_1431655765, ↓p_has_b, p_has, ↓p_has9_b, p_has9, ↓p_bit_b, p_bit, ↓p_bit1_b, p_bit1, ↓p_bit0_b, p_bit0, p_X7_device, p_X7_device_15, p_X7_refuse, y0, ↓bnd (F), F, ↓bnd (F2), F2, ↓bnd (F3), F3]
      · rw [z3] at F3
        rw [if_pos rfl]
        obtain ⟨hr, f, hf, rfl⟩ := ok_t (by omega) z
        obtain ⟨-, k, hk, rfl⟩ := ok_t (by omega) z2
        obtain ⟨-, n, hn, rfl⟩ := ok_t (by omega) z3
        rw [ic_clamp (show f < 2147483648 by omega), ic_clamp (show k < 2147483648 by omega), ic_clamp (show n < 2147483648 by omega)]
        obtain ⟨V1, V2, V3, -⟩ := hV.2.2.2.2.2.2.1 hr
        have A := g_backed (L := L) hP.G (hC.2.2.2.2.2.2.2.2.2.2.2.2.1 hr).2.1 V3.1.1 hf
        by_cases d : 0 < sH (vS W) f
        · rw [if_pos d]
          rw [decide_eq_true d] at A
          obtain ⟨J, e1, C1, f1⟩ := k_keep (L := L) H hr
          obtain ⟨R0, R1⟩ := C1.2.2.2.2.2.2.2.2.2.2.2.2.1 hr
          obtain ⟨J2, e2, R2, f2⟩ := k_ppw (L := L) hP R1 V3.1 hf hk hn
          have e3 : p_X2_putPastWatching p (ic f) (ic k) (ic n) (hp S J L) = some (ic (dvN (vS W) f k), hp S J2 L) := e2
          refine kc_act0 H C1 f1 f2 R2 ?_
          simp (maxSteps := 1000000) (disch := omega) only [↓reduceIte, ↓if_bi0, ↓if_bi1, hp_tg, hp_rI, hp_rR, hp_rL, hp_wI, hp_wL, Option.bind_some, if_11, if_01, bi_and1, i10, i01, bi_t, bi_f, ic_add, mr_4, ml_4, mr_8, ml_8, mr_10, ml_10, ic_add1, ic_sub1, ic_clamp, ic_div, ic_irm, ic_lt0, ic_0lt, ic_eq0, ic_lt, ic_inj, and15, and7, and31, and63, shl1, shr_ok, neg_1, neg_2, neg_3, neg_4, kc_lt0, kc_ic, kc_m2, kc_1, kc_0, i0_add, add_i0, or_i0, z_8, z_4, z_64, z_256, ic_m2, ec_m1, ic_m1, m1_lt0, m2_lt0, m3_lt0, m4_lt0, up_s, if_true, if_false, ne_eq, not_true_eq_false, not_false_eq_true, Bool.false_eq_true, eq_self, or_self, or_false, false_or, and_self, and_true, true_and, ite_self, Nat.reduceEqDiff, Nat.reduceLT, Nat.reduceMod, Nat.reduceMul, Nat.reduceAdd, Nat.reducePow, Nat.reduceDiv, lt_2, lt_3, lt_4, lt_5, lt_6, lt_7, lt_8, lt_10, lt_11, lt_12, lt_15, lt_16, lt_18, lt_20, lt_24, lt_31, lt_32, lt_48, lt_57, lt_59, lt_63, lt_64, lt_74, lt_75, lt_97, lt_122, lt_128, lt_144, lt_145, lt_146, lt_147, lt_155, lt_163, lt_171, lt_179, lt_200, lt_243, lt_244, lt_255, lt_256, lt_732, lt_900, lt_3660, lt_3904, lt_4095, lt_65536, lt_65537, lt_252645135, lt_858993459, lt_1431655765, ↓p_has_b, p_has, ↓p_has9_b, p_has9, ↓p_bit_b, p_bit, ↓p_bit1_b, p_bit1, ↓p_bit0_b, p_bit0, p_X7_device, p_X7_answer, y0, y4, hP.t, hP.g, hP.gt, ↓bnd (F), F, ↓bnd (F2), F2, ↓bnd (F3), F3, ↓bnd (A), A, ↓bnd (e1), e1, ↓bnd (e3), e3]
        · rw [if_neg d]
          rw [decide_eq_false d] at A
          refine kc_no (e := 5) H (by decide) ?_
          simp (maxSteps := 1000000) (disch := omega) only [↓reduceIte, ↓if_bi0, ↓if_bi1, hp_tg, hp_rI, hp_rR, hp_rL, hp_wI, hp_wL, Option.bind_some, if_11, if_01, bi_and1, i10, i01, bi_t, bi_f, ic_add, mr_4, ml_4, mr_8, ml_8, mr_10, ml_10, ic_add1, ic_sub1, ic_clamp, ic_div, ic_irm, ic_lt0, ic_0lt, ic_eq0, ic_lt, ic_inj, and15, and7, and31, and63, shl1, shr_ok, neg_1, neg_2, neg_3, neg_4, kc_lt0, kc_ic, kc_m2, kc_1, kc_0, i0_add, add_i0, or_i0, z_8, z_4, z_64, z_256, ic_m2, ec_m1, ic_m1, m1_lt0, m2_lt0, m3_lt0, m4_lt0, up_s, if_true, if_false, ne_eq, not_true_eq_false, not_false_eq_true, Bool.false_eq_true, eq_self, or_self, or_false, false_or, and_self, and_true, true_and, ite_self, Nat.reduceEqDiff, Nat.reduceLT, Nat.reduceMod, Nat.reduceMul, Nat.reduceAdd, Nat.reducePow, Nat.reduceDiv, lt_2, lt_3, lt_4, lt_5, lt_6, lt_7, lt_8, lt_10, lt_11, lt_12, lt_15, lt_16, lt_18, lt_20, lt_24, lt_31, lt_32, lt_48, lt_57, lt_59, lt_63, lt_64, lt_74, lt_75, lt_97, lt_122, lt_128, lt_144, lt_145, lt_146, lt_147, lt_155, lt_163, lt_171, lt_179, lt_200, lt_243, lt_244, lt_255, lt_256, lt_732, lt_900, lt_3660, lt_3904, lt_4095, lt_65536, lt_65537, lt_252645135, lt_858993459, lt_1431655765, ↓p_has_b, p_has, ↓p_has9_b, p_has9, ↓p_bit_b, p_bit, ↓p_bit1_b, p_bit1, ↓p_bit0_b, p_bit0, p_X7_device, p_X7_refuse, y0, y4, hP.t, hP.g, hP.gt, ↓bnd (F), F, ↓bnd (F2), F2, ↓bnd (F3), F3, ↓bnd (A), A]
end KAC
