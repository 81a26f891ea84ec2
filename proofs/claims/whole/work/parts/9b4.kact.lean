/-! ===== (9b goes on) ===== -/
section KAC
variable {S : SH} {I J J' : II} {L L' : LL} {o x ta tb p q rg pc rs ps m ou a c e pl : Nat} {W : WD} {s : St}
theorem kc_give (H : KH S I o x ta tb p q rg pc rs ps m ou W c) (v h : Int32) (b : Bool) : KC S I L o x ta p q rs ps m (p_X7_give o v h (bi b) (hp S I L)) (giW W v h b) := by
  have b1 : (1 : Int32) &&& 1 = 1 := by decide
  have b0 : (0 : Int32) &&& 1 = 0 := by decide
  have H9 := H
  obtain ⟨hA, ⟨y0, -, -, -, y4, -, -, -, -, -, -, hP, -⟩, hC, hV⟩ := H9
  have F := k_isFrame (L := L) y0 hC.1 v
  unfold giW
  cases z : ok (vR W) 16 v
  · rw [z] at F
    rw [if_neg (by decide)]
    refine kc_to (e := 1) hA hV hC (fun _ _ => rfl) (by decide) ?_
    simp (maxSteps := 1000000) (disch := omega) only [↓reduceIte, ↓if_bi0, ↓if_bi1, hp_tg, hp_rI, hp_rR, hp_rL, hp_wI, hp_wL, Option.bind_some, if_11, if_01, bi_and1, i10, i01, bi_t, bi_f, ic_add, mr_4, ml_4, mr_8, ml_8, mr_10, ml_10, ic_add1, ic_sub1, ic_clamp, ic_div, ic_irm, ic_lt0, ic_0lt, ic_eq0, ic_lt, ic_inj, and15, and7, and31, and63, shl1, shr_ok, neg_1, neg_2, neg_3, neg_4, kc_lt0, kc_ic, kc_m2, kc_1, kc_0, i0_add, add_i0, or_i0, z_8, z_4, z_64, z_256, ic_m2, ec_m1, ic_m1, m1_lt0, m2_lt0, m3_lt0, m4_lt0, up_s, if_true, if_false, ne_eq, not_true_eq_false, not_false_eq_true, Bool.false_eq_true, eq_self, or_self, or_false, false_or, and_self, and_true, true_and, ite_self, Nat.reduceEqDiff, Nat.reduceLT, Nat.reduceMod, Nat.reduceMul, Nat.reduceAdd, Nat.reducePow, Nat.reduceDiv, lt_2, lt_3, lt_4, lt_5, lt_6, lt_7, lt_8, lt_10, lt_11, lt_12, lt_15, lt_16, lt_18, lt_20, lt_24, lt_31, lt_32, lt_48, lt_57, lt_59, lt_63, lt_64, lt_74, lt_75, lt_97, lt_122, lt_128, lt_144, lt_145, lt_146, lt_147, lt_155, lt_163, lt_171, lt_179, lt_200, lt_243, lt_244, lt_255, lt_256, lt_732, lt_900, lt_3660, lt_3904, lt_4095, lt_65536, lt_65537, lt_252645135, lt_858993459, lt_1431655765, ↓p_has_b, p_has, ↓p_has9_b, p_has9, ↓p_bit_b, p_bit, ↓p_bit1_b, p_bit1, ↓p_bit0_b, p_bit0, p_X7_give, p_X7_declines, y0, ↓bnd (F), F, b0]
    rfl
  · rw [z] at F
    rw [if_pos rfl]
    cases z2 : ok true 32 h
    · rw [if_neg (by decide)]
      refine kc_to (e := 2) hA hV hC (fun _ _ => rfl) (by decide) ?_
      rcases i_cases h with g | ⟨k, hk, rfl⟩
      · simp (maxSteps := 1000000) (disch := omega) only [↓reduceIte, ↓if_bi0, ↓if_bi1, hp_tg, hp_rI, hp_rR, hp_rL, hp_wI, hp_wL, Option.bind_some, if_11, if_01, bi_and1, i10, i01, bi_t, bi_f, ic_add, mr_4, ml_4, mr_8, ml_8, mr_10, ml_10, ic_add1, ic_sub1, ic_clamp, ic_div, ic_irm, ic_lt0, ic_0lt, ic_eq0, ic_lt, ic_inj, and15, and7, and31, and63, shl1, shr_ok, neg_1, neg_2, neg_3, neg_4, kc_lt0, kc_ic, kc_m2, kc_1, kc_0, i0_add, add_i0, or_i0, z_8, z_4, z_64, z_256, ic_m2, ec_m1, ic_m1, m1_lt0, m2_lt0, m3_lt0, m4_lt0, up_s, if_true, if_false, ne_eq, not_true_eq_false, not_false_eq_true, Bool.false_eq_true, eq_self, or_self, or_false, false_or, and_self, and_true, true_and, ite_self, Nat.reduceEqDiff, Nat.reduceLT, Nat.reduceMod, Nat.reduceMul, Nat.reduceAdd, Nat.reducePow, Nat.reduceDiv, lt_2, lt_3, lt_4, lt_5, lt_6, lt_7, lt_8, lt_10, lt_11, lt_12, lt_15, lt_16, lt_18, lt_20, lt_24, lt_31, lt_32, lt_48, lt_57, lt_59, lt_63, lt_64, lt_74, lt_75, lt_97, lt_122, lt_128, lt_144, lt_145, lt_146, lt_147, lt_155, lt_163, lt_171, lt_179, lt_200, lt_243, lt_244, lt_255, lt_256, lt_732, lt_900, lt_3660, lt_3904, lt_4095, lt_65536, lt_65537, lt_252645135, lt_858993459, lt_1431655765, ↓p_has_b, p_has, ↓p_has9_b, p_has9, ↓p_bit_b, p_bit, ↓p_bit1_b, p_bit1, ↓p_bit0_b, p_bit0, p_X7_give, p_X7_give_24, p_X7_declines, y0, ↓bnd (F), F, g, b0]
      · rw [ok_ic (by omega) hk] at z2
        have := of_decide_eq_false z2
        simp (maxSteps := 1000000) (disch := omega) only [↓reduceIte, ↓if_bi0, ↓if_bi1, hp_tg, hp_rI, hp_rR, hp_rL, hp_wI, hp_wL, Option.bind_some, if_11, if_01, bi_and1, i10, i01, bi_t, bi_f, ic_add, mr_4, ml_4, mr_8, ml_8, mr_10, ml_10, ic_add1, ic_sub1, ic_clamp, ic_div, ic_irm, ic_lt0, ic_0lt, ic_eq0, ic_lt, ic_inj, and15, and7, and31, and63, shl1, shr_ok, neg_1, neg_2, neg_3, neg_4, kc_lt0, kc_ic, kc_m2, kc_1, kc_0, i0_add, add_i0, or_i0, z_8, z_4, z_64, z_256, ic_m2, ec_m1, ic_m1, m1_lt0, m2_lt0, m3_lt0, m4_lt0, up_s, if_true, if_false, ne_eq, not_true_eq_false, not_false_eq_true, Bool.false_eq_true, eq_self, or_self, or_false, false_or, and_self, and_true, true_and, ite_self, Nat.reduceEqDiff, Nat.reduceLT, Nat.reduceMod, Nat.reduceMul, Nat.reduceAdd, Nat.reducePow, Nat.reduceDiv, lt_2, lt_3, lt_4, lt_5, lt_6, lt_7, lt_8, lt_10, lt_11, lt_12, lt_15, lt_16, lt_18, lt_20, lt_24, lt_31, lt_32, lt_48, lt_57, lt_59, lt_63, lt_64, lt_74, lt_75, lt_97, lt_122, lt_128, lt_144, lt_145, lt_146, lt_147, lt_155, lt_163, lt_171, lt_179, lt_200, lt_243, lt_244, lt_255, lt_256, lt_732, lt_900, lt_3660, lt_3904, lt_4095, lt_65536, lt_65537, lt_252645135, lt_858993459, lt_1431655765, ↓p_has_b, p_has, ↓p_has9_b, p_has9, ↓p_bit_b, p_bit, ↓p_bit1_b, p_bit1, ↓p_bit0_b, p_bit0, p_X7_give, p_X7_give_24, p_X7_declines, y0, ↓bnd (F), F, show ¬ k < 32 by omega, b0]
    · rw [if_pos rfl]
      obtain ⟨hr, f, hf, rfl⟩ := ok_t (by omega) z
      obtain ⟨-, k, hk, rfl⟩ := ok_t (by omega) z2
      rw [ic_clamp (show f < 2147483648 by omega), ic_clamp (show k < 2147483648 by omega)]
      obtain ⟨V1, V2, V3, -⟩ := hV.2.2.2.2.2.2.1 hr
      have A := g_backed (L := L) hP.G (hC.2.2.2.2.2.2.2.2.2.2.2.2.1 hr).2.1 V3.1.1 hf
      have A2 := g_isTaken (L := L) hP.G (hC.2.2.2.2.2.2.2.2.2.2.2.2.1 hr).2.1 V3.1.1 (h := k) (by omega)
      have T6 : (tg (hp S I L) o).1 = 6 := by rw [hp_tg, y0]
      have T1 : (tg (hp S I L) p).1 = 1 := by rw [hp_tg, hP.t]
      have T0 : (tg (hp S I L) (p + 2)).1 = 0 := by rw [hp_tg, hP.gt]
      have Q : p_X7_give o (ic f) (ic k) (bi b) (hp S I L) = p_X7_give_30 o (ic f) (ic k) (bi b) (hp S I L) := by
        unfold p_X7_give
        rw [if_pos T6]
        refine Eq.trans (bnd F) ?_
        rw [if_neg (show ¬ bi true = 0 by decide), if_neg (by rw [ic_lt0 (by omega)]; exact not_false), if_pos (by rw [lt_32, ic_lt (by omega) (by omega)]; exact hk)]
        rfl
      rw [Q]
      have Q2 : p_X7_give_30 o (ic f) (ic k) (bi b) (hp S I L) = (p_X1_isBacked (p + 2) (ic f) (hp S I L)).bind fun q => if q.1 = 0 then (if (tg q.2 o).1 = 6 then (if (tg q.2 (rR q.2 o 4)).1 = 1 then (if (tg q.2 (rR q.2 (rR q.2 o 4) 1)).1 = 0 then ((p_X1_isTaken (rR q.2 (rR q.2 o 4) 1) (ic k) q.2).bind fun q2 => if q2.1 = 0 then p_X7_give_64 o (ic f) (ic k) (bi b) q2.2 else p_X7_give_58 o q2.2) else none) else none) else none) else p_X7_give_58 o q.2 := by
        unfold p_X7_give_30
        rw [if_pos T6, hp_rR, y4, if_pos T1, hp_rR, hP.g, if_pos T0]
        rfl
      rw [Q2]
      by_cases d : 0 < sH (vS W) f
      · rw [if_neg (fun q => by have := q.1; omega)]
        rw [decide_eq_true d] at A
        refine kc_to (e := 5) hA hV hC (fun _ _ => rfl) (by decide) ?_
        refine Eq.trans (bnd A) ?_
        rw [if_neg (show ¬ bi true = 0 by decide)]
        simp (maxSteps := 1000000) (disch := omega) only [↓reduceIte, ↓if_bi0, ↓if_bi1, hp_tg, hp_rI, hp_rR, hp_rL, hp_wI, hp_wL, Option.bind_some, if_11, if_01, bi_and1, i10, i01, bi_t, bi_f, ic_add, mr_4, ml_4, mr_8, ml_8, mr_10, ml_10, ic_add1, ic_sub1, ic_clamp, ic_div, ic_irm, ic_lt0, ic_0lt, ic_eq0, ic_lt, ic_inj, and15, and7, and31, and63, shl1, shr_ok, neg_1, neg_2, neg_3, neg_4, kc_lt0, kc_ic, kc_m2, kc_1, kc_0, i0_add, add_i0, or_i0, z_8, z_4, z_64, z_256, ic_m2, ec_m1, ic_m1, m1_lt0, m2_lt0, m3_lt0, m4_lt0, up_s, if_true, if_false, ne_eq, not_true_eq_false, not_false_eq_true, Bool.false_eq_true, eq_self, or_self, or_false, false_or, and_self, and_true, true_and, ite_self, Nat.reduceEqDiff, Nat.reduceLT, Nat.reduceMod, Nat.reduceMul, Nat.reduceAdd, Nat.reducePow, Nat.reduceDiv, lt_2, lt_3, lt_4, lt_5, lt_6, lt_7, lt_8, lt_10, lt_11, lt_12, lt_15, lt_16, lt_18, lt_20, lt_24, lt_31, lt_32, lt_48, lt_57, lt_59, lt_63, lt_64, lt_74, lt_75, lt_97, lt_122, lt_128, lt_144, lt_145, lt_146, lt_147, lt_155, lt_163, lt_171, lt_179, lt_200, lt_243, lt_244, lt_255, lt_256, lt_732, lt_900, lt_3660, lt_3904, lt_4095, lt_65536, lt_65537, lt_252645135, lt_858993459, lt_1431655765, ↓p_has_b, p_has, ↓p_has9_b, p_has9, ↓p_bit_b, p_bit, ↓p_bit1_b, p_bit1, ↓p_bit0_b, p_bit0, p_X7_give_58, p_X7_declines, y0, b0]
      · rw [decide_eq_false d] at A
        have Q3 : ((p_X1_isBacked (p + 2) (ic f) (hp S I L)).bind fun q => if q.1 = 0 then (if (tg q.2 o).1 = 6 then (if (tg q.2 (rR q.2 o 4)).1 = 1 then (if (tg q.2 (rR q.2 (rR q.2 o 4) 1)).1 = 0 then ((p_X1_isTaken (rR q.2 (rR q.2 o 4) 1) (ic k) q.2).bind fun q2 => if q2.1 = 0 then p_X7_give_64 o (ic f) (ic k) (bi b) q2.2 else p_X7_give_58 o q2.2) else none) else none) else none) else p_X7_give_58 o q.2) = (p_X1_isTaken (p + 2) (ic k) (hp S I L)).bind fun q2 => if q2.1 = 0 then p_X7_give_64 o (ic f) (ic k) (bi b) q2.2 else p_X7_give_58 o q2.2 := by
          refine Eq.trans (bnd A) ?_
          rw [if_pos (show bi false = 0 by decide), if_pos T6, hp_rR, y4, if_pos T1, hp_rR, hP.g, if_pos T0]
        rw [Q3]
        cases d2 : fs (fun j => decide (sH (vS W) j = k + 1)) 16 0 with
        | some j =>
          rw [if_neg (fun q => by cases q.2)]
          rw [d2, Option.isSome_some] at A2
          refine kc_to (e := 5) hA hV hC (fun _ _ => rfl) (by decide) ?_
          refine Eq.trans (bnd A2) ?_
          rw [if_neg (show ¬ bi true = 0 by decide)]
          simp (maxSteps := 1000000) (disch := omega) only [↓reduceIte, ↓if_bi0, ↓if_bi1, hp_tg, hp_rI, hp_rR, hp_rL, hp_wI, hp_wL, Option.bind_some, if_11, if_01, bi_and1, i10, i01, bi_t, bi_f, ic_add, mr_4, ml_4, mr_8, ml_8, mr_10, ml_10, ic_add1, ic_sub1, ic_clamp, ic_div, ic_irm, ic_lt0, ic_0lt, ic_eq0, ic_lt, ic_inj, and15, and7, and31, and63, shl1, shr_ok, neg_1, neg_2, neg_3, neg_4, kc_lt0, kc_ic, kc_m2, kc_1, kc_0, i0_add, add_i0, or_i0, z_8, z_4, z_64, z_256, ic_m2, ec_m1, ic_m1, m1_lt0, m2_lt0, m3_lt0, m4_lt0, up_s, if_true, if_false, ne_eq, not_true_eq_false, not_false_eq_true, Bool.false_eq_true, eq_self, or_self, or_false, false_or, and_self, and_true, true_and, ite_self, Nat.reduceEqDiff, Nat.reduceLT, Nat.reduceMod, Nat.reduceMul, Nat.reduceAdd, Nat.reducePow, Nat.reduceDiv, lt_2, lt_3, lt_4, lt_5, lt_6, lt_7, lt_8, lt_10, lt_11, lt_12, lt_15, lt_16, lt_18, lt_20, lt_24, lt_31, lt_32, lt_48, lt_57, lt_59, lt_63, lt_64, lt_74, lt_75, lt_97, lt_122, lt_128, lt_144, lt_145, lt_146, lt_147, lt_155, lt_163, lt_171, lt_179, lt_200, lt_243, lt_244, lt_255, lt_256, lt_732, lt_900, lt_3660, lt_3904, lt_4095, lt_65536, lt_65537, lt_252645135, lt_858993459, lt_1431655765, ↓p_has_b, p_has, ↓p_has9_b, p_has9, ↓p_bit_b, p_bit, ↓p_bit1_b, p_bit1, ↓p_bit0_b, p_bit0, p_X7_give_58, p_X7_declines, y0, b0]
        | none =>
          rw [if_pos ⟨by omega, rfl⟩]
          rw [d2, Option.isSome_none] at A2
          obtain ⟨J, e1, C1, f1⟩ := k_keep (L := L) H hr
          obtain ⟨R0, R1⟩ := C1.2.2.2.2.2.2.2.2.2.2.2.2.1 hr
          have R19 : PR J p (vS W) (tP (vT W)) := R1
          obtain ⟨J1, e2, G1, f2⟩ := g_backWith (L := L) hP.G R19.1 hf hk b
          have e3 := g_unmark (L := L) hP.G G1 hf
          generalize hz : up2 J1 (p + 2) 3 (ic (cbt (sm (uw (uH (vS W) (up1 (sH (vS W)) f (k + 1))) (up1 (sw (vS W)) f b))) f)) = J2 at e3
          have f3 : Fr J1 J2 (p + 2) (p + 2) := by rw [← hz]; exact Fr.up (by omega) (by omega)
          have G2 : GR J2 (p + 2) (giv (vS W) f k b) := by rw [← hz]; exact G1.setM _
          have Q9 : QR J2 (p + 5) (giv (vS W) f k b) (tP (vT W)) := ((R19.2.fr f2 (by omega)).fr f3 (by omega)).ent (fun _ _ => rfl) ⟨rfl, rfl, rfl, rfl, rfl⟩
          refine kc_act0 H C1 f1 (fun y hy => (f3 y (by omega)).trans (f2 y (by omega))) ⟨G2, Q9⟩ ?_
          refine Eq.trans (bnd A2) ?_
          rw [if_pos (show bi false = 0 by decide)]
          simp (maxSteps := 1000000) (disch := omega) only [↓reduceIte, ↓if_bi0, ↓if_bi1, hp_tg, hp_rI, hp_rR, hp_rL, hp_wI, hp_wL, Option.bind_some, if_11, if_01, bi_and1, i10, i01, bi_t, bi_f, ic_add, mr_4, ml_4, mr_8, ml_8, mr_10, ml_10, ic_add1, ic_sub1, ic_clamp, ic_div, ic_irm, ic_lt0, ic_0lt, ic_eq0, ic_lt, ic_inj, and15, and7, and31, and63, shl1, shr_ok, neg_1, neg_2, neg_3, neg_4, kc_lt0, kc_ic, kc_m2, kc_1, kc_0, i0_add, add_i0, or_i0, z_8, z_4, z_64, z_256, ic_m2, ec_m1, ic_m1, m1_lt0, m2_lt0, m3_lt0, m4_lt0, up_s, if_true, if_false, ne_eq, not_true_eq_false, not_false_eq_true, Bool.false_eq_true, eq_self, or_self, or_false, false_or, and_self, and_true, true_and, ite_self, Nat.reduceEqDiff, Nat.reduceLT, Nat.reduceMod, Nat.reduceMul, Nat.reduceAdd, Nat.reducePow, Nat.reduceDiv, lt_2, lt_3, lt_4, lt_5, lt_6, lt_7, lt_8, lt_10, lt_11, lt_12, lt_15, lt_16, lt_18, lt_20, lt_24, lt_31, lt_32, lt_48, lt_57, lt_59, lt_63, lt_64, lt_74, lt_75, lt_97, lt_122, lt_128, lt_144, lt_145, lt_146, lt_147, lt_155, lt_163, lt_171, lt_179, lt_200, lt_243, lt_244, lt_255, lt_256, lt_732, lt_900, lt_3660, lt_3904, lt_4095, lt_65536, lt_65537, lt_252645135, lt_858993459, lt_1431655765, ↓p_has_b, p_has, ↓p_has9_b, p_has9, ↓p_bit_b, p_bit, ↓p_bit1_b, p_bit1, ↓p_bit0_b, p_bit0, p_X7_give_64, p_X7_agrees, y0, y4, hP.t, hP.g, hP.gt, ↓bnd (e1), e1, ↓bnd (e2), e2, ↓bnd (e3), e3, b1]
end KAC
