/-! ===== (9b goes on) ===== -/
section KAC
variable {S : SH} {I J J' : II} {L L' : LL} {o x ta tb p q rg pc rs ps m ou a c e pl : Nat} {W : WD} {s : St}
theorem kc_clean (H : KH S I o x ta tb p q rg pc rs ps m ou W c) (v : Int32) : KC S I L o x ta p q rs ps m (p_X7_clean o v (hp S I L)) (clW W v) := by
  have H9 := H
  obtain ⟨hA, ⟨y0, -, -, -, y4, -, -, -, -, -, -, hP, -⟩, hC, hV⟩ := H9
  have F := k_isFrame (L := L) y0 hC.1 v
  unfold clW
  cases z : ok (vR W) 16 v
  · rw [z] at F
    rw [if_neg (by decide)]
    refine kc_no1 H ?_
    simp (maxSteps := 1000000) (disch := omega) only [↓reduceIte, ↓if_bi0, ↓if_bi1, hp_tg, hp_rI, hp_rR, hp_rL, hp_wI, hp_wL, Option.bind_some, if_11, if_01, bi_and1, i10, i01, bi_t, bi_f, ic_add, mr_4, ml_4, mr_8, ml_8, mr_10, ml_10, ic_add1, ic_sub1, ic_clamp, ic_div, ic_irm, ic_lt0, ic_0lt, ic_eq0, ic_lt, ic_inj, and15, and7, and31, and63, shl1, shr_ok, neg_1, neg_2, neg_3, neg_4, kc_lt0, kc_ic, kc_m2, kc_1, kc_0, i0_add, add_i0, or_i0, z_8, z_4, z_64, z_256, ic_m2, ec_m1, ic_m1, m1_lt0, m2_lt0, m3_lt0, m4_lt0, up_s, if_true, if_false, ne_eq, not_true_eq_false, not_false_eq_true, Bool.false_eq_true, eq_self, or_self, or_false, false_or, and_self, and_true, true_and, ite_self, Nat.reduceEqDiff, Nat.reduceLT, Nat.reduceMod, Nat.reduceMul, Nat.reduceAdd, Nat.reducePow, Nat.reduceDiv, lt_2, lt_3, lt_4, lt_5, lt_6, lt_7, lt_8, lt_10, lt_11, lt_12, lt_15, lt_16, lt_18, lt_20, lt_24, lt_31, lt_32, lt_48, lt_57, lt_59, lt_63, lt_64, lt_74, lt_75, lt_97, lt_122, lt_128, lt_144, lt_145, lt_146, lt_147, lt_155, lt_163, lt_171, lt_179, lt_200, lt_243, lt_244, lt_255, lt_256, lt_732, lt_900, lt_3660, lt_3904, lt_4095, lt_65536, lt_65537, lt_252645135, lt_858993459, lt_1431655765, ↓p_has_b, p_has, ↓p_has9_b, p_has9, ↓p_bit_b, p_bit, ↓p_bit1_b, p_bit1, ↓p_bit0_b, p_bit0, p_X7_clean, p_X7_refuse, y0, ↓bnd (F), F]
  · rw [z] at F
    rw [if_pos rfl]
    obtain ⟨hr, f, hf, rfl⟩ := ok_t (by omega) z
    rw [ic_clamp (show f < 2147483648 by omega)]
    obtain ⟨V1, V2, V3, -⟩ := hV.2.2.2.2.2.2.1 hr
    obtain ⟨J, e1, C1, f1⟩ := k_keep (L := L) H hr
    obtain ⟨R0, R1⟩ := C1.2.2.2.2.2.2.2.2.2.2.2.2.1 hr
    have R19 : PR J p (vS W) (tP (vT W)) := R1
    have A := g_marked (L := L) hP.G R19.1 V3.1.1 hf
    have e2 := g_unmark (L := L) hP.G R19.1 hf
    have f2 : Fr J (up2 J (p + 2) 3 (ic (cbt (sm (vS W)) f))) (p + 2) (p + 2) := Fr.up (by omega) (by omega)
    obtain ⟨J2, e3, Q2, f3⟩ := q_takeWrite (L := L) hP.Q (R19.2.fr f2 (by omega)) V3.1 (f := f) (by omega)
    have G2 : GR J2 (p + 2) (cle (vS W) f) := ((R19.1.setM (cbt (sm (vS W)) f)).fr f3 (by omega)).sg ⟨rfl, rfl, rfl, rfl, rfl⟩
    have Q3 : QR J2 (p + 5) (cle (vS W) f) (tP (vT W)) := Q2.ent (fun _ _ => rfl) ⟨rfl, rfl, rfl, rfl, rfl⟩
    refine kc_act0 H C1 f1 (fun y hy => (f3 y (by omega)).trans (f2 y (by omega))) ⟨G2, Q3⟩ ?_
    simp (maxSteps := 1000000) (disch := omega) only [↓reduceIte, ↓if_bi0, ↓if_bi1, hp_tg, hp_rI, hp_rR, hp_rL, hp_wI, hp_wL, Option.bind_some, if_11, if_01, bi_and1, i10, i01, bi_t, bi_f, ic_add, mr_4, ml_4, mr_8, ml_8, mr_10, ml_10, ic_add1, ic_sub1, ic_clamp, ic_div, ic_irm, ic_lt0, ic_0lt, ic_eq0, ic_lt, ic_inj, and15, and7, and31, and63, shl1, shr_ok, neg_1, neg_2, neg_3, neg_4, kc_lt0, kc_ic, kc_m2, kc_1, kc_0, i0_add, add_i0, or_i0, z_8, z_4, z_64, z_256, ic_m2, ec_m1, ic_m1, m1_lt0, m2_lt0, m3_lt0, m4_lt0, up_s, if_true, if_false, ne_eq, not_true_eq_false, not_false_eq_true, Bool.false_eq_true, eq_self, or_self, or_false, false_or, and_self, and_true, true_and, ite_self, Nat.reduceEqDiff, Nat.reduceLT, Nat.reduceMod, Nat.reduceMul, Nat.reduceAdd, Nat.reducePow, Nat.reduceDiv, lt_2, lt_3, lt_4, lt_5, lt_6, lt_7, lt_8, lt_10, lt_11, lt_12, lt_15, lt_16, lt_18, lt_20, lt_24, lt_31, lt_32, lt_48, lt_57, lt_59, lt_63, lt_64, lt_74, lt_75, lt_97, lt_122, lt_128, lt_144, lt_145, lt_146, lt_147, lt_155, lt_163, lt_171, lt_179, lt_200, lt_243, lt_244, lt_255, lt_256, lt_732, lt_900, lt_3660, lt_3904, lt_4095, lt_65536, lt_65537, lt_252645135, lt_858993459, lt_1431655765, ↓p_has_b, p_has, ↓p_has9_b, p_has9, ↓p_bit_b, p_bit, ↓p_bit1_b, p_bit1, ↓p_bit0_b, p_bit0, p_X7_clean, p_X7_answer, y0, y4, hP.t, hP.g, hP.gt, hP.q, hP.qt, ↓bnd (F), F, ↓bnd (A), A, ↓bnd (e1), e1, ↓bnd (e2), e2, ↓bnd (e3), e3]
end KAC
