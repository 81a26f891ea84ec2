/-! ===== a way: the class ===== -/
section WAY
variable {S : SH} {I J : II} {L : LL} {x n : Nat} {b : Nat → Nat} {tk : TK}
theorem k_way1 (hL : XL S x) (h : CS I x b n tk) (hw : wf tk 0 63 ≠ 0) : p_X5_isWay x (hp S I L) = some (0, hp S (kF I x (wf tk 0 63) tk.2.1) L) := by
  have A := h.wh1 (L := L) hL (a := 0) (c := 63) (by omega) (by omega) hw
  rw [ic_zero] at A
  have b0 : (0 : Int32) &&& 1 = 0 := by decide
  unfold p_X5_isWay
  simp only [↓reduceIte, ↓if_bi0, hp_tg, hp_rR, hp_rI, hp_wI, eq_self, bi_t, bi_f, i10, if_true, if_false, Bool.false_eq_true, hL.1]
  refine Eq.trans (bnd A) ?_
  simp (maxSteps := 1000000) (disch := omega) only [↓reduceIte, ↓if_bi0, ↓if_bi1, hp_tg, hp_rI, hp_rR, hp_rL, hp_wI, hp_wL, Option.bind_some, if_11, if_01, bi_and1, i10, i01, bi_t, bi_f, ic_add, mr_4, ml_4, mr_8, ml_8, mr_10, ml_10, ic_add1, ic_sub1, ic_clamp, ic_div, ic_irm, ic_lt0, ic_0lt, ic_eq0, ic_lt, ic_inj, and15, and7, and31, and63, shl1, shr_ok, neg_1, neg_2, neg_3, neg_4, kc_lt0, kc_ic, kc_m2, kc_1, kc_0, i0_add, add_i0, or_i0, z_8, z_4, z_64, z_256, ic_m2, ec_m1, ic_m1, m1_lt0, m2_lt0, m3_lt0, m4_lt0, up_s, if_true, if_false, ne_eq, not_true_eq_false, not_false_eq_true, Bool.false_eq_true, eq_self, or_self, or_false, false_or, and_self, and_true, true_and, ite_self, Nat.reduceEqDiff, Nat.reduceLT, Nat.reduceMod, Nat.reduceMul, Nat.reduceAdd, Nat.reducePow, Nat.reduceDiv, lt_2, lt_3, lt_4, lt_5, lt_6, lt_7, lt_8, lt_10, lt_11, lt_12, lt_15, lt_16, lt_18, lt_20, lt_24, lt_31, lt_32, lt_48, lt_57, lt_59, lt_63, lt_64, lt_74, lt_75, lt_97, lt_122, lt_128, lt_144, lt_145, lt_146, lt_147, lt_155, lt_163, lt_171, lt_179, lt_200, lt_243, lt_244, lt_255, lt_256, lt_732, lt_900, lt_3660, lt_3904, lt_4095, lt_65536, lt_65537, lt_252645135, lt_858993459, lt_1431655765, ↓p_has_b, p_has, ↓p_has9_b, p_has9, ↓p_bit_b, p_bit, ↓p_bit1_b, p_bit1, ↓p_bit0_b, p_bit0, b0]
theorem k_way1_b (hL : XL S x) (h : CS I x b n tk) (hw : wf tk 0 63 ≠ 0) {β : Type} (f9 : Int32 × AH → Option β) : (p_X5_isWay x (hp S I L)).bind f9 = f9 (0, hp S (kF I x (wf tk 0 63) tk.2.1) L) := bnd (by apply k_way1 <;> assumption)
theorem k_way2 (hL : XL S x) (h : CS I x b n tk) (hw : wf tk 0 63 = 0) (hm : mo b (nt b n tk) = none) : ∃ I1, p_X5_isWay x (hp S I L) = some (0, hp S (kF I1 x 1 (nt b n tk).2.1) L) ∧ Xf I I1 x := by
  have A := h.wh0 (L := L) hL (a := 0) (c := 63) (by omega) (by omega) hw
  rw [ic_zero] at A
  have b0 : (0 : Int32) &&& 1 = 0 := by decide
  obtain ⟨I1, e1, s1, f1⟩ := k_next (L := L) hL h
  have M := k_mode (L := L) hL s1
  rw [hm, om_none] at M
  have F := s1.fails (L := L) hL 1
  rw [show ic 1 = 1 from rfl] at F
  refine ⟨I1, ?_, f1⟩
  unfold p_X5_isWay
  simp only [↓reduceIte, ↓if_bi0, hp_tg, hp_rR, hp_rI, hp_wI, eq_self, bi_t, bi_f, i10, if_true, if_false, Bool.false_eq_true, hL.1]
  refine Eq.trans (bnd A) ?_
  simp only [↓reduceIte, ↓if_bi0, hp_tg, hp_rR, hp_rI, hp_wI, eq_self, bi_t, bi_f, i10, if_true, if_false, Bool.false_eq_true, hL.1]
  refine Eq.trans (bnd e1) ?_
  simp only [↓reduceIte, ↓if_bi0, hp_tg, hp_rR, hp_rI, hp_wI, eq_self, bi_t, bi_f, i10, if_true, if_false, Bool.false_eq_true, hL.1]
  refine Eq.trans (bnd M) ?_
  simp (maxSteps := 1000000) (disch := omega) only [↓reduceIte, ↓if_bi0, ↓if_bi1, hp_tg, hp_rI, hp_rR, hp_rL, hp_wI, hp_wL, Option.bind_some, if_11, if_01, bi_and1, i10, i01, bi_t, bi_f, ic_add, mr_4, ml_4, mr_8, ml_8, mr_10, ml_10, ic_add1, ic_sub1, ic_clamp, ic_div, ic_irm, ic_lt0, ic_0lt, ic_eq0, ic_lt, ic_inj, and15, and7, and31, and63, shl1, shr_ok, neg_1, neg_2, neg_3, neg_4, kc_lt0, kc_ic, kc_m2, kc_1, kc_0, i0_add, add_i0, or_i0, z_8, z_4, z_64, z_256, ic_m2, ec_m1, ic_m1, m1_lt0, m2_lt0, m3_lt0, m4_lt0, up_s, if_true, if_false, ne_eq, not_true_eq_false, not_false_eq_true, Bool.false_eq_true, eq_self, or_self, or_false, false_or, and_self, and_true, true_and, ite_self, Nat.reduceEqDiff, Nat.reduceLT, Nat.reduceMod, Nat.reduceMul, Nat.reduceAdd, Nat.reducePow, Nat.reduceDiv, lt_2, lt_3, lt_4, lt_5, lt_6, lt_7, lt_8, lt_10, lt_11, lt_12, lt_15, lt_16, lt_18, lt_20, lt_24, lt_31, lt_32, lt_48, lt_57, lt_59, lt_63, lt_64, lt_74, lt_75, lt_97, lt_122, lt_128, lt_144, lt_145, lt_146, lt_147, lt_155, lt_163, lt_171, lt_179, lt_200, lt_243, lt_244, lt_255, lt_256, lt_732, lt_900, lt_3660, lt_3904, lt_4095, lt_65536, lt_65537, lt_252645135, lt_858993459, lt_1431655765, ↓p_has_b, p_has, ↓p_has9_b, p_has9, ↓p_bit_b, p_bit, ↓p_bit1_b, p_bit1, ↓p_bit0_b, p_bit0, hL.1, ↓bnd (F), F, b0]
theorem k_way3 (hL : XL S x) (h : CS I x b n tk) (hw : wf tk 0 63 = 0) {w : Nat} (hm : mo b (nt b n tk) = some w) : ∃ J, p_X5_isWay x (hp S I L) = some (1, hp S J L) ∧ CS J x b n (nt b n tk) ∧ J x 6 = ic (4 * tk.2.2.2 + w) ∧ Xf I J x := by
  have A := h.wh0 (L := L) hL (a := 0) (c := 63) (by omega) (by omega) hw
  rw [ic_zero] at A
  have b1 : (1 : Int32) &&& 1 = 1 := by decide
  have v6 : I x 6 = ic tk.2.2.2 := h.2.2.1.2.2.2 (wf_2 hw).1
  obtain ⟨I1, e1, s1, f1⟩ := k_next (L := L) hL h
  have M := k_mode (L := L) hL s1
  rw [hm, om_some] at M
  obtain ⟨w4, w1⟩ := mo_lt hm
  have ev : ic tk.2.2.2 * ic 4 + ic w = ic (4 * tk.2.2.2 + w) := by rw [ic_mul, ic_add, Nat.mul_comm]
  refine ⟨up2 I1 x 6 (ic (4 * tk.2.2.2 + w)), ?_, ?_, up_s _ _ _ _, fun j hj => by rw [up_k (by omega)]; exact f1.1 j hj, fun y hy => by rw [← f1.2 y hy]; exact funext fun j => up_a hy⟩
  · unfold p_X5_isWay
    simp only [↓reduceIte, ↓if_bi0, hp_tg, hp_rR, hp_rI, hp_wI, eq_self, bi_t, bi_f, i10, if_true, if_false, Bool.false_eq_true, hL.1]
    refine Eq.trans (bnd A) ?_
    simp only [↓reduceIte, ↓if_bi0, hp_tg, hp_rR, hp_rI, hp_wI, eq_self, bi_t, bi_f, i10, if_true, if_false, Bool.false_eq_true, hL.1, v6]
    refine Eq.trans (bnd e1) ?_
    simp only [↓reduceIte, ↓if_bi0, hp_tg, hp_rR, hp_rI, hp_wI, eq_self, bi_t, bi_f, i10, if_true, if_false, Bool.false_eq_true, hL.1]
    refine Eq.trans (bnd M) ?_
    rw [if_neg (by show ¬ ic w < 0; rw [ic_lt0 (by omega)]; exact not_false)]
    simp only [↓reduceIte, ↓if_bi0, hp_tg, hp_rR, hp_rI, hp_wI, eq_self, bi_t, bi_f, i10, if_true, if_false, Bool.false_eq_true, hL.1]
    rw [show (4 : Int32) = ic 4 from rfl, ev, if_pos b1]
  · obtain ⟨h2, hT, ⟨c3, c4, c5, c6⟩, hK, hn⟩ := s1
    exact ⟨by rw [up_k (by omega)]; exact h2, fun k hk => by rw [up_a (by omega)]; exact hT k hk, ⟨by rw [up_k (by omega)]; exact c3, by rw [up_k (by omega)]; exact c4, by rw [up_k (by omega)]; exact c5, fun q => by rw [w1] at q; omega⟩, hK, hn⟩
end WAY
