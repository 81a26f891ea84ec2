/-! ===== a line begins: the reference ===== -/
def lb (T : TS) (c d : Nat) : Nat := if c = d then 5 else if tP T = 0 then 6 else 0
section LBEG
variable {S : SH} {I J : II} {L : LL} {m n a c d : Nat} {b : Nat → Nat} {tk : TK} {T : TS}
theorem x_lb26 (hL : ML S m) (h5 : I m 9 = ic 5) : p_X9_lineBegins_26 m (hp S I L) = some (hp S I L) := by
  have G := x_goes0 (L := L) hL h5
  simp (maxSteps := 1000000) (disch := omega) only [↓reduceIte, ↓if_bi0, ↓if_bi1, hp_tg, hp_rI, hp_rR, hp_rL, hp_wI, hp_wL, Option.bind_some, if_11, if_01, bi_and1, i10, i01, bi_t, bi_f, ic_add, mr_4, ml_4, mr_8, ml_8, mr_10, ml_10, ic_add1, ic_sub1, ic_clamp, ic_div, ic_irm, ic_lt0, ic_0lt, ic_eq0, ic_lt, ic_inj, and15, and7, and31, and63, shl1, shr_ok, neg_1, neg_2, neg_3, neg_4, kc_lt0, kc_ic, kc_m2, kc_1, kc_0, i0_add, add_i0, or_i0, z_8, z_4, z_64, z_256, ic_m2, ec_m1, ic_m1, m1_lt0, m2_lt0, m3_lt0, m4_lt0, up_s, if_true, if_false, ne_eq, not_true_eq_false, not_false_eq_true, Bool.false_eq_true, eq_self, or_self, or_false, false_or, and_self, and_true, true_and, ite_self, Nat.reduceEqDiff, Nat.reduceLT, Nat.reduceMod, Nat.reduceMul, Nat.reduceAdd, Nat.reducePow, Nat.reduceDiv, lt_2, lt_3, lt_4, lt_5, lt_6, lt_7, lt_8, lt_10, lt_11, lt_12, lt_15, lt_16, lt_18, lt_20, lt_24, lt_31, lt_32, lt_48, lt_57, lt_59, lt_63, lt_64, lt_74, lt_75, lt_97, lt_122, lt_128, lt_144, lt_145, lt_146, lt_147, lt_155, lt_163, lt_171, lt_179, lt_200, lt_243, lt_244, lt_255, lt_256, lt_732, lt_900, lt_3660, lt_3904, lt_4095, lt_65536, lt_65537, lt_252645135, lt_858993459, lt_1431655765, ↓p_has_b, p_has, ↓p_has9_b, p_has9, ↓p_bit_b, p_bit, ↓p_bit1_b, p_bit1, ↓p_bit0_b, p_bit0, p_X9_lineBegins_26, hL.t, ↓bnd (G), G]
theorem x_lb26_b (hL : ML S m) (h5 : I m 9 = ic 5) {β : Type} (f9 : AH → Option β) : (p_X9_lineBegins_26 m (hp S I L)).bind f9 = f9 (hp S I L) := bnd (by apply x_lb26 <;> assumption)
theorem x_lb10 (hL : ML S m) (ha : tR S m 4 = a) (hA : MCL S a) (h5 : I m 9 = ic 5) : p_X9_lineBegins_10 m (hp S I L) = some (hp S I L) := by
  have F := x_flaw5 (L := L) hL h5 (ic 6)
  have G := x_lb26 (L := L) hL h5
  have l0 := hA.1
  by_cases z : I a 0 = 0
  · simp (maxSteps := 1000000) (disch := omega) only [↓reduceIte, ↓if_bi0, ↓if_bi1, hp_tg, hp_rI, hp_rR, hp_rL, hp_wI, hp_wL, Option.bind_some, if_11, if_01, bi_and1, i10, i01, bi_t, bi_f, ic_add, mr_4, ml_4, mr_8, ml_8, mr_10, ml_10, ic_add1, ic_sub1, ic_clamp, ic_div, ic_irm, ic_lt0, ic_0lt, ic_eq0, ic_lt, ic_inj, and15, and7, and31, and63, shl1, shr_ok, neg_1, neg_2, neg_3, neg_4, kc_lt0, kc_ic, kc_m2, kc_1, kc_0, i0_add, add_i0, or_i0, z_8, z_4, z_64, z_256, ic_m2, ec_m1, ic_m1, m1_lt0, m2_lt0, m3_lt0, m4_lt0, up_s, if_true, if_false, ne_eq, not_true_eq_false, not_false_eq_true, Bool.false_eq_true, eq_self, or_self, or_false, false_or, and_self, and_true, true_and, ite_self, Nat.reduceEqDiff, Nat.reduceLT, Nat.reduceMod, Nat.reduceMul, Nat.reduceAdd, Nat.reducePow, Nat.reduceDiv, lt_2, lt_3, lt_4, lt_5, lt_6, lt_7, lt_8, lt_10, lt_11, lt_12, lt_15, lt_16, lt_18, lt_20, lt_24, lt_31, lt_32, lt_48, lt_57, lt_59, lt_63, lt_64, lt_74, lt_75, lt_97, lt_122, lt_128, lt_144, lt_145, lt_146, lt_147, lt_155, lt_163, lt_171, lt_179, lt_200, lt_243, lt_244, lt_255, lt_256, lt_732, lt_900, lt_3660, lt_3904, lt_4095, lt_65536, lt_65537, lt_252645135, lt_858993459, lt_1431655765, ↓p_has_b, p_has, ↓p_has9_b, p_has9, ↓p_bit_b, p_bit, ↓p_bit1_b, p_bit1, ↓p_bit0_b, p_bit0, p_X9_lineBegins_10, hL.t, ha, l0, z, ↓bnd (F), F, ↓bnd (G), G, G]
  · simp (maxSteps := 1000000) (disch := omega) only [↓reduceIte, ↓if_bi0, ↓if_bi1, hp_tg, hp_rI, hp_rR, hp_rL, hp_wI, hp_wL, Option.bind_some, if_11, if_01, bi_and1, i10, i01, bi_t, bi_f, ic_add, mr_4, ml_4, mr_8, ml_8, mr_10, ml_10, ic_add1, ic_sub1, ic_clamp, ic_div, ic_irm, ic_lt0, ic_0lt, ic_eq0, ic_lt, ic_inj, and15, and7, and31, and63, shl1, shr_ok, neg_1, neg_2, neg_3, neg_4, kc_lt0, kc_ic, kc_m2, kc_1, kc_0, i0_add, add_i0, or_i0, z_8, z_4, z_64, z_256, ic_m2, ec_m1, ic_m1, m1_lt0, m2_lt0, m3_lt0, m4_lt0, up_s, if_true, if_false, ne_eq, not_true_eq_false, not_false_eq_true, Bool.false_eq_true, eq_self, or_self, or_false, false_or, and_self, and_true, true_and, ite_self, Nat.reduceEqDiff, Nat.reduceLT, Nat.reduceMod, Nat.reduceMul, Nat.reduceAdd, Nat.reducePow, Nat.reduceDiv, lt_2, lt_3, lt_4, lt_5, lt_6, lt_7, lt_8, lt_10, lt_11, lt_12, lt_15, lt_16, lt_18, lt_20, lt_24, lt_31, lt_32, lt_48, lt_57, lt_59, lt_63, lt_64, lt_74, lt_75, lt_97, lt_122, lt_128, lt_144, lt_145, lt_146, lt_147, lt_155, lt_163, lt_171, lt_179, lt_200, lt_243, lt_244, lt_255, lt_256, lt_732, lt_900, lt_3660, lt_3904, lt_4095, lt_65536, lt_65537, lt_252645135, lt_858993459, lt_1431655765, ↓p_has_b, p_has, ↓p_has9_b, p_has9, ↓p_bit_b, p_bit, ↓p_bit1_b, p_bit1, ↓p_bit0_b, p_bit0, p_X9_lineBegins_10, hL.t, ha, l0, z, ↓bnd (F), F, ↓bnd (G), G, G]
theorem x_lb10_b (hL : ML S m) (ha : tR S m 4 = a) (hA : MCL S a) (h5 : I m 9 = ic 5) {β : Type} (f9 : AH → Option β) : (p_X9_lineBegins_10 m (hp S I L)).bind f9 = f9 (hp S I L) := bnd (by apply x_lb10 <;> assumption)
theorem x_lb1 (hL : ML S m) (ha : tR S m 4 = a) (hA : MCL S a) (hm : m + 6 < a) (h : RS I L m b n tk) (hM : MR I a T) (h8 : tP T ≤ 8) (hc : c < 100) (hd : d < 100) (hz : lb T c d ≠ 0) : p_X9_lineBegins m (ic c) (ic d) (hp S I L) = some (hp S (xF I m (lb T c d) tk.2.1) L) := by
  have r0 := hM.1
  have l0 := hA.1
  unfold lb at hz ⊢
  by_cases e : c = d
  · rw [if_pos e]
    have F := h.flaw hL 5
    have D := x_lb10 (L := L) hL ha hA (xF_9 I m 5 tk.2.1)
    unfold p_X9_lineBegins
    simp only [↓reduceIte, ↓if_bi0, hp_tg, hp_rR, hp_rI, hp_wI, eq_self, bi_t, bi_f, i10, if_true, if_false, Bool.false_eq_true, hL.t]
    rw [if_pos (by rw [e])]
    refine Eq.trans (bnd F) ?_
    exact D
  · rw [if_neg e] at hz ⊢
    by_cases z : tP T = 0
    · rw [if_pos z]
      rw [z, ic_zero] at r0
      have F := h.flaw hL 6
      have D := x_lb26 (L := L) hL (xF_9 I m 6 tk.2.1)
      unfold p_X9_lineBegins p_X9_lineBegins_10
      rw [if_neg (by rw [ic_inj (by omega) (by omega)]; exact e)]
      simp only [↓reduceIte, ↓if_bi0, hp_tg, hp_rR, hp_rI, hp_wI, eq_self, bi_t, bi_f, i10, if_true, if_false, Bool.false_eq_true, hL.t, ha, l0, r0]
      refine Eq.trans (bnd F) ?_
      exact D
    · rw [if_neg z] at hz; exact absurd rfl hz
theorem x_lb1_b (hL : ML S m) (ha : tR S m 4 = a) (hA : MCL S a) (hm : m + 6 < a) (h : RS I L m b n tk) (hM : MR I a T) (h8 : tP T ≤ 8) (hc : c < 100) (hd : d < 100) (hz : lb T c d ≠ 0) {β : Type} (f9 : AH → Option β) : (p_X9_lineBegins m (ic c) (ic d) (hp S I L)).bind f9 = f9 (hp S (xF I m (lb T c d) tk.2.1) L) := bnd (by apply x_lb1 <;> assumption)
theorem x_lb0 (hL : ML S m) (ha : tR S m 4 = a) (hA : MCL S a) (hm : m + 6 < a) (h : RS I L m b n tk) (hk : tk.1 ≠ 4) (hM : MR I a T) (h8 : tP T ≤ 8) (hc : c < 100) (hd : d < 100) (hz : lb T c d = 0) : ∃ I' L', p_X9_lineBegins m (ic c) (ic d) (hp S I L) = some (hp S I' L') ∧ RS I' L' m b n (nt b n tk) ∧ Yf I I' m := by
  have r0 := hM.1
  have l0 := hA.1
  unfold lb at hz
  by_cases e : c = d
  · rw [if_pos e] at hz; omega
  · rw [if_neg e] at hz
    by_cases z : tP T = 0
    · rw [if_pos z] at hz; omega
    · obtain ⟨I', L', e1, r, f⟩ := x_next hL h hk
      refine ⟨I', L', ?_, r, f⟩
      simp (maxSteps := 1000000) (disch := omega) only [↓reduceIte, ↓if_bi0, ↓if_bi1, hp_tg, hp_rI, hp_rR, hp_rL, hp_wI, hp_wL, Option.bind_some, if_11, if_01, bi_and1, i10, i01, bi_t, bi_f, ic_add, mr_4, ml_4, mr_8, ml_8, mr_10, ml_10, ic_add1, ic_sub1, ic_clamp, ic_div, ic_irm, ic_lt0, ic_0lt, ic_eq0, ic_lt, ic_inj, and15, and7, and31, and63, shl1, shr_ok, neg_1, neg_2, neg_3, neg_4, kc_lt0, kc_ic, kc_m2, kc_1, kc_0, i0_add, add_i0, or_i0, z_8, z_4, z_64, z_256, ic_m2, ec_m1, ic_m1, m1_lt0, m2_lt0, m3_lt0, m4_lt0, up_s, if_true, if_false, ne_eq, not_true_eq_false, not_false_eq_true, Bool.false_eq_true, eq_self, or_self, or_false, false_or, and_self, and_true, true_and, ite_self, Nat.reduceEqDiff, Nat.reduceLT, Nat.reduceMod, Nat.reduceMul, Nat.reduceAdd, Nat.reducePow, Nat.reduceDiv, lt_2, lt_3, lt_4, lt_5, lt_6, lt_7, lt_8, lt_10, lt_11, lt_12, lt_15, lt_16, lt_18, lt_20, lt_24, lt_31, lt_32, lt_48, lt_57, lt_59, lt_63, lt_64, lt_74, lt_75, lt_97, lt_122, lt_128, lt_144, lt_145, lt_146, lt_147, lt_155, lt_163, lt_171, lt_179, lt_200, lt_243, lt_244, lt_255, lt_256, lt_732, lt_900, lt_3660, lt_3904, lt_4095, lt_65536, lt_65537, lt_252645135, lt_858993459, lt_1431655765, ↓p_has_b, p_has, ↓p_has9_b, p_has9, ↓p_bit_b, p_bit, ↓p_bit1_b, p_bit1, ↓p_bit0_b, p_bit0, p_X9_lineBegins, p_X9_lineBegins_10, p_X9_lineBegins_26, hL.t, ha, l0, r0, e, z, ↓bnd (e1), e1]
end LBEG
