/-! ===== numbers, names needed: class and reference ===== -/
def wf (tk : Nat × Nat × Nat × Nat) (a c : Nat) : Nat := if tk.1 = 2 then (if a ≤ tk.2.2.2 ∧ tk.2.2.2 ≤ c then 0 else 4) else 1
def kF (I : II) (x v f : Nat) : II := up2 (up2 I x 7 (ic v)) x 8 (ic f)
def xF (I : II) (m v f : Nat) : II := up2 (up2 (up2 I m 12 (ic v)) m 13 (ic f)) m 9 (ic 5)
theorem p_in9 {v a c : Nat} (hv : v < 2147483648) (ha : a < 2147483648) (hc : c < 2147483648) (h : AH) : p_X9_in (ic v) (ic a) (ic c) h = some (bi (decide (a ≤ v ∧ v ≤ c)), h) := by
  by_cases q : v < a
  · rw [decide_eq_false (by omega)]; simp (maxSteps := 1000000) (disch := omega) only [↓reduceIte, ↓if_bi0, ↓if_bi1, hp_tg, hp_rI, hp_rR, hp_rL, hp_wI, hp_wL, Option.bind_some, if_11, if_01, bi_and1, i10, i01, bi_t, bi_f, ic_add, mr_4, ml_4, mr_8, ml_8, mr_10, ml_10, ic_add1, ic_sub1, ic_clamp, ic_div, ic_irm, ic_lt0, ic_0lt, ic_eq0, ic_lt, ic_inj, and15, and7, and31, and63, shl1, shr_ok, neg_1, neg_2, neg_3, neg_4, kc_lt0, kc_ic, kc_m2, kc_1, kc_0, i0_add, add_i0, or_i0, z_8, z_4, z_64, z_256, ic_m2, ec_m1, ic_m1, m1_lt0, m2_lt0, m3_lt0, m4_lt0, up_s, if_true, if_false, ne_eq, not_true_eq_false, not_false_eq_true, Bool.false_eq_true, eq_self, or_self, or_false, false_or, and_self, and_true, true_and, ite_self, Nat.reduceEqDiff, Nat.reduceLT, Nat.reduceMod, Nat.reduceMul, Nat.reduceAdd, Nat.reducePow, Nat.reduceDiv, lt_2, lt_3, lt_4, lt_5, lt_6, lt_7, lt_8, lt_10, lt_11, lt_12, lt_15, lt_16, lt_18, lt_20, lt_24, lt_31, lt_32, lt_48, lt_57, lt_59, lt_63, lt_64, lt_74, lt_75, lt_97, lt_122, lt_128, lt_144, lt_145, lt_146, lt_147, lt_155, lt_163, lt_171, lt_179, lt_200, lt_243, lt_244, lt_255, lt_256, lt_732, lt_900, lt_3660, lt_3904, lt_4095, lt_65536, lt_65537, lt_252645135, lt_858993459, lt_1431655765, ↓p_has_b, p_has, ↓p_has9_b, p_has9, ↓p_bit_b, p_bit, ↓p_bit1_b, p_bit1, ↓p_bit0_b, p_bit0, p_X9_in_15, p_X9_in_14, p_X9_in, q]
  · by_cases r : c < v
    · rw [decide_eq_false (by omega)]; simp (maxSteps := 1000000) (disch := omega) only [↓reduceIte, ↓if_bi0, ↓if_bi1, hp_tg, hp_rI, hp_rR, hp_rL, hp_wI, hp_wL, Option.bind_some, if_11, if_01, bi_and1, i10, i01, bi_t, bi_f, ic_add, mr_4, ml_4, mr_8, ml_8, mr_10, ml_10, ic_add1, ic_sub1, ic_clamp, ic_div, ic_irm, ic_lt0, ic_0lt, ic_eq0, ic_lt, ic_inj, and15, and7, and31, and63, shl1, shr_ok, neg_1, neg_2, neg_3, neg_4, kc_lt0, kc_ic, kc_m2, kc_1, kc_0, i0_add, add_i0, or_i0, z_8, z_4, z_64, z_256, ic_m2, ec_m1, ic_m1, m1_lt0, m2_lt0, m3_lt0, m4_lt0, up_s, if_true, if_false, ne_eq, not_true_eq_false, not_false_eq_true, Bool.false_eq_true, eq_self, or_self, or_false, false_or, and_self, and_true, true_and, ite_self, Nat.reduceEqDiff, Nat.reduceLT, Nat.reduceMod, Nat.reduceMul, Nat.reduceAdd, Nat.reducePow, Nat.reduceDiv, lt_2, lt_3, lt_4, lt_5, lt_6, lt_7, lt_8, lt_10, lt_11, lt_12, lt_15, lt_16, lt_18, lt_20, lt_24, lt_31, lt_32, lt_48, lt_57, lt_59, lt_63, lt_64, lt_74, lt_75, lt_97, lt_122, lt_128, lt_144, lt_145, lt_146, lt_147, lt_155, lt_163, lt_171, lt_179, lt_200, lt_243, lt_244, lt_255, lt_256, lt_732, lt_900, lt_3660, lt_3904, lt_4095, lt_65536, lt_65537, lt_252645135, lt_858993459, lt_1431655765, ↓p_has_b, p_has, ↓p_has9_b, p_has9, ↓p_bit_b, p_bit, ↓p_bit1_b, p_bit1, ↓p_bit0_b, p_bit0, p_X9_in_15, p_X9_in_14, p_X9_in, q, r]
    · rw [decide_eq_true (by omega)]; simp (maxSteps := 1000000) (disch := omega) only [↓reduceIte, ↓if_bi0, ↓if_bi1, hp_tg, hp_rI, hp_rR, hp_rL, hp_wI, hp_wL, Option.bind_some, if_11, if_01, bi_and1, i10, i01, bi_t, bi_f, ic_add, mr_4, ml_4, mr_8, ml_8, mr_10, ml_10, ic_add1, ic_sub1, ic_clamp, ic_div, ic_irm, ic_lt0, ic_0lt, ic_eq0, ic_lt, ic_inj, and15, and7, and31, and63, shl1, shr_ok, neg_1, neg_2, neg_3, neg_4, kc_lt0, kc_ic, kc_m2, kc_1, kc_0, i0_add, add_i0, or_i0, z_8, z_4, z_64, z_256, ic_m2, ec_m1, ic_m1, m1_lt0, m2_lt0, m3_lt0, m4_lt0, up_s, if_true, if_false, ne_eq, not_true_eq_false, not_false_eq_true, Bool.false_eq_true, eq_self, or_self, or_false, false_or, and_self, and_true, true_and, ite_self, Nat.reduceEqDiff, Nat.reduceLT, Nat.reduceMod, Nat.reduceMul, Nat.reduceAdd, Nat.reducePow, Nat.reduceDiv, lt_2, lt_3, lt_4, lt_5, lt_6, lt_7, lt_8, lt_10, lt_11, lt_12, lt_15, lt_16, lt_18, lt_20, lt_24, lt_31, lt_32, lt_48, lt_57, lt_59, lt_63, lt_64, lt_74, lt_75, lt_97, lt_122, lt_128, lt_144, lt_145, lt_146, lt_147, lt_155, lt_163, lt_171, lt_179, lt_200, lt_243, lt_244, lt_255, lt_256, lt_732, lt_900, lt_3660, lt_3904, lt_4095, lt_65536, lt_65537, lt_252645135, lt_858993459, lt_1431655765, ↓p_has_b, p_has, ↓p_has9_b, p_has9, ↓p_bit_b, p_bit, ↓p_bit1_b, p_bit1, ↓p_bit0_b, p_bit0, p_X9_in_15, p_X9_in_14, p_X9_in, q, r]
theorem p_in9_b {v a c : Nat} (hv : v < 2147483648) (ha : a < 2147483648) (hc : c < 2147483648) (h : AH) {β : Type} (f9 : Int32 × AH → Option β) : (p_X9_in (ic v) (ic a) (ic c) h).bind f9 = f9 (bi (decide (a ≤ v ∧ v ≤ c)), h) := bnd (by apply p_in9 <;> assumption)
theorem srt_3 {k : Nat} (h : k ≤ 4) : (ic (srt k) = ic 3) = (k = 2) := by
  have : ∀ k, k < 5 → ((ic (srt k) = ic 3) ↔ (k = 2)) := by decide
  exact propext (this k (by omega))
theorem srt_5 (k : Nat) : srt k < 5 := by
  unfold srt
  by_cases a0 : k = 0
  · rw [if_pos a0]; omega
  · rw [if_neg a0]
    by_cases a1 : k = 1
    · rw [if_pos a1]; omega
    · rw [if_neg a1]
      by_cases a2 : k = 2
      · rw [if_pos a2]; omega
      · rw [if_neg a2]
        by_cases a3 : k = 3
        · rw [if_pos a3]; omega
        · rw [if_neg a3]; omega
section WHOL
variable {S : SH} {I : II} {L : LL} {x m n a c : Nat} {b : Nat → Nat} {tk : Nat × Nat × Nat × Nat}
theorem k_whole0 (hL : XL S x) (hC : CT I x tk) (hK : TKV b n tk) (hn : n ≤ 900) (ha : a < 5000) (hc : c < 5000) (h : wf tk a c = 0) : p_X5_isWhole x (ic a) (ic c) (hp S I L) = some (1, hp S I L) := by
  obtain ⟨c3, c4, c5, c6⟩ := hC
  unfold wf at h
  by_cases t : tk.1 = 2
  · rw [if_pos t] at h
    have c6 := c6 t
    have kv := hK.2.2.2.2.1 t
    by_cases r : a ≤ tk.2.2.2 ∧ tk.2.2.2 ≤ c
    · rw [t] at c3
      simp (maxSteps := 1000000) (disch := omega) only [↓reduceIte, ↓if_bi0, ↓if_bi1, hp_tg, hp_rI, hp_rR, hp_rL, hp_wI, hp_wL, Option.bind_some, if_11, if_01, bi_and1, i10, i01, bi_t, bi_f, ic_add, mr_4, ml_4, mr_8, ml_8, mr_10, ml_10, ic_add1, ic_sub1, ic_clamp, ic_div, ic_irm, ic_lt0, ic_0lt, ic_eq0, ic_lt, ic_inj, and15, and7, and31, and63, shl1, shr_ok, neg_1, neg_2, neg_3, neg_4, kc_lt0, kc_ic, kc_m2, kc_1, kc_0, i0_add, add_i0, or_i0, z_8, z_4, z_64, z_256, ic_m2, ec_m1, ic_m1, m1_lt0, m2_lt0, m3_lt0, m4_lt0, up_s, if_true, if_false, ne_eq, not_true_eq_false, not_false_eq_true, Bool.false_eq_true, eq_self, or_self, or_false, false_or, and_self, and_true, true_and, ite_self, Nat.reduceEqDiff, Nat.reduceLT, Nat.reduceMod, Nat.reduceMul, Nat.reduceAdd, Nat.reducePow, Nat.reduceDiv, lt_2, lt_3, lt_4, lt_5, lt_6, lt_7, lt_8, lt_10, lt_11, lt_12, lt_15, lt_16, lt_18, lt_20, lt_24, lt_31, lt_32, lt_48, lt_57, lt_59, lt_63, lt_64, lt_74, lt_75, lt_97, lt_122, lt_128, lt_144, lt_145, lt_146, lt_147, lt_155, lt_163, lt_171, lt_179, lt_200, lt_243, lt_244, lt_255, lt_256, lt_732, lt_900, lt_3660, lt_3904, lt_4095, lt_65536, lt_65537, lt_252645135, lt_858993459, lt_1431655765, ↓p_has_b, p_has, ↓p_has9_b, p_has9, ↓p_bit_b, p_bit, ↓p_bit1_b, p_bit1, ↓p_bit0_b, p_bit0, p_X5_isWhole_30, p_X5_isWhole_36, p_X5_isWhole_14, p_X5_isWhole, hL.1, c3, c6, show ¬ tk.2.2.2 < a by omega, show ¬ c < tk.2.2.2 by omega]
    · rw [if_neg r] at h; omega
  · rw [if_neg t] at h; omega
theorem k_whole0_b (hL : XL S x) (hC : CT I x tk) (hK : TKV b n tk) (hn : n ≤ 900) (ha : a < 5000) (hc : c < 5000) (h : wf tk a c = 0) {β : Type} (f9 : Int32 × AH → Option β) : (p_X5_isWhole x (ic a) (ic c) (hp S I L)).bind f9 = f9 (1, hp S I L) := bnd (by apply k_whole0 <;> assumption)
theorem k_whole1 (hL : XL S x) (hC : CT I x tk) (hK : TKV b n tk) (hn : n ≤ 900) (ha : a < 5000) (hc : c < 5000) (h : wf tk a c ≠ 0) : p_X5_isWhole x (ic a) (ic c) (hp S I L) = some (0, hp S (kF I x (wf tk a c) tk.2.1) L) := by
  obtain ⟨c3, c4, c5, c6⟩ := hC
  unfold wf at h ⊢
  unfold kF
  have k4 := hK.1
  by_cases t : tk.1 = 2
  · rw [if_pos t] at h ⊢
    have c6 := c6 t
    have kv := hK.2.2.2.2.1 t
    have F := k_fails (L := L) hL c4 (ic 4)
    by_cases r : a ≤ tk.2.2.2 ∧ tk.2.2.2 ≤ c
    · rw [if_pos r] at h; exact absurd rfl h
    · rw [if_neg r]
      rw [t] at c3
      by_cases q : tk.2.2.2 < a
      · simp (maxSteps := 1000000) (disch := omega) only [↓reduceIte, ↓if_bi0, ↓if_bi1, hp_tg, hp_rI, hp_rR, hp_rL, hp_wI, hp_wL, Option.bind_some, if_11, if_01, bi_and1, i10, i01, bi_t, bi_f, ic_add, mr_4, ml_4, mr_8, ml_8, mr_10, ml_10, ic_add1, ic_sub1, ic_clamp, ic_div, ic_irm, ic_lt0, ic_0lt, ic_eq0, ic_lt, ic_inj, and15, and7, and31, and63, shl1, shr_ok, neg_1, neg_2, neg_3, neg_4, kc_lt0, kc_ic, kc_m2, kc_1, kc_0, i0_add, add_i0, or_i0, z_8, z_4, z_64, z_256, ic_m2, ec_m1, ic_m1, m1_lt0, m2_lt0, m3_lt0, m4_lt0, up_s, if_true, if_false, ne_eq, not_true_eq_false, not_false_eq_true, Bool.false_eq_true, eq_self, or_self, or_false, false_or, and_self, and_true, true_and, ite_self, Nat.reduceEqDiff, Nat.reduceLT, Nat.reduceMod, Nat.reduceMul, Nat.reduceAdd, Nat.reducePow, Nat.reduceDiv, lt_2, lt_3, lt_4, lt_5, lt_6, lt_7, lt_8, lt_10, lt_11, lt_12, lt_15, lt_16, lt_18, lt_20, lt_24, lt_31, lt_32, lt_48, lt_57, lt_59, lt_63, lt_64, lt_74, lt_75, lt_97, lt_122, lt_128, lt_144, lt_145, lt_146, lt_147, lt_155, lt_163, lt_171, lt_179, lt_200, lt_243, lt_244, lt_255, lt_256, lt_732, lt_900, lt_3660, lt_3904, lt_4095, lt_65536, lt_65537, lt_252645135, lt_858993459, lt_1431655765, ↓p_has_b, p_has, ↓p_has9_b, p_has9, ↓p_bit_b, p_bit, ↓p_bit1_b, p_bit1, ↓p_bit0_b, p_bit0, p_X5_isWhole_30, p_X5_isWhole_36, p_X5_isWhole_14, p_X5_isWhole, hL.1, c3, c6, q, ↓bnd (F), F]
      · simp (maxSteps := 1000000) (disch := omega) only [↓reduceIte, ↓if_bi0, ↓if_bi1, hp_tg, hp_rI, hp_rR, hp_rL, hp_wI, hp_wL, Option.bind_some, if_11, if_01, bi_and1, i10, i01, bi_t, bi_f, ic_add, mr_4, ml_4, mr_8, ml_8, mr_10, ml_10, ic_add1, ic_sub1, ic_clamp, ic_div, ic_irm, ic_lt0, ic_0lt, ic_eq0, ic_lt, ic_inj, and15, and7, and31, and63, shl1, shr_ok, neg_1, neg_2, neg_3, neg_4, kc_lt0, kc_ic, kc_m2, kc_1, kc_0, i0_add, add_i0, or_i0, z_8, z_4, z_64, z_256, ic_m2, ec_m1, ic_m1, m1_lt0, m2_lt0, m3_lt0, m4_lt0, up_s, if_true, if_false, ne_eq, not_true_eq_false, not_false_eq_true, Bool.false_eq_true, eq_self, or_self, or_false, false_or, and_self, and_true, true_and, ite_self, Nat.reduceEqDiff, Nat.reduceLT, Nat.reduceMod, Nat.reduceMul, Nat.reduceAdd, Nat.reducePow, Nat.reduceDiv, lt_2, lt_3, lt_4, lt_5, lt_6, lt_7, lt_8, lt_10, lt_11, lt_12, lt_15, lt_16, lt_18, lt_20, lt_24, lt_31, lt_32, lt_48, lt_57, lt_59, lt_63, lt_64, lt_74, lt_75, lt_97, lt_122, lt_128, lt_144, lt_145, lt_146, lt_147, lt_155, lt_163, lt_171, lt_179, lt_200, lt_243, lt_244, lt_255, lt_256, lt_732, lt_900, lt_3660, lt_3904, lt_4095, lt_65536, lt_65537, lt_252645135, lt_858993459, lt_1431655765, ↓p_has_b, p_has, ↓p_has9_b, p_has9, ↓p_bit_b, p_bit, ↓p_bit1_b, p_bit1, ↓p_bit0_b, p_bit0, p_X5_isWhole_30, p_X5_isWhole_36, p_X5_isWhole_14, p_X5_isWhole, hL.1, c3, c6, q, show c < tk.2.2.2 by omega, ↓bnd (F), F]
  · rw [if_neg t] at h ⊢
    have F := k_fails (L := L) hL c4 1
    simp (maxSteps := 1000000) (disch := omega) only [↓reduceIte, ↓if_bi0, ↓if_bi1, hp_tg, hp_rI, hp_rR, hp_rL, hp_wI, hp_wL, Option.bind_some, if_11, if_01, bi_and1, i10, i01, bi_t, bi_f, ic_add, mr_4, ml_4, mr_8, ml_8, mr_10, ml_10, ic_add1, ic_sub1, ic_clamp, ic_div, ic_irm, ic_lt0, ic_0lt, ic_eq0, ic_lt, ic_inj, and15, and7, and31, and63, shl1, shr_ok, neg_1, neg_2, neg_3, neg_4, kc_lt0, kc_ic, kc_m2, kc_1, kc_0, i0_add, add_i0, or_i0, z_8, z_4, z_64, z_256, ic_m2, ec_m1, ic_m1, m1_lt0, m2_lt0, m3_lt0, m4_lt0, up_s, if_true, if_false, ne_eq, not_true_eq_false, not_false_eq_true, Bool.false_eq_true, eq_self, or_self, or_false, false_or, and_self, and_true, true_and, ite_self, Nat.reduceEqDiff, Nat.reduceLT, Nat.reduceMod, Nat.reduceMul, Nat.reduceAdd, Nat.reducePow, Nat.reduceDiv, lt_2, lt_3, lt_4, lt_5, lt_6, lt_7, lt_8, lt_10, lt_11, lt_12, lt_15, lt_16, lt_18, lt_20, lt_24, lt_31, lt_32, lt_48, lt_57, lt_59, lt_63, lt_64, lt_74, lt_75, lt_97, lt_122, lt_128, lt_144, lt_145, lt_146, lt_147, lt_155, lt_163, lt_171, lt_179, lt_200, lt_243, lt_244, lt_255, lt_256, lt_732, lt_900, lt_3660, lt_3904, lt_4095, lt_65536, lt_65537, lt_252645135, lt_858993459, lt_1431655765, ↓p_has_b, p_has, ↓p_has9_b, p_has9, ↓p_bit_b, p_bit, ↓p_bit1_b, p_bit1, ↓p_bit0_b, p_bit0, p_X5_isWhole_30, p_X5_isWhole_36, p_X5_isWhole_14, p_X5_isWhole, hL.1, c3, t, ↓bnd (F), F]
    rfl
theorem k_whole1_b (hL : XL S x) (hC : CT I x tk) (hK : TKV b n tk) (hn : n ≤ 900) (ha : a < 5000) (hc : c < 5000) (h : wf tk a c ≠ 0) {β : Type} (f9 : Int32 × AH → Option β) : (p_X5_isWhole x (ic a) (ic c) (hp S I L)).bind f9 = f9 (0, hp S (kF I x (wf tk a c) tk.2.1) L) := bnd (by apply k_whole1 <;> assumption)
theorem x_whole0 (hL : ML S m) (hC : RT I L m b tk) (hK : TKV b n tk) (hn : n ≤ 900) (ha : a < 5000) (hc : c < 5000) (h : wf tk a c = 0) : p_X9_wholeAt m (ic a) (ic c) (hp S I L) = some (ic tk.2.2.2, hp S I L) := by
  obtain ⟨c9, c10, c8, c11, c14⟩ := hC
  unfold wf at h
  by_cases t : tk.1 = 2
  · rw [if_pos t] at h
    have c11 := c11 t
    have kv := hK.2.2.2.2.1 t
    have P := p_in9 (v := tk.2.2.2) (a := a) (c := c) (by omega) (by omega) (by omega) (hp S I L)
    by_cases r : a ≤ tk.2.2.2 ∧ tk.2.2.2 ≤ c
    · rw [t, show srt 2 = 3 from rfl] at c9
      rw [decide_eq_true r] at P
      simp (maxSteps := 1000000) (disch := omega) only [↓reduceIte, ↓if_bi0, ↓if_bi1, hp_tg, hp_rI, hp_rR, hp_rL, hp_wI, hp_wL, Option.bind_some, if_11, if_01, bi_and1, i10, i01, bi_t, bi_f, ic_add, mr_4, ml_4, mr_8, ml_8, mr_10, ml_10, ic_add1, ic_sub1, ic_clamp, ic_div, ic_irm, ic_lt0, ic_0lt, ic_eq0, ic_lt, ic_inj, and15, and7, and31, and63, shl1, shr_ok, neg_1, neg_2, neg_3, neg_4, kc_lt0, kc_ic, kc_m2, kc_1, kc_0, i0_add, add_i0, or_i0, z_8, z_4, z_64, z_256, ic_m2, ec_m1, ic_m1, m1_lt0, m2_lt0, m3_lt0, m4_lt0, up_s, if_true, if_false, ne_eq, not_true_eq_false, not_false_eq_true, Bool.false_eq_true, eq_self, or_self, or_false, false_or, and_self, and_true, true_and, ite_self, Nat.reduceEqDiff, Nat.reduceLT, Nat.reduceMod, Nat.reduceMul, Nat.reduceAdd, Nat.reducePow, Nat.reduceDiv, lt_2, lt_3, lt_4, lt_5, lt_6, lt_7, lt_8, lt_10, lt_11, lt_12, lt_15, lt_16, lt_18, lt_20, lt_24, lt_31, lt_32, lt_48, lt_57, lt_59, lt_63, lt_64, lt_74, lt_75, lt_97, lt_122, lt_128, lt_144, lt_145, lt_146, lt_147, lt_155, lt_163, lt_171, lt_179, lt_200, lt_243, lt_244, lt_255, lt_256, lt_732, lt_900, lt_3660, lt_3904, lt_4095, lt_65536, lt_65537, lt_252645135, lt_858993459, lt_1431655765, ↓p_has_b, p_has, ↓p_has9_b, p_has9, ↓p_bit_b, p_bit, ↓p_bit1_b, p_bit1, ↓p_bit0_b, p_bit0, p_X9_wholeAt_49, p_X9_wholeAt_45, p_X9_wholeAt_33, p_X9_wholeAt_16, p_X9_wholeAt, hL.t, c9, c11, ↓bnd (P), P]
    · rw [if_neg r] at h; omega
  · rw [if_neg t] at h; omega
theorem x_whole0_b (hL : ML S m) (hC : RT I L m b tk) (hK : TKV b n tk) (hn : n ≤ 900) (ha : a < 5000) (hc : c < 5000) (h : wf tk a c = 0) {β : Type} (f9 : Int32 × AH → Option β) : (p_X9_wholeAt m (ic a) (ic c) (hp S I L)).bind f9 = f9 (ic tk.2.2.2, hp S I L) := bnd (by apply x_whole0 <;> assumption)
theorem x_whole1 (hL : ML S m) (hC : RT I L m b tk) (hK : TKV b n tk) (hn : n ≤ 900) (ha : a < 5000) (hc : c < 5000) (h : wf tk a c ≠ 0) : p_X9_wholeAt m (ic a) (ic c) (hp S I L) = some (ic a, hp S (xF I m (wf tk a c) tk.2.1) L) := by
  obtain ⟨c9, c10, c8, c11, c14⟩ := hC
  unfold wf at h ⊢
  unfold xF
  have k4 := hK.1
  have s5 := srt_5 tk.1
  by_cases t : tk.1 = 2
  · rw [if_pos t] at h ⊢
    have c11 := c11 t
    have kv := hK.2.2.2.2.1 t
    have F := x_flaw (L := L) hL c9 s5 c10 (ic 4)
    have P := p_in9 (v := tk.2.2.2) (a := a) (c := c) (by omega) (by omega) (by omega) (hp S I L)
    by_cases r : a ≤ tk.2.2.2 ∧ tk.2.2.2 ≤ c
    · rw [if_pos r] at h; exact absurd rfl h
    · rw [if_neg r]
      rw [t, show srt 2 = 3 from rfl] at c9
      rw [decide_eq_false r] at P
      simp (maxSteps := 1000000) (disch := omega) only [↓reduceIte, ↓if_bi0, ↓if_bi1, hp_tg, hp_rI, hp_rR, hp_rL, hp_wI, hp_wL, Option.bind_some, if_11, if_01, bi_and1, i10, i01, bi_t, bi_f, ic_add, mr_4, ml_4, mr_8, ml_8, mr_10, ml_10, ic_add1, ic_sub1, ic_clamp, ic_div, ic_irm, ic_lt0, ic_0lt, ic_eq0, ic_lt, ic_inj, and15, and7, and31, and63, shl1, shr_ok, neg_1, neg_2, neg_3, neg_4, kc_lt0, kc_ic, kc_m2, kc_1, kc_0, i0_add, add_i0, or_i0, z_8, z_4, z_64, z_256, ic_m2, ec_m1, ic_m1, m1_lt0, m2_lt0, m3_lt0, m4_lt0, up_s, if_true, if_false, ne_eq, not_true_eq_false, not_false_eq_true, Bool.false_eq_true, eq_self, or_self, or_false, false_or, and_self, and_true, true_and, ite_self, Nat.reduceEqDiff, Nat.reduceLT, Nat.reduceMod, Nat.reduceMul, Nat.reduceAdd, Nat.reducePow, Nat.reduceDiv, lt_2, lt_3, lt_4, lt_5, lt_6, lt_7, lt_8, lt_10, lt_11, lt_12, lt_15, lt_16, lt_18, lt_20, lt_24, lt_31, lt_32, lt_48, lt_57, lt_59, lt_63, lt_64, lt_74, lt_75, lt_97, lt_122, lt_128, lt_144, lt_145, lt_146, lt_147, lt_155, lt_163, lt_171, lt_179, lt_200, lt_243, lt_244, lt_255, lt_256, lt_732, lt_900, lt_3660, lt_3904, lt_4095, lt_65536, lt_65537, lt_252645135, lt_858993459, lt_1431655765, ↓p_has_b, p_has, ↓p_has9_b, p_has9, ↓p_bit_b, p_bit, ↓p_bit1_b, p_bit1, ↓p_bit0_b, p_bit0, p_X9_wholeAt_49, p_X9_wholeAt_45, p_X9_wholeAt_33, p_X9_wholeAt_16, p_X9_wholeAt, hL.t, c9, c11, ↓bnd (P), P, ↓bnd (F), F]
  · rw [if_neg t] at h ⊢
    have F := x_flaw (L := L) hL c9 s5 c10 (ic 1)
    have nt : ¬ (ic (srt tk.1) = 3) := by rw [show (3 : Int32) = ic 3 from rfl, srt_3 k4]; exact t
    rw [show ic 1 = 1 from rfl] at F
    unfold p_X9_wholeAt
    simp only [↓reduceIte, ↓if_bi0, hp_tg, hp_rR, hp_rI, hp_wI, eq_self, bi_t, bi_f, i10, if_true, if_false, Bool.false_eq_true, hL.t, c9]
    rw [if_neg nt]
    refine Eq.trans (bnd F) ?_
    simp (maxSteps := 1000000) (disch := omega) only [↓reduceIte, ↓if_bi0, ↓if_bi1, hp_tg, hp_rI, hp_rR, hp_rL, hp_wI, hp_wL, Option.bind_some, if_11, if_01, bi_and1, i10, i01, bi_t, bi_f, ic_add, mr_4, ml_4, mr_8, ml_8, mr_10, ml_10, ic_add1, ic_sub1, ic_clamp, ic_div, ic_irm, ic_lt0, ic_0lt, ic_eq0, ic_lt, ic_inj, and15, and7, and31, and63, shl1, shr_ok, neg_1, neg_2, neg_3, neg_4, kc_lt0, kc_ic, kc_m2, kc_1, kc_0, i0_add, add_i0, or_i0, z_8, z_4, z_64, z_256, ic_m2, ec_m1, ic_m1, m1_lt0, m2_lt0, m3_lt0, m4_lt0, up_s, if_true, if_false, ne_eq, not_true_eq_false, not_false_eq_true, Bool.false_eq_true, eq_self, or_self, or_false, false_or, and_self, and_true, true_and, ite_self, Nat.reduceEqDiff, Nat.reduceLT, Nat.reduceMod, Nat.reduceMul, Nat.reduceAdd, Nat.reducePow, Nat.reduceDiv, lt_2, lt_3, lt_4, lt_5, lt_6, lt_7, lt_8, lt_10, lt_11, lt_12, lt_15, lt_16, lt_18, lt_20, lt_24, lt_31, lt_32, lt_48, lt_57, lt_59, lt_63, lt_64, lt_74, lt_75, lt_97, lt_122, lt_128, lt_144, lt_145, lt_146, lt_147, lt_155, lt_163, lt_171, lt_179, lt_200, lt_243, lt_244, lt_255, lt_256, lt_732, lt_900, lt_3660, lt_3904, lt_4095, lt_65536, lt_65537, lt_252645135, lt_858993459, lt_1431655765, ↓p_has_b, p_has, ↓p_has9_b, p_has9, ↓p_bit_b, p_bit, ↓p_bit1_b, p_bit1, ↓p_bit0_b, p_bit0, p_X9_wholeAt_33, p_X9_wholeAt_49, hL.t]
    rfl
theorem x_whole1_b (hL : ML S m) (hC : RT I L m b tk) (hK : TKV b n tk) (hn : n ≤ 900) (ha : a < 5000) (hc : c < 5000) (h : wf tk a c ≠ 0) {β : Type} (f9 : Int32 × AH → Option β) : (p_X9_wholeAt m (ic a) (ic c) (hp S I L)).bind f9 = f9 (ic a, hp S (xF I m (wf tk a c) tk.2.1) L) := bnd (by apply x_whole1 <;> assumption)
theorem x_whole5 (hL : ML S m) (h5 : I m 9 = ic 5) (a c : Int32) : p_X9_wholeAt m a c (hp S I L) = some (a, hp S I L) := by
  have F := x_flaw5 (L := L) hL h5 1
  simp (maxSteps := 1000000) (disch := omega) only [↓reduceIte, ↓if_bi0, ↓if_bi1, hp_tg, hp_rI, hp_rR, hp_rL, hp_wI, hp_wL, Option.bind_some, if_11, if_01, bi_and1, i10, i01, bi_t, bi_f, ic_add, mr_4, ml_4, mr_8, ml_8, mr_10, ml_10, ic_add1, ic_sub1, ic_clamp, ic_div, ic_irm, ic_lt0, ic_0lt, ic_eq0, ic_lt, ic_inj, and15, and7, and31, and63, shl1, shr_ok, neg_1, neg_2, neg_3, neg_4, kc_lt0, kc_ic, kc_m2, kc_1, kc_0, i0_add, add_i0, or_i0, z_8, z_4, z_64, z_256, ic_m2, ec_m1, ic_m1, m1_lt0, m2_lt0, m3_lt0, m4_lt0, up_s, if_true, if_false, ne_eq, not_true_eq_false, not_false_eq_true, Bool.false_eq_true, eq_self, or_self, or_false, false_or, and_self, and_true, true_and, ite_self, Nat.reduceEqDiff, Nat.reduceLT, Nat.reduceMod, Nat.reduceMul, Nat.reduceAdd, Nat.reducePow, Nat.reduceDiv, lt_2, lt_3, lt_4, lt_5, lt_6, lt_7, lt_8, lt_10, lt_11, lt_12, lt_15, lt_16, lt_18, lt_20, lt_24, lt_31, lt_32, lt_48, lt_57, lt_59, lt_63, lt_64, lt_74, lt_75, lt_97, lt_122, lt_128, lt_144, lt_145, lt_146, lt_147, lt_155, lt_163, lt_171, lt_179, lt_200, lt_243, lt_244, lt_255, lt_256, lt_732, lt_900, lt_3660, lt_3904, lt_4095, lt_65536, lt_65537, lt_252645135, lt_858993459, lt_1431655765, ↓p_has_b, p_has, ↓p_has9_b, p_has9, ↓p_bit_b, p_bit, ↓p_bit1_b, p_bit1, ↓p_bit0_b, p_bit0, p_X9_wholeAt_49, p_X9_wholeAt_45, p_X9_wholeAt_33, p_X9_wholeAt_16, p_X9_wholeAt, hL.t, h5, ↓bnd (F), F]
theorem x_whole5_b (hL : ML S m) (h5 : I m 9 = ic 5) (a c : Int32) {β : Type} (f9 : Int32 × AH → Option β) : (p_X9_wholeAt m a c (hp S I L)).bind f9 = f9 (a, hp S I L) := bnd (by apply x_whole5 <;> assumption)
end WHOL
