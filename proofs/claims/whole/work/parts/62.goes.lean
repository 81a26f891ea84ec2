/-! ===== one token on: the reference ===== -/
def srt (k : Nat) : Nat := if k = 0 then 1 else if k = 1 then 2 else if k = 2 then 3 else if k = 3 then 4 else 0
/-- letters packed, a = 1 -/
def pk (b : Nat → Nat) (f : Nat) : Nat → Nat
  | 0 => 0
  | k + 1 => 32 * pk b f k + (b (f + k) - 96)
def mn4 (c k : Nat) : Nat := if k < c then k else c
def RT (I : II) (L : LL) (m : Nat) (b : Nat → Nat) (k : Nat × Nat × Nat × Nat) : Prop := I m 9 = ic (srt k.1) ∧ I m 10 = ic k.2.1 ∧ (k.1 ≠ 4 → I m 8 = ic k.2.2.1) ∧ (k.1 = 2 → I m 11 = ic k.2.2.2) ∧ (k.1 = 1 → L m 14 = lo (pk b k.2.1 (k.2.2.1 - k.2.1)))
theorem p_sml9 {c : Nat} (hc : c < 256) (h : AH) : p_X9_isLetter (ic c) h = some (bi (sml c), h) := by
  unfold sml
  by_cases a : c < 97
  · rw [decide_eq_false (by omega)]; simp (maxSteps := 1000000) (disch := omega) only [↓reduceIte, ↓if_bi0, ↓if_bi1, hp_tg, hp_rI, hp_rR, hp_rL, hp_wI, hp_wL, Option.bind_some, if_11, if_01, bi_and1, i10, i01, bi_t, bi_f, ic_add, mr_4, ml_4, mr_8, ml_8, mr_10, ml_10, ic_add1, ic_sub1, ic_clamp, ic_div, ic_irm, ic_lt0, ic_0lt, ic_eq0, ic_lt, ic_inj, and15, and7, and31, and63, shl1, shr_ok, neg_1, neg_2, neg_3, neg_4, kc_lt0, kc_ic, kc_m2, kc_1, kc_0, i0_add, add_i0, or_i0, z_8, z_4, z_64, z_256, ic_m2, ec_m1, ic_m1, m1_lt0, m2_lt0, m3_lt0, m4_lt0, up_s, if_true, if_false, ne_eq, not_true_eq_false, not_false_eq_true, Bool.false_eq_true, eq_self, or_self, or_false, false_or, and_self, and_true, true_and, ite_self, Nat.reduceEqDiff, Nat.reduceLT, Nat.reduceMod, Nat.reduceMul, Nat.reduceAdd, Nat.reducePow, Nat.reduceDiv, lt_2, lt_3, lt_4, lt_5, lt_6, lt_7, lt_8, lt_10, lt_11, lt_12, lt_15, lt_16, lt_18, lt_20, lt_24, lt_31, lt_32, lt_48, lt_57, lt_59, lt_63, lt_64, lt_74, lt_75, lt_97, lt_122, lt_128, lt_144, lt_145, lt_146, lt_147, lt_155, lt_163, lt_171, lt_179, lt_200, lt_243, lt_244, lt_255, lt_256, lt_732, lt_900, lt_3660, lt_3904, lt_4095, lt_65536, lt_65537, lt_252645135, lt_858993459, lt_1431655765, ↓p_has_b, p_has, ↓p_has9_b, p_has9, ↓p_bit_b, p_bit, ↓p_bit1_b, p_bit1, ↓p_bit0_b, p_bit0, p_X9_isLetter_17, p_X9_isLetter_16, p_X9_isLetter, a]
  · by_cases b : 122 < c
    · rw [decide_eq_false (by omega)]; simp (maxSteps := 1000000) (disch := omega) only [↓reduceIte, ↓if_bi0, ↓if_bi1, hp_tg, hp_rI, hp_rR, hp_rL, hp_wI, hp_wL, Option.bind_some, if_11, if_01, bi_and1, i10, i01, bi_t, bi_f, ic_add, mr_4, ml_4, mr_8, ml_8, mr_10, ml_10, ic_add1, ic_sub1, ic_clamp, ic_div, ic_irm, ic_lt0, ic_0lt, ic_eq0, ic_lt, ic_inj, and15, and7, and31, and63, shl1, shr_ok, neg_1, neg_2, neg_3, neg_4, kc_lt0, kc_ic, kc_m2, kc_1, kc_0, i0_add, add_i0, or_i0, z_8, z_4, z_64, z_256, ic_m2, ec_m1, ic_m1, m1_lt0, m2_lt0, m3_lt0, m4_lt0, up_s, if_true, if_false, ne_eq, not_true_eq_false, not_false_eq_true, Bool.false_eq_true, eq_self, or_self, or_false, false_or, and_self, and_true, true_and, ite_self, Nat.reduceEqDiff, Nat.reduceLT, Nat.reduceMod, Nat.reduceMul, Nat.reduceAdd, Nat.reducePow, Nat.reduceDiv, lt_2, lt_3, lt_4, lt_5, lt_6, lt_7, lt_8, lt_10, lt_11, lt_12, lt_15, lt_16, lt_18, lt_20, lt_24, lt_31, lt_32, lt_48, lt_57, lt_59, lt_63, lt_64, lt_74, lt_75, lt_97, lt_122, lt_128, lt_144, lt_145, lt_146, lt_147, lt_155, lt_163, lt_171, lt_179, lt_200, lt_243, lt_244, lt_255, lt_256, lt_732, lt_900, lt_3660, lt_3904, lt_4095, lt_65536, lt_65537, lt_252645135, lt_858993459, lt_1431655765, ↓p_has_b, p_has, ↓p_has9_b, p_has9, ↓p_bit_b, p_bit, ↓p_bit1_b, p_bit1, ↓p_bit0_b, p_bit0, p_X9_isLetter_17, p_X9_isLetter_16, p_X9_isLetter, a, b]
    · rw [decide_eq_true (by omega)]; simp (maxSteps := 1000000) (disch := omega) only [↓reduceIte, ↓if_bi0, ↓if_bi1, hp_tg, hp_rI, hp_rR, hp_rL, hp_wI, hp_wL, Option.bind_some, if_11, if_01, bi_and1, i10, i01, bi_t, bi_f, ic_add, mr_4, ml_4, mr_8, ml_8, mr_10, ml_10, ic_add1, ic_sub1, ic_clamp, ic_div, ic_irm, ic_lt0, ic_0lt, ic_eq0, ic_lt, ic_inj, and15, and7, and31, and63, shl1, shr_ok, neg_1, neg_2, neg_3, neg_4, kc_lt0, kc_ic, kc_m2, kc_1, kc_0, i0_add, add_i0, or_i0, z_8, z_4, z_64, z_256, ic_m2, ec_m1, ic_m1, m1_lt0, m2_lt0, m3_lt0, m4_lt0, up_s, if_true, if_false, ne_eq, not_true_eq_false, not_false_eq_true, Bool.false_eq_true, eq_self, or_self, or_false, false_or, and_self, and_true, true_and, ite_self, Nat.reduceEqDiff, Nat.reduceLT, Nat.reduceMod, Nat.reduceMul, Nat.reduceAdd, Nat.reducePow, Nat.reduceDiv, lt_2, lt_3, lt_4, lt_5, lt_6, lt_7, lt_8, lt_10, lt_11, lt_12, lt_15, lt_16, lt_18, lt_20, lt_24, lt_31, lt_32, lt_48, lt_57, lt_59, lt_63, lt_64, lt_74, lt_75, lt_97, lt_122, lt_128, lt_144, lt_145, lt_146, lt_147, lt_155, lt_163, lt_171, lt_179, lt_200, lt_243, lt_244, lt_255, lt_256, lt_732, lt_900, lt_3660, lt_3904, lt_4095, lt_65536, lt_65537, lt_252645135, lt_858993459, lt_1431655765, ↓p_has_b, p_has, ↓p_has9_b, p_has9, ↓p_bit_b, p_bit, ↓p_bit1_b, p_bit1, ↓p_bit0_b, p_bit0, p_X9_isLetter_17, p_X9_isLetter_16, p_X9_isLetter, a, b]
theorem p_sml9_b {c : Nat} (hc : c < 256) (h : AH) {β : Type} (f9 : Int32 × AH → Option β) : (p_X9_isLetter (ic c) h).bind f9 = f9 (bi (sml c), h) := bnd (by apply p_sml9 <;> assumption)
theorem p_dgt9 {c : Nat} (hc : c < 256) (h : AH) : p_X9_isDigit (ic c) h = some (bi (dgt c), h) := by
  unfold dgt
  by_cases a : c < 48
  · rw [decide_eq_false (by omega)]; simp (maxSteps := 1000000) (disch := omega) only [↓reduceIte, ↓if_bi0, ↓if_bi1, hp_tg, hp_rI, hp_rR, hp_rL, hp_wI, hp_wL, Option.bind_some, if_11, if_01, bi_and1, i10, i01, bi_t, bi_f, ic_add, mr_4, ml_4, mr_8, ml_8, mr_10, ml_10, ic_add1, ic_sub1, ic_clamp, ic_div, ic_irm, ic_lt0, ic_0lt, ic_eq0, ic_lt, ic_inj, and15, and7, and31, and63, shl1, shr_ok, neg_1, neg_2, neg_3, neg_4, kc_lt0, kc_ic, kc_m2, kc_1, kc_0, i0_add, add_i0, or_i0, z_8, z_4, z_64, z_256, ic_m2, ec_m1, ic_m1, m1_lt0, m2_lt0, m3_lt0, m4_lt0, up_s, if_true, if_false, ne_eq, not_true_eq_false, not_false_eq_true, Bool.false_eq_true, eq_self, or_self, or_false, false_or, and_self, and_true, true_and, ite_self, Nat.reduceEqDiff, Nat.reduceLT, Nat.reduceMod, Nat.reduceMul, Nat.reduceAdd, Nat.reducePow, Nat.reduceDiv, lt_2, lt_3, lt_4, lt_5, lt_6, lt_7, lt_8, lt_10, lt_11, lt_12, lt_15, lt_16, lt_18, lt_20, lt_24, lt_31, lt_32, lt_48, lt_57, lt_59, lt_63, lt_64, lt_74, lt_75, lt_97, lt_122, lt_128, lt_144, lt_145, lt_146, lt_147, lt_155, lt_163, lt_171, lt_179, lt_200, lt_243, lt_244, lt_255, lt_256, lt_732, lt_900, lt_3660, lt_3904, lt_4095, lt_65536, lt_65537, lt_252645135, lt_858993459, lt_1431655765, ↓p_has_b, p_has, ↓p_has9_b, p_has9, ↓p_bit_b, p_bit, ↓p_bit1_b, p_bit1, ↓p_bit0_b, p_bit0, p_X9_isDigit_17, p_X9_isDigit_16, p_X9_isDigit, a]
  · by_cases b : 57 < c
    · rw [decide_eq_false (by omega)]; simp (maxSteps := 1000000) (disch := omega) only [↓reduceIte, ↓if_bi0, ↓if_bi1, hp_tg, hp_rI, hp_rR, hp_rL, hp_wI, hp_wL, Option.bind_some, if_11, if_01, bi_and1, i10, i01, bi_t, bi_f, ic_add, mr_4, ml_4, mr_8, ml_8, mr_10, ml_10, ic_add1, ic_sub1, ic_clamp, ic_div, ic_irm, ic_lt0, ic_0lt, ic_eq0, ic_lt, ic_inj, and15, and7, and31, and63, shl1, shr_ok, neg_1, neg_2, neg_3, neg_4, kc_lt0, kc_ic, kc_m2, kc_1, kc_0, i0_add, add_i0, or_i0, z_8, z_4, z_64, z_256, ic_m2, ec_m1, ic_m1, m1_lt0, m2_lt0, m3_lt0, m4_lt0, up_s, if_true, if_false, ne_eq, not_true_eq_false, not_false_eq_true, Bool.false_eq_true, eq_self, or_self, or_false, false_or, and_self, and_true, true_and, ite_self, Nat.reduceEqDiff, Nat.reduceLT, Nat.reduceMod, Nat.reduceMul, Nat.reduceAdd, Nat.reducePow, Nat.reduceDiv, lt_2, lt_3, lt_4, lt_5, lt_6, lt_7, lt_8, lt_10, lt_11, lt_12, lt_15, lt_16, lt_18, lt_20, lt_24, lt_31, lt_32, lt_48, lt_57, lt_59, lt_63, lt_64, lt_74, lt_75, lt_97, lt_122, lt_128, lt_144, lt_145, lt_146, lt_147, lt_155, lt_163, lt_171, lt_179, lt_200, lt_243, lt_244, lt_255, lt_256, lt_732, lt_900, lt_3660, lt_3904, lt_4095, lt_65536, lt_65537, lt_252645135, lt_858993459, lt_1431655765, ↓p_has_b, p_has, ↓p_has9_b, p_has9, ↓p_bit_b, p_bit, ↓p_bit1_b, p_bit1, ↓p_bit0_b, p_bit0, p_X9_isDigit_17, p_X9_isDigit_16, p_X9_isDigit, a, b]
    · rw [decide_eq_true (by omega)]; simp (maxSteps := 1000000) (disch := omega) only [↓reduceIte, ↓if_bi0, ↓if_bi1, hp_tg, hp_rI, hp_rR, hp_rL, hp_wI, hp_wL, Option.bind_some, if_11, if_01, bi_and1, i10, i01, bi_t, bi_f, ic_add, mr_4, ml_4, mr_8, ml_8, mr_10, ml_10, ic_add1, ic_sub1, ic_clamp, ic_div, ic_irm, ic_lt0, ic_0lt, ic_eq0, ic_lt, ic_inj, and15, and7, and31, and63, shl1, shr_ok, neg_1, neg_2, neg_3, neg_4, kc_lt0, kc_ic, kc_m2, kc_1, kc_0, i0_add, add_i0, or_i0, z_8, z_4, z_64, z_256, ic_m2, ec_m1, ic_m1, m1_lt0, m2_lt0, m3_lt0, m4_lt0, up_s, if_true, if_false, ne_eq, not_true_eq_false, not_false_eq_true, Bool.false_eq_true, eq_self, or_self, or_false, false_or, and_self, and_true, true_and, ite_self, Nat.reduceEqDiff, Nat.reduceLT, Nat.reduceMod, Nat.reduceMul, Nat.reduceAdd, Nat.reducePow, Nat.reduceDiv, lt_2, lt_3, lt_4, lt_5, lt_6, lt_7, lt_8, lt_10, lt_11, lt_12, lt_15, lt_16, lt_18, lt_20, lt_24, lt_31, lt_32, lt_48, lt_57, lt_59, lt_63, lt_64, lt_74, lt_75, lt_97, lt_122, lt_128, lt_144, lt_145, lt_146, lt_147, lt_155, lt_163, lt_171, lt_179, lt_200, lt_243, lt_244, lt_255, lt_256, lt_732, lt_900, lt_3660, lt_3904, lt_4095, lt_65536, lt_65537, lt_252645135, lt_858993459, lt_1431655765, ↓p_has_b, p_has, ↓p_has9_b, p_has9, ↓p_bit_b, p_bit, ↓p_bit1_b, p_bit1, ↓p_bit0_b, p_bit0, p_X9_isDigit_17, p_X9_isDigit_16, p_X9_isDigit, a, b]
theorem p_dgt9_b {c : Nat} (hc : c < 256) (h : AH) {β : Type} (f9 : Int32 × AH → Option β) : (p_X9_isDigit (ic c) h).bind f9 = f9 (bi (dgt c), h) := bnd (by apply p_dgt9 <;> assumption)
theorem p_sml9m (h : AH) : p_X9_isLetter m1 h = some (0, h) := rfl
theorem p_sml9m_b (h : AH) {β : Type} (f9 : Int32 × AH → Option β) : (p_X9_isLetter m1 h).bind f9 = f9 (0, h) := bnd (by apply p_sml9m <;> assumption)
theorem p_dgt9m (h : AH) : p_X9_isDigit m1 h = some (0, h) := rfl
theorem p_dgt9m_b (h : AH) {β : Type} (f9 : Int32 × AH → Option β) : (p_X9_isDigit m1 h).bind f9 = f9 (0, h) := bnd (by apply p_dgt9m <;> assumption)
section GOES
variable {S : SH} {I : II} {L : LL} {m n p : Nat} {b : Nat → Nat}
theorem ML.tp (h : ML S m) : tR S m 5 = m + 1 := h.2.1.1
theorem ML.tpt (h : ML S m) : tT S (m + 1) = (101, 900) := h.2.1.2
theorem by9_in (hL : ML S m) (hT : TP I (m + 1) b) (h2 : I m 7 = ic n) (hn : n ≤ 900) {p : Nat} (h9 : p < n) : p_X9_byteAt m (ic p) (hp S I L) = some (ic (b p), hp S I L) := by
  obtain ⟨t1, t2⟩ := hT p (by omega)
  simp (maxSteps := 1000000) (disch := omega) only [↓reduceIte, ↓if_bi0, ↓if_bi1, hp_tg, hp_rI, hp_rR, hp_rL, hp_wI, hp_wL, Option.bind_some, if_11, if_01, bi_and1, i10, i01, bi_t, bi_f, ic_add, mr_4, ml_4, mr_8, ml_8, mr_10, ml_10, ic_add1, ic_sub1, ic_clamp, ic_div, ic_irm, ic_lt0, ic_0lt, ic_eq0, ic_lt, ic_inj, and15, and7, and31, and63, shl1, shr_ok, neg_1, neg_2, neg_3, neg_4, kc_lt0, kc_ic, kc_m2, kc_1, kc_0, i0_add, add_i0, or_i0, z_8, z_4, z_64, z_256, ic_m2, ec_m1, ic_m1, m1_lt0, m2_lt0, m3_lt0, m4_lt0, up_s, if_true, if_false, ne_eq, not_true_eq_false, not_false_eq_true, Bool.false_eq_true, eq_self, or_self, or_false, false_or, and_self, and_true, true_and, ite_self, Nat.reduceEqDiff, Nat.reduceLT, Nat.reduceMod, Nat.reduceMul, Nat.reduceAdd, Nat.reducePow, Nat.reduceDiv, lt_2, lt_3, lt_4, lt_5, lt_6, lt_7, lt_8, lt_10, lt_11, lt_12, lt_15, lt_16, lt_18, lt_20, lt_24, lt_31, lt_32, lt_48, lt_57, lt_59, lt_63, lt_64, lt_74, lt_75, lt_97, lt_122, lt_128, lt_144, lt_145, lt_146, lt_147, lt_155, lt_163, lt_171, lt_179, lt_200, lt_243, lt_244, lt_255, lt_256, lt_732, lt_900, lt_3660, lt_3904, lt_4095, lt_65536, lt_65537, lt_252645135, lt_858993459, lt_1431655765, ↓p_has_b, p_has, ↓p_has9_b, p_has9, ↓p_bit_b, p_bit, ↓p_bit1_b, p_bit1, ↓p_bit0_b, p_bit0, p_X9_byteAt_22, p_X9_byteAt_21, p_X9_byteAt, hL.t, h2, h9, hL.tp, if_inB hL.tpt, t2, by8_255 (b p) t1]
theorem by9_in_b (hL : ML S m) (hT : TP I (m + 1) b) (h2 : I m 7 = ic n) (hn : n ≤ 900) {p : Nat} (h9 : p < n) {β : Type} (f9 : Int32 × AH → Option β) : (p_X9_byteAt m (ic p) (hp S I L)).bind f9 = f9 (ic (b p), hp S I L) := bnd (by apply by9_in <;> assumption)
theorem by9_out (hL : ML S m) (h2 : I m 7 = ic n) (hn : n ≤ 900) {p : Nat} (h9 : ¬ p < n) (h8 : p < 2147483648) : p_X9_byteAt m (ic p) (hp S I L) = some (m1, hp S I L) := by
  simp (maxSteps := 1000000) (disch := omega) only [↓reduceIte, ↓if_bi0, ↓if_bi1, hp_tg, hp_rI, hp_rR, hp_rL, hp_wI, hp_wL, Option.bind_some, if_11, if_01, bi_and1, i10, i01, bi_t, bi_f, ic_add, mr_4, ml_4, mr_8, ml_8, mr_10, ml_10, ic_add1, ic_sub1, ic_clamp, ic_div, ic_irm, ic_lt0, ic_0lt, ic_eq0, ic_lt, ic_inj, and15, and7, and31, and63, shl1, shr_ok, neg_1, neg_2, neg_3, neg_4, kc_lt0, kc_ic, kc_m2, kc_1, kc_0, i0_add, add_i0, or_i0, z_8, z_4, z_64, z_256, ic_m2, ec_m1, ic_m1, m1_lt0, m2_lt0, m3_lt0, m4_lt0, up_s, if_true, if_false, ne_eq, not_true_eq_false, not_false_eq_true, Bool.false_eq_true, eq_self, or_self, or_false, false_or, and_self, and_true, true_and, ite_self, Nat.reduceEqDiff, Nat.reduceLT, Nat.reduceMod, Nat.reduceMul, Nat.reduceAdd, Nat.reducePow, Nat.reduceDiv, lt_2, lt_3, lt_4, lt_5, lt_6, lt_7, lt_8, lt_10, lt_11, lt_12, lt_15, lt_16, lt_18, lt_20, lt_24, lt_31, lt_32, lt_48, lt_57, lt_59, lt_63, lt_64, lt_74, lt_75, lt_97, lt_122, lt_128, lt_144, lt_145, lt_146, lt_147, lt_155, lt_163, lt_171, lt_179, lt_200, lt_243, lt_244, lt_255, lt_256, lt_732, lt_900, lt_3660, lt_3904, lt_4095, lt_65536, lt_65537, lt_252645135, lt_858993459, lt_1431655765, ↓p_has_b, p_has, ↓p_has9_b, p_has9, ↓p_bit_b, p_bit, ↓p_bit1_b, p_bit1, ↓p_bit0_b, p_bit0, p_X9_byteAt_22, p_X9_byteAt_21, p_X9_byteAt, hL.t, h2, h9]
theorem by9_out_b (hL : ML S m) (h2 : I m 7 = ic n) (hn : n ≤ 900) {p : Nat} (h9 : ¬ p < n) (h8 : p < 2147483648) {β : Type} (f9 : Int32 × AH → Option β) : (p_X9_byteAt m (ic p) (hp S I L)).bind f9 = f9 (m1, hp S I L) := bnd (by apply by9_out <;> assumption)
theorem x_sp (hL : ML S m) (hT : TP I (m + 1) b) (h2 : I m 7 = ic n) (hn : n ≤ 900) : ∀ (d p f : Nat), p + d = n → d < f → p_X9_goesOn_9 f m (hp S (up2 I m 8 (ic p)) L) = p_X9_goesOn_35 m (hp S (up2 I m 8 (ic (rl (fun k => decide (b k = 32)) d p))) L) := by
  intro d
  induction d with
  | zero =>
    intro p f h1 h3
    obtain ⟨f, rfl⟩ : ∃ m, f = m + 1 := ⟨f - 1, by omega⟩
    obtain rfl : p = n := by omega
    have g2 : up2 I m 8 (ic p) m 7 = ic p := by rw [up_k (by omega)]; exact h2
    have A := by9_out (L := L) hL g2 hn (p := p) (by omega) (by omega)
    rw [p_X9_goesOn_9.eq_2]
    simp only [↓reduceIte, ↓if_bi0, hp_tg, hp_rR, hp_rI, hp_wI, eq_self, bi_t, bi_f, i10, if_true, if_false, Bool.false_eq_true, hL.t]
    rw [up_s]
    refine Eq.trans (bnd A) ?_
    rw [if_neg (by show ¬ m1 = 32; decide)]
    rfl
  | succ d ih =>
    intro p f h1 h3
    obtain ⟨f, rfl⟩ : ∃ m, f = m + 1 := ⟨f - 1, by omega⟩
    have g2 : up2 I m 8 (ic p) m 7 = ic n := by rw [up_k (by omega)]; exact h2
    have gT : TP (up2 I m 8 (ic p)) (m + 1) b := fun k hk => by rw [up_a (by omega)]; exact hT k hk
    have A := by9_in (L := L) hL gT g2 hn (p := p) (by omega)
    have hb := (hT p (by omega)).1
    rw [p_X9_goesOn_9.eq_2]
    simp only [↓reduceIte, ↓if_bi0, hp_tg, hp_rR, hp_rI, hp_wI, eq_self, bi_t, bi_f, i10, if_true, if_false, Bool.false_eq_true, hL.t]
    rw [up_s]
    by_cases c : b p = 32
    · rw [rl_t (decide_eq_true c)]
      rw [c] at A
      have B9 := ih (p + 1) f (by omega) (by omega)
      rw [← up_up I m 8 (ic p) (ic (p + 1))] at B9
      refine Eq.trans (bnd A) ?_
      rw [if_pos (by rfl)]
      simp only [↓reduceIte, ↓if_bi0, hp_tg, hp_rR, hp_rI, hp_wI, eq_self, bi_t, bi_f, i10, if_true, if_false, Bool.false_eq_true, hL.t]
      rw [up_s, ic_add1]
      exact B9
    · rw [rl_f (by rw [decide_eq_false c]; decide)]
      refine Eq.trans (bnd A) ?_
      rw [if_neg (by show ¬ ic (b p) = ic 32; rw [ic_inj (by omega) (by omega)]; exact c)]
      rfl
theorem x_sm (hL : ML S m) (hT : TP I (m + 1) b) (h2 : I m 7 = ic n) (hn : n ≤ 900) {f0 : Nat} : ∀ (d p f : Nat), p + d = n → d < f → f0 ≤ p → p_X9_goesOn_84 f m (ic (p - f0)) (hp S (up2 I m 8 (ic p)) (up2 L m 14 (lo (pk b f0 (mn4 8 (p - f0)))))) = p_X9_goesOn_147 m (ic (rl (fun k => sml (b k)) d p - f0)) (hp S (up2 I m 8 (ic (rl (fun k => sml (b k)) d p))) (up2 L m 14 (lo (pk b f0 (mn4 8 (rl (fun k => sml (b k)) d p - f0)))))) := by
  intro d
  induction d with
  | zero =>
    intro p f h1 h3 h4
    obtain ⟨f, rfl⟩ : ∃ m, f = m + 1 := ⟨f - 1, by omega⟩
    obtain rfl : p = n := by omega
    have g2 : up2 I m 8 (ic p) m 7 = ic p := by rw [up_k (by omega)]; exact h2
    have A := by9_out (L := up2 L m 14 (lo (pk b f0 (mn4 8 (p - f0))))) hL g2 hn (p := p) (by omega) (by omega)
    have C9 := p_sml9m (hp S (up2 I m 8 (ic p)) (up2 L m 14 (lo (pk b f0 (mn4 8 (p - f0))))))
    rw [p_X9_goesOn_84.eq_2]
    simp only [↓reduceIte, ↓if_bi0, hp_tg, hp_rR, hp_rI, hp_wI, eq_self, bi_t, bi_f, i10, if_true, if_false, Bool.false_eq_true, hL.t]
    rw [up_s]
    refine Eq.trans (bnd A) ?_
    refine Eq.trans (bnd C9) ?_
    rw [if_pos (by rfl)]
    rfl
  | succ d ih =>
    intro p f h1 h3 h4
    obtain ⟨f, rfl⟩ : ∃ m, f = m + 1 := ⟨f - 1, by omega⟩
    have g2 : up2 I m 8 (ic p) m 7 = ic n := by rw [up_k (by omega)]; exact h2
    have gT : TP (up2 I m 8 (ic p)) (m + 1) b := fun k hk => by rw [up_a (by omega)]; exact hT k hk
    have A := by9_in (L := up2 L m 14 (lo (pk b f0 (mn4 8 (p - f0))))) hL gT g2 hn (p := p) (by omega)
    have hb := (hT p (by omega)).1
    have C9 := p_sml9 hb (hp S (up2 I m 8 (ic p)) (up2 L m 14 (lo (pk b f0 (mn4 8 (p - f0))))))
    rw [p_X9_goesOn_84.eq_2]
    simp only [↓reduceIte, ↓if_bi0, hp_tg, hp_rR, hp_rI, hp_wI, eq_self, bi_t, bi_f, i10, if_true, if_false, Bool.false_eq_true, hL.t]
    rw [up_s]
    cases c : sml (b p)
    · rw [rl_f (q := fun k => sml (b k)) (by rw [c]; decide)]
      rw [c] at C9
      refine Eq.trans (bnd A) ?_
      refine Eq.trans (bnd C9) ?_
      rw [if_pos (by rfl)]
      rfl
    · rw [rl_t (q := fun k => sml (b k)) c]
      rw [c] at C9
      have hd := of_decide_eq_true c
      have B9 := ih (p + 1) f (by omega) (by omega) (by omega)
      rw [← up_up I m 8 (ic p) (ic (p + 1)), show p + 1 - f0 = p - f0 + 1 by omega] at B9
      refine Eq.trans (bnd A) ?_
      refine Eq.trans (bnd C9) ?_
      rw [if_neg (by show ¬ bi true = 0; decide)]
      by_cases e : p - f0 < 8
      · have m8 : mn4 8 (p - f0) = p - f0 := if_pos e
        have m9 : mn4 8 (p - f0 + 1) = p - f0 + 1 := by unfold mn4; by_cases q : p - f0 + 1 < 8; { rw [if_pos q] }; { rw [if_neg q]; omega }
        have ev : (32 : Int32).toInt64 * lo (pk b f0 (p - f0)) + ((ic (b p) - 97) + 1).toInt64 = lo (pk b f0 (p - f0 + 1)) := by
          rw [show (97 : Int32) = ic 97 from rfl, ic_sub (by omega), ic_add1, ic_lo (by omega), show (32 : Int32).toInt64 = lo 32 from rfl, lo_mul, lo_add]
          show _ = lo (32 * pk b f0 (p - f0) + (b (f0 + (p - f0)) - 96))
          rw [show f0 + (p - f0) = p by omega, show b p - 97 + 1 = b p - 96 by omega]
        rw [if_pos (by show ic (p - f0) < ic 8; rw [ic_lt (by omega) (by omega)]; exact e)]
        rw [m9, ← ev, ← up_up L m 14 (lo (pk b f0 (mn4 8 (p - f0))))] at B9
        rw [m8] at A B9 ⊢
        simp only [↓reduceIte, ↓if_bi0, hp_tg, hp_rR, hp_rI, hp_wI, eq_self, bi_t, bi_f, i10, if_true, if_false, Bool.false_eq_true, hL.t]
        rw [up_s]
        refine Eq.trans (bnd A) ?_
        simp only [↓reduceIte, ↓if_bi0, hp_tg, hp_rR, hp_rI, hp_wI, eq_self, bi_t, bi_f, i10, if_true, if_false, Bool.false_eq_true, hL.t, p_X9_goesOn_131, hp_rL, hp_wL, up_s]
        rw [ic_add1, ic_add1]
        exact B9
      · have m8 : mn4 8 (p - f0) = 8 := if_neg e
        have m9 : mn4 8 (p - f0 + 1) = 8 := if_neg (by omega)
        rw [m9] at B9
        rw [m8] at *
        rw [if_neg (by show ¬ ic (p - f0) < ic 8; rw [ic_lt (by omega) (by omega)]; exact e)]
        simp only [↓reduceIte, ↓if_bi0, hp_tg, hp_rR, hp_rI, hp_wI, eq_self, bi_t, bi_f, i10, if_true, if_false, Bool.false_eq_true, hL.t, p_X9_goesOn_131, up_s]
        rw [ic_add1, ic_add1]
        exact B9
theorem x_dg (hL : ML S m) (hT : TP I (m + 1) b) (h2 : I m 7 = ic n) (hn : n ≤ 900) {f0 : Nat} : ∀ (d p f : Nat), p + d = n → d < f → f0 ≤ p → p_X9_goesOn_173 f m (ic (p - f0)) (hp S (up2 (up2 I m 11 (ic (vnm b f0 (mn4 4 (p - f0))))) m 8 (ic p)) L) = p_X9_goesOn_231 m (ic (rl (fun k => dgt (b k)) d p - f0)) (hp S (up2 (up2 I m 11 (ic (vnm b f0 (mn4 4 (rl (fun k => dgt (b k)) d p - f0))))) m 8 (ic (rl (fun k => dgt (b k)) d p))) L) := by
  intro d
  induction d with
  | zero =>
    intro p f h1 h3 h4
    obtain ⟨f, rfl⟩ : ∃ m, f = m + 1 := ⟨f - 1, by omega⟩
    obtain rfl : p = n := by omega
    have g2 : up2 (up2 I m 11 (ic (vnm b f0 (mn4 4 (p - f0))))) m 8 (ic p) m 7 = ic p := by rw [up_k (by omega), up_k (by omega)]; exact h2
    have A := by9_out (L := L) hL g2 hn (p := p) (by omega) (by omega)
    have C9 := p_dgt9m (hp S (up2 (up2 I m 11 (ic (vnm b f0 (mn4 4 (p - f0))))) m 8 (ic p)) L)
    rw [p_X9_goesOn_173.eq_2]
    simp only [↓reduceIte, ↓if_bi0, hp_tg, hp_rR, hp_rI, hp_wI, eq_self, bi_t, bi_f, i10, if_true, if_false, Bool.false_eq_true, hL.t]
    rw [up_s]
    refine Eq.trans (bnd A) ?_
    refine Eq.trans (bnd C9) ?_
    rw [if_pos (by rfl)]
    rfl
  | succ d ih =>
    intro p f h1 h3 h4
    obtain ⟨f, rfl⟩ : ∃ m, f = m + 1 := ⟨f - 1, by omega⟩
    have g2 : up2 (up2 I m 11 (ic (vnm b f0 (mn4 4 (p - f0))))) m 8 (ic p) m 7 = ic n := by rw [up_k (by omega), up_k (by omega)]; exact h2
    have g6 : up2 (up2 I m 11 (ic (vnm b f0 (mn4 4 (p - f0))))) m 8 (ic p) m 11 = ic (vnm b f0 (mn4 4 (p - f0))) := by rw [up_k (by omega), up_s]
    have gT : TP (up2 (up2 I m 11 (ic (vnm b f0 (mn4 4 (p - f0))))) m 8 (ic p)) (m + 1) b := fun k hk => by rw [up_a (by omega), up_a (by omega)]; exact hT k hk
    have A := by9_in (L := L) hL gT g2 hn (p := p) (by omega)
    have hb := (hT p (by omega)).1
    have C9 := p_dgt9 hb (hp S (up2 (up2 I m 11 (ic (vnm b f0 (mn4 4 (p - f0))))) m 8 (ic p)) L)
    rw [p_X9_goesOn_173.eq_2]
    simp only [↓reduceIte, ↓if_bi0, hp_tg, hp_rR, hp_rI, hp_wI, eq_self, bi_t, bi_f, i10, if_true, if_false, Bool.false_eq_true, hL.t]
    rw [up_s]
    cases c : dgt (b p)
    · rw [rl_f (q := fun k => dgt (b k)) (by rw [c]; decide)]
      rw [c] at C9
      refine Eq.trans (bnd A) ?_
      refine Eq.trans (bnd C9) ?_
      rw [if_pos (by rfl)]
      rfl
    · rw [rl_t (q := fun k => dgt (b k)) c]
      rw [c] at C9
      have hd := of_decide_eq_true c
      have B9 := ih (p + 1) f (by omega) (by omega) (by omega)
      rw [show p + 1 - f0 = p - f0 + 1 by omega] at B9
      refine Eq.trans (bnd A) ?_
      refine Eq.trans (bnd C9) ?_
      rw [if_neg (by show ¬ bi true = 0; decide)]
      by_cases e : p - f0 < 4
      · have m8 : mn4 4 (p - f0) = p - f0 := if_pos e
        have m9 : mn4 4 (p - f0 + 1) = p - f0 + 1 := by unfold mn4; by_cases q : p - f0 + 1 < 4; { rw [if_pos q] }; { rw [if_neg q]; omega }
        rw [m9] at B9
        rw [m8] at A g6 ⊢
        have ev : ic 10 * ic (vnm b f0 (p - f0)) + ic (b p) - ic 48 = ic (vnm b f0 (p - f0 + 1)) := by
          rw [ic_mul, ic_add, ic_sub (by omega)]
          show _ = ic (vnm b f0 (p - f0) * 10 + b (f0 + (p - f0)) - 48)
          rw [show f0 + (p - f0) = p by omega, Nat.mul_comm]
        have ee : up2 (up2 (up2 (up2 I m 11 (ic (vnm b f0 (p - f0)))) m 8 (ic p)) m 11 (ic (vnm b f0 (p - f0 + 1)))) m 8 (ic (p + 1)) = up2 (up2 I m 11 (ic (vnm b f0 (p - f0 + 1)))) m 8 (ic (p + 1)) := by
          rw [up_cm (up2 I m 11 (ic (vnm b f0 (p - f0)))) _ _ (by omega), up_up, up_up]
        have g5 : up2 (up2 (up2 I m 11 (ic (vnm b f0 (p - f0)))) m 8 (ic p)) m 11 (ic (vnm b f0 (p - f0 + 1))) m 8 = ic p := by rw [up_k (by omega), up_s]
        rw [← ee] at B9
        rw [if_pos (by show ic (p - f0) < ic 4; rw [ic_lt (by omega) (by omega)]; exact e)]
        simp only [↓reduceIte, ↓if_bi0, hp_tg, hp_rR, hp_rI, hp_wI, eq_self, bi_t, bi_f, i10, if_true, if_false, Bool.false_eq_true, hL.t, g6]
        rw [up_s]
        refine Eq.trans (bnd A) ?_
        simp only [↓reduceIte, ↓if_bi0, hp_tg, hp_rR, hp_rI, hp_wI, eq_self, bi_t, bi_f, i10, if_true, if_false, Bool.false_eq_true, hL.t, p_X9_goesOn_215]
        rw [show (10 : Int32) = ic 10 from rfl, show (48 : Int32) = ic 48 from rfl, ev, g5, ic_add1, ic_add1]
        exact B9
      · have m8 : mn4 4 (p - f0) = 4 := if_neg e
        have m9 : mn4 4 (p - f0 + 1) = 4 := if_neg (by omega)
        rw [m9] at B9
        rw [m8] at *
        rw [← up_up (up2 I m 11 (ic (vnm b f0 4))) m 8 (ic p) (ic (p + 1))] at B9
        rw [if_neg (by show ¬ ic (p - f0) < ic 4; rw [ic_lt (by omega) (by omega)]; exact e)]
        simp only [↓reduceIte, ↓if_bi0, hp_tg, hp_rR, hp_rI, hp_wI, eq_self, bi_t, bi_f, i10, if_true, if_false, Bool.false_eq_true, hL.t, p_X9_goesOn_215, up_s]
        rw [ic_add1, ic_add1]
        exact B9
end GOES
