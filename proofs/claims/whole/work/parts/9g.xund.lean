/-! ===== undo, image, back: the reference ===== -/
section UNX
variable {S : SH} {I J J' : II} {L L' : LL} {m a c e pl : Nat} {W : WD} {s : St}
theorem m244 (n k : Nat) : (244 : Int32) * ic n + ic k = ic (244 * n + k) := by rw [lt_244, ic_mul, ic_add]
theorem x_un38 (hL : ML S m) {n : Nat} (hn : n < 16) (h19 : I m 19 = ic n) : ∃ K, p_X9_undo_38 FU m 0 (hp S I L) = p_X9_undo_72 m (hp S K L) ∧ (∀ j, j < 244 → K (m + 2) j = I (m + 4) (244 * n + j)) ∧ ∀ b, b ≠ m + 2 → K b = I b := by
  have := lp_to (fun f k (c : II) => p_X9_undo_38 f m (ic k) (hp S c L)) 244 (fun k c => (∀ j, j < k → c (m + 2) j = I (m + 4) (244 * n + j)) ∧ ∀ b, b ≠ m + 2 → c b = I b) (fun c => p_X9_undo_72 m (hp S c L)) (fun f k c hk hc => ?_) (fun f c hc => ?_) 244 0 FU I rfl (fu_lt (by decide)) ⟨fun j hj => by omega, fun _ _ => rfl⟩
  · obtain ⟨K, e, h⟩ := this
    exact ⟨K, e, h⟩
  · refine ⟨up2 c (m + 2) k (I (m + 4) (244 * n + k)), ?_, fun j hj => ?_, fun b hb => by funext j; rw [up_a hb, hc.2 b hb]⟩
    · have e19 : c m 19 = ic n := by rw [hc.2 m (by omega)]; exact h19
      have e4 : c (m + 4) (244 * n + k) = I (m + 4) (244 * n + k) := by rw [hc.2 (m + 4) (by omega)]
      conv => lhs; unfold p_X9_undo_38
      simp (maxSteps := 1000000) (disch := omega) only [↓reduceIte, ↓if_bi0, ↓if_bi1, hp_tg, hp_rI, hp_rR, hp_rL, hp_wI, hp_wL, Option.bind_some, if_11, if_01, bi_and1, i10, i01, bi_t, bi_f, ic_add, mr_4, ml_4, mr_8, ml_8, mr_10, ml_10, ic_add1, ic_sub1, ic_clamp, ic_div, ic_irm, ic_lt0, ic_0lt, ic_eq0, ic_lt, ic_inj, and15, and7, and31, and63, shl1, shr_ok, neg_1, neg_2, neg_3, neg_4, kc_lt0, kc_ic, kc_m2, kc_1, kc_0, i0_add, add_i0, or_i0, z_8, z_4, z_64, z_256, ic_m2, ec_m1, ic_m1, m1_lt0, m2_lt0, m3_lt0, m4_lt0, up_s, if_true, if_false, ne_eq, not_true_eq_false, not_false_eq_true, Bool.false_eq_true, eq_self, or_self, or_false, false_or, and_self, and_true, true_and, ite_self, Nat.reduceEqDiff, Nat.reduceLT, Nat.reduceMod, Nat.reduceMul, Nat.reduceAdd, Nat.reducePow, Nat.reduceDiv, lt_2, lt_3, lt_4, lt_5, lt_6, lt_7, lt_8, lt_10, lt_11, lt_12, lt_15, lt_16, lt_18, lt_20, lt_24, lt_31, lt_32, lt_48, lt_57, lt_59, lt_63, lt_64, lt_74, lt_75, lt_97, lt_122, lt_128, lt_144, lt_145, lt_146, lt_147, lt_155, lt_163, lt_171, lt_179, lt_200, lt_243, lt_244, lt_255, lt_256, lt_732, lt_900, lt_3660, lt_3904, lt_4095, lt_65536, lt_65537, lt_252645135, lt_858993459, lt_1431655765, ↓p_has_b, p_has, ↓p_has9_b, p_has9, ↓p_bit_b, p_bit, ↓p_bit1_b, p_bit1, ↓p_bit0_b, p_bit0, hk, hL.t, hL.p, hL.v, e19, ic_mul, if_inB hL.pt, if_inB hL.vt, e4]
    · rw [up_i]
      by_cases d : j = k
      · rw [if_pos d, d]
      · rw [if_neg d]; exact hc.1 j (by omega)
  · conv => lhs; unfold p_X9_undo_38
    rw [if_neg (show ¬ ic 244 < 244 by decide)]
    rfl
theorem x_bk32 (hL : ML S m) {n : Nat} (hn : n < 3) : ∃ K, p_X9_back_32 FU m (ic n) 0 (hp S I L) = p_X9_back_63 m (hp S K L) ∧ (∀ j, j < 244 → K (m + 2) j = I (m + 5) (244 * n + j)) ∧ ∀ b, b ≠ m + 2 → K b = I b := by
  have kp : tR S m 18 = m + 5 := hL.2.2.2.2.2.1.1
  have kt : tT S (m + 5) = (100, 732) := hL.2.2.2.2.2.1.2
  have := lp_to (fun f k (c : II) => p_X9_back_32 f m (ic n) (ic k) (hp S c L)) 244 (fun k c => (∀ j, j < k → c (m + 2) j = I (m + 5) (244 * n + j)) ∧ ∀ b, b ≠ m + 2 → c b = I b) (fun c => p_X9_back_63 m (hp S c L)) (fun f k c hk hc => ?_) (fun f c hc => ?_) 244 0 FU I rfl (fu_lt (by decide)) ⟨fun j hj => by omega, fun _ _ => rfl⟩
  · obtain ⟨K, e, h⟩ := this
    exact ⟨K, e, h⟩
  · refine ⟨up2 c (m + 2) k (I (m + 5) (244 * n + k)), ?_, fun j hj => ?_, fun b hb => by funext j; rw [up_a hb, hc.2 b hb]⟩
    · have e4 : c (m + 5) (244 * n + k) = I (m + 5) (244 * n + k) := by rw [hc.2 (m + 5) (by omega)]
      conv => lhs; unfold p_X9_back_32
      simp (maxSteps := 1000000) (disch := omega) only [↓reduceIte, ↓if_bi0, ↓if_bi1, hp_tg, hp_rI, hp_rR, hp_rL, hp_wI, hp_wL, Option.bind_some, if_11, if_01, bi_and1, i10, i01, bi_t, bi_f, ic_add, mr_4, ml_4, mr_8, ml_8, mr_10, ml_10, ic_add1, ic_sub1, ic_clamp, ic_div, ic_irm, ic_lt0, ic_0lt, ic_eq0, ic_lt, ic_inj, and15, and7, and31, and63, shl1, shr_ok, neg_1, neg_2, neg_3, neg_4, kc_lt0, kc_ic, kc_m2, kc_1, kc_0, i0_add, add_i0, or_i0, z_8, z_4, z_64, z_256, ic_m2, ec_m1, ic_m1, m1_lt0, m2_lt0, m3_lt0, m4_lt0, up_s, if_true, if_false, ne_eq, not_true_eq_false, not_false_eq_true, Bool.false_eq_true, eq_self, or_self, or_false, false_or, and_self, and_true, true_and, ite_self, Nat.reduceEqDiff, Nat.reduceLT, Nat.reduceMod, Nat.reduceMul, Nat.reduceAdd, Nat.reducePow, Nat.reduceDiv, lt_2, lt_3, lt_4, lt_5, lt_6, lt_7, lt_8, lt_10, lt_11, lt_12, lt_15, lt_16, lt_18, lt_20, lt_24, lt_31, lt_32, lt_48, lt_57, lt_59, lt_63, lt_64, lt_74, lt_75, lt_97, lt_122, lt_128, lt_144, lt_145, lt_146, lt_147, lt_155, lt_163, lt_171, lt_179, lt_200, lt_243, lt_244, lt_255, lt_256, lt_732, lt_900, lt_3660, lt_3904, lt_4095, lt_65536, lt_65537, lt_252645135, lt_858993459, lt_1431655765, ↓p_has_b, p_has, ↓p_has9_b, p_has9, ↓p_bit_b, p_bit, ↓p_bit1_b, p_bit1, ↓p_bit0_b, p_bit0, hk, hL.t, kp, hL.v, ic_mul, if_inB kt, if_inB hL.vt, e4]
    · rw [up_i]
      by_cases d : j = k
      · rw [if_pos d, d]
      · rw [if_neg d]; exact hc.1 j (by omega)
  · conv => lhs; unfold p_X9_back_32
    rw [if_neg (show ¬ ic 244 < 244 by decide)]
    rfl
theorem x_im34 (hL : ML S m) {n : Nat} (hn : n < 3) (h20 : I m 20 = ic n) : ∃ K, p_X9_image_34 FU m 0 (hp S I L) = p_X9_image_68 m (hp S K L) ∧ (∀ j, j < 244 → K (m + 5) (244 * n + j) = I (m + 2) j) ∧ (∀ j, j < 244 * n → K (m + 5) j = I (m + 5) j) ∧ ∀ b, b ≠ m + 5 → K b = I b := by
  have kp : tR S m 18 = m + 5 := hL.2.2.2.2.2.1.1
  have kt : tT S (m + 5) = (100, 732) := hL.2.2.2.2.2.1.2
  have := lp_to (fun f k (c : II) => p_X9_image_34 f m (ic k) (hp S c L)) 244 (fun k c => (∀ j, j < k → c (m + 5) (244 * n + j) = I (m + 2) j) ∧ (∀ j, j < 244 * n → c (m + 5) j = I (m + 5) j) ∧ ∀ b, b ≠ m + 5 → c b = I b) (fun c => p_X9_image_68 m (hp S c L)) (fun f k c hk hc => ?_) (fun f c hc => ?_) 244 0 FU I rfl (fu_lt (by decide)) ⟨fun j hj => by omega, fun _ _ => rfl, fun _ _ => rfl⟩
  · obtain ⟨K, e, h⟩ := this
    exact ⟨K, e, h⟩
  · refine ⟨up2 c (m + 5) (244 * n + k) (I (m + 2) k), ?_, fun j hj => ?_, fun j hj => ?_, fun b hb => by funext j; rw [up_a hb, hc.2.2 b hb]⟩
    · have e4 : c (m + 2) k = I (m + 2) k := by rw [hc.2.2 (m + 2) (by omega)]
      have e20 : c m 20 = ic n := by rw [hc.2.2 m (by omega)]; exact h20
      conv => lhs; unfold p_X9_image_34
      simp (maxSteps := 1000000) (disch := omega) only [↓reduceIte, ↓if_bi0, ↓if_bi1, hp_tg, hp_rI, hp_rR, hp_rL, hp_wI, hp_wL, Option.bind_some, if_11, if_01, bi_and1, i10, i01, bi_t, bi_f, ic_add, mr_4, ml_4, mr_8, ml_8, mr_10, ml_10, ic_add1, ic_sub1, ic_clamp, ic_div, ic_irm, ic_lt0, ic_0lt, ic_eq0, ic_lt, ic_inj, and15, and7, and31, and63, shl1, shr_ok, neg_1, neg_2, neg_3, neg_4, kc_lt0, kc_ic, kc_m2, kc_1, kc_0, i0_add, add_i0, or_i0, z_8, z_4, z_64, z_256, ic_m2, ec_m1, ic_m1, m1_lt0, m2_lt0, m3_lt0, m4_lt0, up_s, if_true, if_false, ne_eq, not_true_eq_false, not_false_eq_true, Bool.false_eq_true, eq_self, or_self, or_false, false_or, and_self, and_true, true_and, ite_self, Nat.reduceEqDiff, Nat.reduceLT, Nat.reduceMod, Nat.reduceMul, Nat.reduceAdd, Nat.reducePow, Nat.reduceDiv, lt_2, lt_3, lt_4, lt_5, lt_6, lt_7, lt_8, lt_10, lt_11, lt_12, lt_15, lt_16, lt_18, lt_20, lt_24, lt_31, lt_32, lt_48, lt_57, lt_59, lt_63, lt_64, lt_74, lt_75, lt_97, lt_122, lt_128, lt_144, lt_145, lt_146, lt_147, lt_155, lt_163, lt_171, lt_179, lt_200, lt_243, lt_244, lt_255, lt_256, lt_732, lt_900, lt_3660, lt_3904, lt_4095, lt_65536, lt_65537, lt_252645135, lt_858993459, lt_1431655765, ↓p_has_b, p_has, ↓p_has9_b, p_has9, ↓p_bit_b, p_bit, ↓p_bit1_b, p_bit1, ↓p_bit0_b, p_bit0, hk, hL.t, kp, hL.v, e20, ic_mul, if_inB kt, if_inB hL.vt, e4]
    · rw [up_i]
      by_cases d : j = k
      · rw [if_pos (by omega), d]
      · rw [if_neg (by omega)]; exact hc.1 j (by omega)
    · rw [up_i, if_neg (by omega)]; exact hc.2.1 j hj
  · conv => lhs; unfold p_X9_image_34
    rw [if_neg (show ¬ ic 244 < 244 by decide)]
    rfl
theorem xc_undo (H : XH S I m a W c) : XC S I m a (p_X9_undo m (hp S I L)) (unD W) := by
  have b1 : (1 : Int32) &&& 1 = 1 := by decide
  have b0 : (0 : Int32) &&& 1 = 0 := by decide
  have H9 := H
  have a0 := H.a0
  obtain ⟨hL, hm, hM, hX, hV⟩ := H9
  have hK := hV.2.1
  have c19 : up2 I m 0 0 m 19 = ic (vK W) := by rw [up_k (by omega)]; exact hX.2.2.2.2.1
  unfold unD
  cases hr : vR W
  · have lm := hM.2 hr
    rw [if_pos (hV.2.2.2.2.2.2.2 hr).1]
    refine xc_to (L' := L) (e := 6) H (Xq.z I m) (by decide) ?_
    simp (maxSteps := 1000000) (disch := omega) only [↓reduceIte, ↓if_bi0, ↓if_bi1, hp_tg, hp_rI, hp_rR, hp_rL, hp_wI, hp_wL, Option.bind_some, if_11, if_01, bi_and1, i10, i01, bi_t, bi_f, ic_add, mr_4, ml_4, mr_8, ml_8, mr_10, ml_10, ic_add1, ic_sub1, ic_clamp, ic_div, ic_irm, ic_lt0, ic_0lt, ic_eq0, ic_lt, ic_inj, and15, and7, and31, and63, shl1, shr_ok, neg_1, neg_2, neg_3, neg_4, kc_lt0, kc_ic, kc_m2, kc_1, kc_0, i0_add, add_i0, or_i0, z_8, z_4, z_64, z_256, ic_m2, ec_m1, ic_m1, m1_lt0, m2_lt0, m3_lt0, m4_lt0, up_s, if_true, if_false, ne_eq, not_true_eq_false, not_false_eq_true, Bool.false_eq_true, eq_self, or_self, or_false, false_or, and_self, and_true, true_and, ite_self, Nat.reduceEqDiff, Nat.reduceLT, Nat.reduceMod, Nat.reduceMul, Nat.reduceAdd, Nat.reducePow, Nat.reduceDiv, lt_2, lt_3, lt_4, lt_5, lt_6, lt_7, lt_8, lt_10, lt_11, lt_12, lt_15, lt_16, lt_18, lt_20, lt_24, lt_31, lt_32, lt_48, lt_57, lt_59, lt_63, lt_64, lt_74, lt_75, lt_97, lt_122, lt_128, lt_144, lt_145, lt_146, lt_147, lt_155, lt_163, lt_171, lt_179, lt_200, lt_243, lt_244, lt_255, lt_256, lt_732, lt_900, lt_3660, lt_3904, lt_4095, lt_65536, lt_65537, lt_252645135, lt_858993459, lt_1431655765, ↓p_has_b, p_has, ↓p_has9_b, p_has9, ↓p_bit_b, p_bit, ↓p_bit1_b, p_bit1, ↓p_bit0_b, p_bit0, p_X9_undo, p_X9_undo_19, hL.t, lm, ↓x_denied_b hL, x_denied hL, b0]
  · have lm := (hM.y hr).1
    by_cases d : vK W = 0
    · rw [if_pos d]
      rw [d, ic_zero] at c19
      refine xc_to (L' := L) (e := 6) H (Xq.z I m) (by decide) ?_
      simp (maxSteps := 1000000) (disch := omega) only [↓reduceIte, ↓if_bi0, ↓if_bi1, hp_tg, hp_rI, hp_rR, hp_rL, hp_wI, hp_wL, Option.bind_some, if_11, if_01, bi_and1, i10, i01, bi_t, bi_f, ic_add, mr_4, ml_4, mr_8, ml_8, mr_10, ml_10, ic_add1, ic_sub1, ic_clamp, ic_div, ic_irm, ic_lt0, ic_0lt, ic_eq0, ic_lt, ic_inj, and15, and7, and31, and63, shl1, shr_ok, neg_1, neg_2, neg_3, neg_4, kc_lt0, kc_ic, kc_m2, kc_1, kc_0, i0_add, add_i0, or_i0, z_8, z_4, z_64, z_256, ic_m2, ec_m1, ic_m1, m1_lt0, m2_lt0, m3_lt0, m4_lt0, up_s, if_true, if_false, ne_eq, not_true_eq_false, not_false_eq_true, Bool.false_eq_true, eq_self, or_self, or_false, false_or, and_self, and_true, true_and, ite_self, Nat.reduceEqDiff, Nat.reduceLT, Nat.reduceMod, Nat.reduceMul, Nat.reduceAdd, Nat.reducePow, Nat.reduceDiv, lt_2, lt_3, lt_4, lt_5, lt_6, lt_7, lt_8, lt_10, lt_11, lt_12, lt_15, lt_16, lt_18, lt_20, lt_24, lt_31, lt_32, lt_48, lt_57, lt_59, lt_63, lt_64, lt_74, lt_75, lt_97, lt_122, lt_128, lt_144, lt_145, lt_146, lt_147, lt_155, lt_163, lt_171, lt_179, lt_200, lt_243, lt_244, lt_255, lt_256, lt_732, lt_900, lt_3660, lt_3904, lt_4095, lt_65536, lt_65537, lt_252645135, lt_858993459, lt_1431655765, ↓p_has_b, p_has, ↓p_has9_b, p_has9, ↓p_bit_b, p_bit, ↓p_bit1_b, p_bit1, ↓p_bit0_b, p_bit0, p_X9_undo, p_X9_undo_19, hL.t, lm, a0, c19, ↓x_denied_b hL, x_denied hL, b0]
    · rw [if_neg d]
      obtain ⟨x1, x6, xt, x12, d19, d20, d21, d22, d23, d24, d25, xp, xk, xr⟩ := hX
      obtain ⟨r1, r2⟩ := xr hr
      have f19 : up2 (up2 I m 0 0) m 19 (ic (vK W - 1)) m 19 = ic (vK W - 1) := up_s _ _ _ _
      obtain ⟨K, e1, k1, k2⟩ := x_un38 (I := up2 (up2 I m 0 0) m 19 (ic (vK W - 1))) (L := L) hL (n := vK W - 1) (by omega) f19
      have ey : ∀ b, b ≠ m → b ≠ m + 2 → K b = I b := fun b q1 q2 => by rw [k2 b q2]; exact funext fun j => by rw [up_a q1, up_a q1]
      have em : ∀ j, j ≠ 0 → j ≠ 19 → K m j = I m j := fun j q1 q2 => by rw [k2 m (by omega), up_k q2, up_k q1]
      have eu : ∀ j, 2 < j → j ≠ 19 → up2 (up2 K m 1 0) m 2 m1 m j = I m j := fun j q1 q2 => by rw [up_k (by omega), up_k (by omega), em j (by omega) q2]
      have eb : ∀ b, b ≠ m → up2 (up2 K m 1 0) m 2 m1 b = K b := fun b q => funext fun j => by rw [up_a q, up_a q]
      refine ⟨up2 (up2 K m 1 0) m 2 m1, L, ?_, ⟨⟨by rw [up_k (by omega), up_s]; rfl, up_s _ _ _ _⟩, by rw [eu 6 (by omega) (by omega)]; exact x6, fun k hk => by rw [eb (m + 1) (by omega), ey (m + 1) (by omega) (by omega)]; exact xt k hk, by rw [eu 12 (by omega) (by omega)]; exact x12, by rw [up_k (by omega), up_k (by omega), k2 m (by omega)]; exact f19, by rw [eu 20 (by omega) (by omega)]; exact d20, by rw [eu 21 (by omega) (by omega)]; exact d21, by rw [eu 22 (by omega) (by omega)]; exact d22, by rw [eu 23 (by omega) (by omega)]; exact d23, by rw [eu 24 (by omega) (by omega)]; exact d24, by rw [eu 25 (by omega) (by omega)]; exact d25, ?_, ?_, fun _ => ⟨r1.lc fun y _ _ => by rw [eb y (by omega), ey y (by omega) (by omega)], ?_⟩⟩, fun y hy => by rw [eb y (by omega), ey y (by omega) (by omega)]⟩
      · refine Eq.trans (b := p_X9_undo_72 m (hp S K L)) ?_ ?_
        · refine Eq.trans ?_ e1
          simp (maxSteps := 1000000) (disch := omega) only [↓reduceIte, ↓if_bi0, ↓if_bi1, hp_tg, hp_rI, hp_rR, hp_rL, hp_wI, hp_wL, Option.bind_some, if_11, if_01, bi_and1, i10, i01, bi_t, bi_f, ic_add, mr_4, ml_4, mr_8, ml_8, mr_10, ml_10, ic_add1, ic_sub1, ic_clamp, ic_div, ic_irm, ic_lt0, ic_0lt, ic_eq0, ic_lt, ic_inj, and15, and7, and31, and63, shl1, shr_ok, neg_1, neg_2, neg_3, neg_4, kc_lt0, kc_ic, kc_m2, kc_1, kc_0, i0_add, add_i0, or_i0, z_8, z_4, z_64, z_256, ic_m2, ec_m1, ic_m1, m1_lt0, m2_lt0, m3_lt0, m4_lt0, up_s, if_true, if_false, ne_eq, not_true_eq_false, not_false_eq_true, Bool.false_eq_true, eq_self, or_self, or_false, false_or, and_self, and_true, true_and, ite_self, Nat.reduceEqDiff, Nat.reduceLT, Nat.reduceMod, Nat.reduceMul, Nat.reduceAdd, Nat.reducePow, Nat.reduceDiv, lt_2, lt_3, lt_4, lt_5, lt_6, lt_7, lt_8, lt_10, lt_11, lt_12, lt_15, lt_16, lt_18, lt_20, lt_24, lt_31, lt_32, lt_48, lt_57, lt_59, lt_63, lt_64, lt_74, lt_75, lt_97, lt_122, lt_128, lt_144, lt_145, lt_146, lt_147, lt_155, lt_163, lt_171, lt_179, lt_200, lt_243, lt_244, lt_255, lt_256, lt_732, lt_900, lt_3660, lt_3904, lt_4095, lt_65536, lt_65537, lt_252645135, lt_858993459, lt_1431655765, ↓p_has_b, p_has, ↓p_has9_b, p_has9, ↓p_bit_b, p_bit, ↓p_bit1_b, p_bit1, ↓p_bit0_b, p_bit0, p_X9_undo, hL.t, lm, a0, c19, d]
        · simp (maxSteps := 1000000) (disch := omega) only [↓reduceIte, ↓if_bi0, ↓if_bi1, hp_tg, hp_rI, hp_rR, hp_rL, hp_wI, hp_wL, Option.bind_some, if_11, if_01, bi_and1, i10, i01, bi_t, bi_f, ic_add, mr_4, ml_4, mr_8, ml_8, mr_10, ml_10, ic_add1, ic_sub1, ic_clamp, ic_div, ic_irm, ic_lt0, ic_0lt, ic_eq0, ic_lt, ic_inj, and15, and7, and31, and63, shl1, shr_ok, neg_1, neg_2, neg_3, neg_4, kc_lt0, kc_ic, kc_m2, kc_1, kc_0, i0_add, add_i0, or_i0, z_8, z_4, z_64, z_256, ic_m2, ec_m1, ic_m1, m1_lt0, m2_lt0, m3_lt0, m4_lt0, up_s, if_true, if_false, ne_eq, not_true_eq_false, not_false_eq_true, Bool.false_eq_true, eq_self, or_self, or_false, false_or, and_self, and_true, true_and, ite_self, Nat.reduceEqDiff, Nat.reduceLT, Nat.reduceMod, Nat.reduceMul, Nat.reduceAdd, Nat.reducePow, Nat.reduceDiv, lt_2, lt_3, lt_4, lt_5, lt_6, lt_7, lt_8, lt_10, lt_11, lt_12, lt_15, lt_16, lt_18, lt_20, lt_24, lt_31, lt_32, lt_48, lt_57, lt_59, lt_63, lt_64, lt_74, lt_75, lt_97, lt_122, lt_128, lt_144, lt_145, lt_146, lt_147, lt_155, lt_163, lt_171, lt_179, lt_200, lt_243, lt_244, lt_255, lt_256, lt_732, lt_900, lt_3660, lt_3904, lt_4095, lt_65536, lt_65537, lt_252645135, lt_858993459, lt_1431655765, ↓p_has_b, p_has, ↓p_has9_b, p_has9, ↓p_bit_b, p_bit, ↓p_bit1_b, p_bit1, ↓p_bit0_b, p_bit0, p_X9_undo_72, hL.t, ↓x_granted_b hL, x_granted hL, b1]
      · show PW _ m (vK W - 1) (fun j => vU W (j + 1))
        unfold PW
        rw [eb (m + 4) (by omega), ey (m + 4) (by omega) (by omega)]
        intro j hj
        have := xp (j + 1) (by omega)
        rw [show vK W - 1 - (j + 1) = vK W - 1 - 1 - j by omega] at this
        exact this
      · rw [eb (m + 5) (by omega), ey (m + 5) (by omega) (by omega)]; exact xk
      · rw [eb (m + 2) (by omega)]
        have := xp 0 (by omega)
        refine RW.cong this fun j hj => ?_
        rw [k1 j hj, up_a (by omega), up_a (by omega)]
        rfl
theorem xc_back (H : XH S I m a W c) (v : Int32) : XC S I m a (p_X9_back m v (hp S I L)) (bkD W v) := by
  have b1 : (1 : Int32) &&& 1 = 1 := by decide
  have b0 : (0 : Int32) &&& 1 = 0 := by decide
  have H9 := H
  have a0 := H.a0
  obtain ⟨hL, hm, hM, hX, hV⟩ := H9
  have hI := hV.2.2.1
  have c20 : up2 I m 0 0 m 20 = ic (vI W) := by rw [up_k (by omega)]; exact hX.2.2.2.2.2.1
  unfold bkD
  cases hr : vR W
  · have lm := hM.2 hr
    rw [if_neg (show ¬ ok true (vI W) v = true by
      rw [(hV.2.2.2.2.2.2.2 hr).2]
      intro q
      obtain ⟨-, k, hk, -⟩ := ok_t (by omega) q
      omega)]
    refine xc_to (L' := L) (e := 1) H (Xq.z I m) (by decide) ?_
    simp (maxSteps := 1000000) (disch := omega) only [↓reduceIte, ↓if_bi0, ↓if_bi1, hp_tg, hp_rI, hp_rR, hp_rL, hp_wI, hp_wL, Option.bind_some, if_11, if_01, bi_and1, i10, i01, bi_t, bi_f, ic_add, mr_4, ml_4, mr_8, ml_8, mr_10, ml_10, ic_add1, ic_sub1, ic_clamp, ic_div, ic_irm, ic_lt0, ic_0lt, ic_eq0, ic_lt, ic_inj, and15, and7, and31, and63, shl1, shr_ok, neg_1, neg_2, neg_3, neg_4, kc_lt0, kc_ic, kc_m2, kc_1, kc_0, i0_add, add_i0, or_i0, z_8, z_4, z_64, z_256, ic_m2, ec_m1, ic_m1, m1_lt0, m2_lt0, m3_lt0, m4_lt0, up_s, if_true, if_false, ne_eq, not_true_eq_false, not_false_eq_true, Bool.false_eq_true, eq_self, or_self, or_false, false_or, and_self, and_true, true_and, ite_self, Nat.reduceEqDiff, Nat.reduceLT, Nat.reduceMod, Nat.reduceMul, Nat.reduceAdd, Nat.reducePow, Nat.reduceDiv, lt_2, lt_3, lt_4, lt_5, lt_6, lt_7, lt_8, lt_10, lt_11, lt_12, lt_15, lt_16, lt_18, lt_20, lt_24, lt_31, lt_32, lt_48, lt_57, lt_59, lt_63, lt_64, lt_74, lt_75, lt_97, lt_122, lt_128, lt_144, lt_145, lt_146, lt_147, lt_155, lt_163, lt_171, lt_179, lt_200, lt_243, lt_244, lt_255, lt_256, lt_732, lt_900, lt_3660, lt_3904, lt_4095, lt_65536, lt_65537, lt_252645135, lt_858993459, lt_1431655765, ↓p_has_b, p_has, ↓p_has9_b, p_has9, ↓p_bit_b, p_bit, ↓p_bit1_b, p_bit1, ↓p_bit0_b, p_bit0, p_X9_back, p_X9_back_24, hL.t, lm, ↓x_denied_b hL, x_denied hL, b0]
    rfl
  · have lm := (hM.y hr).1
    rcases i_cases v with g | ⟨k, hk, rfl⟩
    · rw [ok_neg g, if_neg (by decide)]
      refine xc_to (L' := L) (e := 1) H (Xq.z I m) (by decide) ?_
      simp (maxSteps := 1000000) (disch := omega) only [↓reduceIte, ↓if_bi0, ↓if_bi1, hp_tg, hp_rI, hp_rR, hp_rL, hp_wI, hp_wL, Option.bind_some, if_11, if_01, bi_and1, i10, i01, bi_t, bi_f, ic_add, mr_4, ml_4, mr_8, ml_8, mr_10, ml_10, ic_add1, ic_sub1, ic_clamp, ic_div, ic_irm, ic_lt0, ic_0lt, ic_eq0, ic_lt, ic_inj, and15, and7, and31, and63, shl1, shr_ok, neg_1, neg_2, neg_3, neg_4, kc_lt0, kc_ic, kc_m2, kc_1, kc_0, i0_add, add_i0, or_i0, z_8, z_4, z_64, z_256, ic_m2, ec_m1, ic_m1, m1_lt0, m2_lt0, m3_lt0, m4_lt0, up_s, if_true, if_false, ne_eq, not_true_eq_false, not_false_eq_true, Bool.false_eq_true, eq_self, or_self, or_false, false_or, and_self, and_true, true_and, ite_self, Nat.reduceEqDiff, Nat.reduceLT, Nat.reduceMod, Nat.reduceMul, Nat.reduceAdd, Nat.reducePow, Nat.reduceDiv, lt_2, lt_3, lt_4, lt_5, lt_6, lt_7, lt_8, lt_10, lt_11, lt_12, lt_15, lt_16, lt_18, lt_20, lt_24, lt_31, lt_32, lt_48, lt_57, lt_59, lt_63, lt_64, lt_74, lt_75, lt_97, lt_122, lt_128, lt_144, lt_145, lt_146, lt_147, lt_155, lt_163, lt_171, lt_179, lt_200, lt_243, lt_244, lt_255, lt_256, lt_732, lt_900, lt_3660, lt_3904, lt_4095, lt_65536, lt_65537, lt_252645135, lt_858993459, lt_1431655765, ↓p_has_b, p_has, ↓p_has9_b, p_has9, ↓p_bit_b, p_bit, ↓p_bit1_b, p_bit1, ↓p_bit0_b, p_bit0, p_X9_back, p_X9_back_24, hL.t, lm, a0, g, ↓x_denied_b hL, x_denied hL, b0]
      rfl
    · rw [ok_ic (by omega) hk, ic_clamp hk]
      by_cases d : k < vI W
      · rw [if_pos (decide_eq_true d)]
        obtain ⟨x1, x6, xt, x12, d19, d20, d21, d22, d23, d24, d25, xp, xk, xr⟩ := hX
        obtain ⟨r1, r2⟩ := xr hr
        obtain ⟨K, e1, k1, k2⟩ := x_bk32 (I := up2 I m 0 0) (L := L) hL (n := k) (by omega)
        have ey : ∀ b, b ≠ m → b ≠ m + 2 → K b = I b := fun b q1 q2 => by rw [k2 b q2]; exact funext fun j => by rw [up_a q1]
        have em : ∀ j, j ≠ 0 → K m j = I m j := fun j q1 => by rw [k2 m (by omega), up_k q1]
        have eu : ∀ j, 2 < j → j ≠ 19 → up2 (up2 (up2 K m 19 0) m 1 0) m 2 m1 m j = I m j := fun j q1 q2 => by rw [up_k (by omega), up_k (by omega), up_k q2, em j (by omega)]
        have eb : ∀ b, b ≠ m → up2 (up2 (up2 K m 19 0) m 1 0) m 2 m1 b = K b := fun b q => funext fun j => by rw [up_a q, up_a q, up_a q]
        refine ⟨up2 (up2 (up2 K m 19 0) m 1 0) m 2 m1, L, ?_, ⟨⟨by rw [up_k (by omega), up_s]; rfl, up_s _ _ _ _⟩, by rw [eu 6 (by omega) (by omega)]; exact x6, fun k hk => by rw [eb (m + 1) (by omega), ey (m + 1) (by omega) (by omega)]; exact xt k hk, by rw [eu 12 (by omega) (by omega)]; exact x12, by rw [up_k (by omega), up_k (by omega), up_s]; rfl, by rw [eu 20 (by omega) (by omega)]; exact d20, by rw [eu 21 (by omega) (by omega)]; exact d21, by rw [eu 22 (by omega) (by omega)]; exact d22, by rw [eu 23 (by omega) (by omega)]; exact d23, by rw [eu 24 (by omega) (by omega)]; exact d24, by rw [eu 25 (by omega) (by omega)]; exact d25, fun j hj => by have : j < 0 := hj; omega, ?_, fun _ => ⟨r1.lc fun y _ _ => by rw [eb y (by omega), ey y (by omega) (by omega)], ?_⟩⟩, fun y hy => by rw [eb y (by omega), ey y (by omega) (by omega)]⟩
        · refine Eq.trans (b := p_X9_back_63 m (hp S K L)) ?_ ?_
          · refine Eq.trans ?_ e1
            simp (maxSteps := 1000000) (disch := omega) only [↓reduceIte, ↓if_bi0, ↓if_bi1, hp_tg, hp_rI, hp_rR, hp_rL, hp_wI, hp_wL, Option.bind_some, if_11, if_01, bi_and1, i10, i01, bi_t, bi_f, ic_add, mr_4, ml_4, mr_8, ml_8, mr_10, ml_10, ic_add1, ic_sub1, ic_clamp, ic_div, ic_irm, ic_lt0, ic_0lt, ic_eq0, ic_lt, ic_inj, and15, and7, and31, and63, shl1, shr_ok, neg_1, neg_2, neg_3, neg_4, kc_lt0, kc_ic, kc_m2, kc_1, kc_0, i0_add, add_i0, or_i0, z_8, z_4, z_64, z_256, ic_m2, ec_m1, ic_m1, m1_lt0, m2_lt0, m3_lt0, m4_lt0, up_s, if_true, if_false, ne_eq, not_true_eq_false, not_false_eq_true, Bool.false_eq_true, eq_self, or_self, or_false, false_or, and_self, and_true, true_and, ite_self, Nat.reduceEqDiff, Nat.reduceLT, Nat.reduceMod, Nat.reduceMul, Nat.reduceAdd, Nat.reducePow, Nat.reduceDiv, lt_2, lt_3, lt_4, lt_5, lt_6, lt_7, lt_8, lt_10, lt_11, lt_12, lt_15, lt_16, lt_18, lt_20, lt_24, lt_31, lt_32, lt_48, lt_57, lt_59, lt_63, lt_64, lt_74, lt_75, lt_97, lt_122, lt_128, lt_144, lt_145, lt_146, lt_147, lt_155, lt_163, lt_171, lt_179, lt_200, lt_243, lt_244, lt_255, lt_256, lt_732, lt_900, lt_3660, lt_3904, lt_4095, lt_65536, lt_65537, lt_252645135, lt_858993459, lt_1431655765, ↓p_has_b, p_has, ↓p_has9_b, p_has9, ↓p_bit_b, p_bit, ↓p_bit1_b, p_bit1, ↓p_bit0_b, p_bit0, p_X9_back, hL.t, lm, a0, c20, d]
          · simp (maxSteps := 1000000) (disch := omega) only [↓reduceIte, ↓if_bi0, ↓if_bi1, hp_tg, hp_rI, hp_rR, hp_rL, hp_wI, hp_wL, Option.bind_some, if_11, if_01, bi_and1, i10, i01, bi_t, bi_f, ic_add, mr_4, ml_4, mr_8, ml_8, mr_10, ml_10, ic_add1, ic_sub1, ic_clamp, ic_div, ic_irm, ic_lt0, ic_0lt, ic_eq0, ic_lt, ic_inj, and15, and7, and31, and63, shl1, shr_ok, neg_1, neg_2, neg_3, neg_4, kc_lt0, kc_ic, kc_m2, kc_1, kc_0, i0_add, add_i0, or_i0, z_8, z_4, z_64, z_256, ic_m2, ec_m1, ic_m1, m1_lt0, m2_lt0, m3_lt0, m4_lt0, up_s, if_true, if_false, ne_eq, not_true_eq_false, not_false_eq_true, Bool.false_eq_true, eq_self, or_self, or_false, false_or, and_self, and_true, true_and, ite_self, Nat.reduceEqDiff, Nat.reduceLT, Nat.reduceMod, Nat.reduceMul, Nat.reduceAdd, Nat.reducePow, Nat.reduceDiv, lt_2, lt_3, lt_4, lt_5, lt_6, lt_7, lt_8, lt_10, lt_11, lt_12, lt_15, lt_16, lt_18, lt_20, lt_24, lt_31, lt_32, lt_48, lt_57, lt_59, lt_63, lt_64, lt_74, lt_75, lt_97, lt_122, lt_128, lt_144, lt_145, lt_146, lt_147, lt_155, lt_163, lt_171, lt_179, lt_200, lt_243, lt_244, lt_255, lt_256, lt_732, lt_900, lt_3660, lt_3904, lt_4095, lt_65536, lt_65537, lt_252645135, lt_858993459, lt_1431655765, ↓p_has_b, p_has, ↓p_has9_b, p_has9, ↓p_bit_b, p_bit, ↓p_bit1_b, p_bit1, ↓p_bit0_b, p_bit0, p_X9_back_63, hL.t, ↓x_granted_b hL, x_granted hL, b1]
        · rw [eb (m + 5) (by omega), ey (m + 5) (by omega) (by omega)]; exact xk
        · rw [eb (m + 2) (by omega)]
          refine RW.cong (xk k d) fun j hj => ?_
          rw [k1 j hj, up_a (by omega)]
      · rw [if_neg (by rw [decide_eq_false d]; decide)]
        refine xc_to (L' := L) (e := 1) H (Xq.z I m) (by decide) ?_
        simp (maxSteps := 1000000) (disch := omega) only [↓reduceIte, ↓if_bi0, ↓if_bi1, hp_tg, hp_rI, hp_rR, hp_rL, hp_wI, hp_wL, Option.bind_some, if_11, if_01, bi_and1, i10, i01, bi_t, bi_f, ic_add, mr_4, ml_4, mr_8, ml_8, mr_10, ml_10, ic_add1, ic_sub1, ic_clamp, ic_div, ic_irm, ic_lt0, ic_0lt, ic_eq0, ic_lt, ic_inj, and15, and7, and31, and63, shl1, shr_ok, neg_1, neg_2, neg_3, neg_4, kc_lt0, kc_ic, kc_m2, kc_1, kc_0, i0_add, add_i0, or_i0, z_8, z_4, z_64, z_256, ic_m2, ec_m1, ic_m1, m1_lt0, m2_lt0, m3_lt0, m4_lt0, up_s, if_true, if_false, ne_eq, not_true_eq_false, not_false_eq_true, Bool.false_eq_true, eq_self, or_self, or_false, false_or, and_self, and_true, true_and, ite_self, Nat.reduceEqDiff, Nat.reduceLT, Nat.reduceMod, Nat.reduceMul, Nat.reduceAdd, Nat.reducePow, Nat.reduceDiv, lt_2, lt_3, lt_4, lt_5, lt_6, lt_7, lt_8, lt_10, lt_11, lt_12, lt_15, lt_16, lt_18, lt_20, lt_24, lt_31, lt_32, lt_48, lt_57, lt_59, lt_63, lt_64, lt_74, lt_75, lt_97, lt_122, lt_128, lt_144, lt_145, lt_146, lt_147, lt_155, lt_163, lt_171, lt_179, lt_200, lt_243, lt_244, lt_255, lt_256, lt_732, lt_900, lt_3660, lt_3904, lt_4095, lt_65536, lt_65537, lt_252645135, lt_858993459, lt_1431655765, ↓p_has_b, p_has, ↓p_has9_b, p_has9, ↓p_bit_b, p_bit, ↓p_bit1_b, p_bit1, ↓p_bit0_b, p_bit0, p_X9_back, p_X9_back_24, hL.t, lm, a0, c20, d, ↓x_denied_b hL, x_denied hL, b0]
        rfl
theorem xc_image (H : XH S I m a W c) : XC S I m a (p_X9_image m (hp S I L)) (imD W) := by
  have H9 := H
  have a0 := H.a0
  obtain ⟨hL, hm, hM, hX, hV⟩ := H9
  have hI := hV.2.2.1
  have c20 : up2 I m 0 0 m 20 = ic (vI W) := by rw [up_k (by omega)]; exact hX.2.2.2.2.2.1
  unfold imD
  cases hr : vR W
  · have lm := hM.2 hr
    rw [if_neg (by decide)]
    refine xc_no1 (L' := L) H (Xq.z I m) ?_
    simp (maxSteps := 1000000) (disch := omega) only [↓reduceIte, ↓if_bi0, ↓if_bi1, hp_tg, hp_rI, hp_rR, hp_rL, hp_wI, hp_wL, Option.bind_some, if_11, if_01, bi_and1, i10, i01, bi_t, bi_f, ic_add, mr_4, ml_4, mr_8, ml_8, mr_10, ml_10, ic_add1, ic_sub1, ic_clamp, ic_div, ic_irm, ic_lt0, ic_0lt, ic_eq0, ic_lt, ic_inj, and15, and7, and31, and63, shl1, shr_ok, neg_1, neg_2, neg_3, neg_4, kc_lt0, kc_ic, kc_m2, kc_1, kc_0, i0_add, add_i0, or_i0, z_8, z_4, z_64, z_256, ic_m2, ec_m1, ic_m1, m1_lt0, m2_lt0, m3_lt0, m4_lt0, up_s, if_true, if_false, ne_eq, not_true_eq_false, not_false_eq_true, Bool.false_eq_true, eq_self, or_self, or_false, false_or, and_self, and_true, true_and, ite_self, Nat.reduceEqDiff, Nat.reduceLT, Nat.reduceMod, Nat.reduceMul, Nat.reduceAdd, Nat.reducePow, Nat.reduceDiv, lt_2, lt_3, lt_4, lt_5, lt_6, lt_7, lt_8, lt_10, lt_11, lt_12, lt_15, lt_16, lt_18, lt_20, lt_24, lt_31, lt_32, lt_48, lt_57, lt_59, lt_63, lt_64, lt_74, lt_75, lt_97, lt_122, lt_128, lt_144, lt_145, lt_146, lt_147, lt_155, lt_163, lt_171, lt_179, lt_200, lt_243, lt_244, lt_255, lt_256, lt_732, lt_900, lt_3660, lt_3904, lt_4095, lt_65536, lt_65537, lt_252645135, lt_858993459, lt_1431655765, ↓p_has_b, p_has, ↓p_has9_b, p_has9, ↓p_bit_b, p_bit, ↓p_bit1_b, p_bit1, ↓p_bit0_b, p_bit0, p_X9_image, hL.t, lm, ↓x_refused_b hL, x_refused hL]
  · have lm := (hM.y hr).1
    rw [if_pos rfl]
    by_cases d : vI W = 3
    · rw [if_pos d]
      refine xc_to (L' := L) (e := 3) H (Xq.z I m) (by decide) ?_
      simp (maxSteps := 1000000) (disch := omega) only [↓reduceIte, ↓if_bi0, ↓if_bi1, hp_tg, hp_rI, hp_rR, hp_rL, hp_wI, hp_wL, Option.bind_some, if_11, if_01, bi_and1, i10, i01, bi_t, bi_f, ic_add, mr_4, ml_4, mr_8, ml_8, mr_10, ml_10, ic_add1, ic_sub1, ic_clamp, ic_div, ic_irm, ic_lt0, ic_0lt, ic_eq0, ic_lt, ic_inj, and15, and7, and31, and63, shl1, shr_ok, neg_1, neg_2, neg_3, neg_4, kc_lt0, kc_ic, kc_m2, kc_1, kc_0, i0_add, add_i0, or_i0, z_8, z_4, z_64, z_256, ic_m2, ec_m1, ic_m1, m1_lt0, m2_lt0, m3_lt0, m4_lt0, up_s, if_true, if_false, ne_eq, not_true_eq_false, not_false_eq_true, Bool.false_eq_true, eq_self, or_self, or_false, false_or, and_self, and_true, true_and, ite_self, Nat.reduceEqDiff, Nat.reduceLT, Nat.reduceMod, Nat.reduceMul, Nat.reduceAdd, Nat.reducePow, Nat.reduceDiv, lt_2, lt_3, lt_4, lt_5, lt_6, lt_7, lt_8, lt_10, lt_11, lt_12, lt_15, lt_16, lt_18, lt_20, lt_24, lt_31, lt_32, lt_48, lt_57, lt_59, lt_63, lt_64, lt_74, lt_75, lt_97, lt_122, lt_128, lt_144, lt_145, lt_146, lt_147, lt_155, lt_163, lt_171, lt_179, lt_200, lt_243, lt_244, lt_255, lt_256, lt_732, lt_900, lt_3660, lt_3904, lt_4095, lt_65536, lt_65537, lt_252645135, lt_858993459, lt_1431655765, ↓p_has_b, p_has, ↓p_has9_b, p_has9, ↓p_bit_b, p_bit, ↓p_bit1_b, p_bit1, ↓p_bit0_b, p_bit0, p_X9_image, hL.t, lm, a0, c20, d, ↓x_refused_b hL, x_refused hL]
    · rw [if_neg d]
      obtain ⟨x1, x6, xt, x12, d19, d20, d21, d22, d23, d24, d25, xp, xk, xr⟩ := hX
      obtain ⟨r1, r2⟩ := xr hr
      obtain ⟨K, e1, k1, k3, k2⟩ := x_im34 (I := up2 I m 0 0) (L := L) hL (n := vI W) (by omega) c20
      have ey : ∀ b, b ≠ m → b ≠ m + 5 → K b = I b := fun b q1 q2 => by rw [k2 b q2]; exact funext fun j => by rw [up_a q1]
      have em : ∀ j, j ≠ 0 → K m j = I m j := fun j q1 => by rw [k2 m (by omega), up_k q1]
      have eu : ∀ j, 2 < j → j ≠ 20 → up2 (up2 (up2 K m 20 (ic (vI W + 1))) m 1 0) m 2 m1 m j = I m j := fun j q1 q2 => by rw [up_k (by omega), up_k (by omega), up_k q2, em j (by omega)]
      have eb : ∀ b, b ≠ m → up2 (up2 (up2 K m 20 (ic (vI W + 1))) m 1 0) m 2 m1 b = K b := fun b q => funext fun j => by rw [up_a q, up_a q, up_a q]
      refine ⟨up2 (up2 (up2 K m 20 (ic (vI W + 1))) m 1 0) m 2 m1, L, ?_, ⟨⟨by rw [up_k (by omega), up_s]; rfl, up_s _ _ _ _⟩, by rw [eu 6 (by omega) (by omega)]; exact x6, fun k hk => by rw [eb (m + 1) (by omega), ey (m + 1) (by omega) (by omega)]; exact xt k hk, by rw [eu 12 (by omega) (by omega)]; exact x12, by rw [eu 19 (by omega) (by omega)]; exact d19, by rw [up_k (by omega), up_k (by omega), up_s]; rfl, by rw [eu 21 (by omega) (by omega)]; exact d21, by rw [eu 22 (by omega) (by omega)]; exact d22, by rw [eu 23 (by omega) (by omega)]; exact d23, by rw [eu 24 (by omega) (by omega)]; exact d24, by rw [eu 25 (by omega) (by omega)]; exact d25, ?_, ?_, fun _ => ⟨r1.lc fun y _ _ => by rw [eb y (by omega), ey y (by omega) (by omega)], ?_⟩⟩, fun y hy => by rw [eb y (by omega), ey y (by omega) (by omega)]⟩
      · have e20 : K m 20 = ic (vI W) := by rw [em 20 (by omega)]; exact d20
        have f20 : up2 K m 20 (ic (vI W + 1)) m 20 = ic (vI W + 1) := up_s _ _ _ _
        refine Eq.trans (b := p_X9_image_68 m (hp S K L)) ?_ ?_
        · refine Eq.trans ?_ e1
          simp (maxSteps := 1000000) (disch := omega) only [↓reduceIte, ↓if_bi0, ↓if_bi1, hp_tg, hp_rI, hp_rR, hp_rL, hp_wI, hp_wL, Option.bind_some, if_11, if_01, bi_and1, i10, i01, bi_t, bi_f, ic_add, mr_4, ml_4, mr_8, ml_8, mr_10, ml_10, ic_add1, ic_sub1, ic_clamp, ic_div, ic_irm, ic_lt0, ic_0lt, ic_eq0, ic_lt, ic_inj, and15, and7, and31, and63, shl1, shr_ok, neg_1, neg_2, neg_3, neg_4, kc_lt0, kc_ic, kc_m2, kc_1, kc_0, i0_add, add_i0, or_i0, z_8, z_4, z_64, z_256, ic_m2, ec_m1, ic_m1, m1_lt0, m2_lt0, m3_lt0, m4_lt0, up_s, if_true, if_false, ne_eq, not_true_eq_false, not_false_eq_true, Bool.false_eq_true, eq_self, or_self, or_false, false_or, and_self, and_true, true_and, ite_self, Nat.reduceEqDiff, Nat.reduceLT, Nat.reduceMod, Nat.reduceMul, Nat.reduceAdd, Nat.reducePow, Nat.reduceDiv, lt_2, lt_3, lt_4, lt_5, lt_6, lt_7, lt_8, lt_10, lt_11, lt_12, lt_15, lt_16, lt_18, lt_20, lt_24, lt_31, lt_32, lt_48, lt_57, lt_59, lt_63, lt_64, lt_74, lt_75, lt_97, lt_122, lt_128, lt_144, lt_145, lt_146, lt_147, lt_155, lt_163, lt_171, lt_179, lt_200, lt_243, lt_244, lt_255, lt_256, lt_732, lt_900, lt_3660, lt_3904, lt_4095, lt_65536, lt_65537, lt_252645135, lt_858993459, lt_1431655765, ↓p_has_b, p_has, ↓p_has9_b, p_has9, ↓p_bit_b, p_bit, ↓p_bit1_b, p_bit1, ↓p_bit0_b, p_bit0, p_X9_image, hL.t, lm, a0, c20, d]
        · simp (maxSteps := 1000000) (disch := omega) only [↓reduceIte, ↓if_bi0, ↓if_bi1, hp_tg, hp_rI, hp_rR, hp_rL, hp_wI, hp_wL, Option.bind_some, if_11, if_01, bi_and1, i10, i01, bi_t, bi_f, ic_add, mr_4, ml_4, mr_8, ml_8, mr_10, ml_10, ic_add1, ic_sub1, ic_clamp, ic_div, ic_irm, ic_lt0, ic_0lt, ic_eq0, ic_lt, ic_inj, and15, and7, and31, and63, shl1, shr_ok, neg_1, neg_2, neg_3, neg_4, kc_lt0, kc_ic, kc_m2, kc_1, kc_0, i0_add, add_i0, or_i0, z_8, z_4, z_64, z_256, ic_m2, ec_m1, ic_m1, m1_lt0, m2_lt0, m3_lt0, m4_lt0, up_s, if_true, if_false, ne_eq, not_true_eq_false, not_false_eq_true, Bool.false_eq_true, eq_self, or_self, or_false, false_or, and_self, and_true, true_and, ite_self, Nat.reduceEqDiff, Nat.reduceLT, Nat.reduceMod, Nat.reduceMul, Nat.reduceAdd, Nat.reducePow, Nat.reduceDiv, lt_2, lt_3, lt_4, lt_5, lt_6, lt_7, lt_8, lt_10, lt_11, lt_12, lt_15, lt_16, lt_18, lt_20, lt_24, lt_31, lt_32, lt_48, lt_57, lt_59, lt_63, lt_64, lt_74, lt_75, lt_97, lt_122, lt_128, lt_144, lt_145, lt_146, lt_147, lt_155, lt_163, lt_171, lt_179, lt_200, lt_243, lt_244, lt_255, lt_256, lt_732, lt_900, lt_3660, lt_3904, lt_4095, lt_65536, lt_65537, lt_252645135, lt_858993459, lt_1431655765, ↓p_has_b, p_has, ↓p_has9_b, p_has9, ↓p_bit_b, p_bit, ↓p_bit1_b, p_bit1, ↓p_bit0_b, p_bit0, p_X9_image_68, hL.t, e20, f20, Nat.add_sub_cancel, ↓x_good_b hL, x_good hL]
      · unfold PW
        rw [eb (m + 4) (by omega), ey (m + 4) (by omega) (by omega)]
        exact xp
      · intro j hj
        have hj9 : j < vI W + 1 := hj
        show RW _ (if j = vI W then vS W else vJ W j)
        rw [eb (m + 5) (by omega)]
        by_cases e : j = vI W
        · rw [if_pos e, e]
          refine RW.cong r2 fun k hk => ?_
          rw [k1 k hk, up_a (by omega)]
        · rw [if_neg e]
          refine RW.cong (xk j (by omega)) fun k hk => ?_
          show K (m + 5) (244 * j + k) = _
          rw [k3 (244 * j + k) (by omega), up_a (by omega)]
      · rw [eb (m + 2) (by omega), ey (m + 2) (by omega) (by omega)]
        exact r2
end UNX
