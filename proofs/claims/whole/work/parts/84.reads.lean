/-! ===== an empty start, and the whole text: the class ===== -/
def s00 : St := (fun _ => 0, fun _ => 0, fun _ => false, 0, 0, fun _ => 0, fun _ => 0, fun _ => 0, fun _ => false, fun _ => 0, 0)
def T00 : TS := (0, s00, (0, fun _ => 0), (0, fun _ => 0, fun _ => 0), (0, fun _ => 0, fun _ => 0), 0, 0, fun _ => false)
theorem tv_00 : TV T00 := ⟨Nat.zero_le _, ⟨fun _ _ => by show 0 < 4096; omega, fun _ _ => Nat.zero_le _, fun _ _ h => (by cases h), by show 0 < 65536; omega, by show 0 < 16; omega⟩, rfl, ⟨Nat.zero_le _, fun i h => absurd h (Nat.not_lt_zero i)⟩, ⟨Nat.zero_le _, fun i h => absurd h (Nat.not_lt_zero i)⟩, ⟨Nat.zero_le _, fun i h => absurd h (Nat.not_lt_zero i)⟩, Nat.zero_le _, Nat.zero_le _⟩
theorem px_00 : PX T00 := Or.inl ⟨rfl, rfl, rfl, rfl, rfl, rfl⟩
def rr (b : Nat → Nat) (n : Nat) : LR := rd b n 901 T00 (tok b n 0)
section EMPTY
variable {S : SH} {I J : II} {L : LL} {g t x n : Nat} {b : Nat → Nat}
theorem g_empty (hL : GL S g) : ∃ J, p_X1_empty g (hp S I L) = some (hp S J L) ∧ GR J g s00 ∧ Fr I J g (g + 2) := by
  have s2 : ∀ J : II, Fr I J g (g + 2) → (∀ k, k < 128 → J (g + 1) k = 0) → ∃ I', p_X1_empty_24 FU g 0 (hp S J L) = some (hp S I' L) ∧ GR I' g s00 ∧ Fr I I' g (g + 2) := by
    intro J j0 j1
    have := lp_inv (fun n k (c : II) => p_X1_empty_24 n g (ic k) (hp S c L)) 16 (fun k c => Fr I c g (g + 2) ∧ (∀ j, j < 128 → c (g + 1) j = 0) ∧ ∀ f, f < k → c (g + 2) f = m2) (fun r => ∃ I', r = hp S I' L ∧ GR I' g s00 ∧ Fr I I' g (g + 2)) (fun n k c hk hc => ?_) (fun n c hc => ?_) 16 0 FU J rfl (fu_lt (by decide)) ⟨j0, j1, fun f h => by omega⟩
    · obtain ⟨r, e, I', e2, h⟩ := this
      subst e2
      exact ⟨I', e, h⟩
    · obtain ⟨c0, c1, c2⟩ := hc
      refine ⟨up2 c (g + 2) k m2, by simp (maxSteps := 1000000) (disch := omega) only [↓reduceIte, ↓if_bi0, ↓if_bi1, hp_tg, hp_rI, hp_rR, hp_rL, hp_wI, hp_wL, Option.bind_some, if_11, if_01, bi_and1, i10, i01, bi_t, bi_f, ic_add, mr_4, ml_4, mr_8, ml_8, mr_10, ml_10, ic_add1, ic_sub1, ic_clamp, ic_div, ic_irm, ic_lt0, ic_0lt, ic_eq0, ic_lt, ic_inj, and15, and7, and31, and63, shl1, shr_ok, neg_1, neg_2, neg_3, neg_4, kc_lt0, kc_ic, kc_m2, kc_1, kc_0, i0_add, add_i0, or_i0, z_8, z_4, z_64, z_256, ic_m2, ec_m1, ic_m1, m1_lt0, m2_lt0, m3_lt0, m4_lt0, up_s, if_true, if_false, ne_eq, not_true_eq_false, not_false_eq_true, Bool.false_eq_true, eq_self, or_self, or_false, false_or, and_self, and_true, true_and, ite_self, Nat.reduceEqDiff, Nat.reduceLT, Nat.reduceMod, Nat.reduceMul, Nat.reduceAdd, Nat.reducePow, Nat.reduceDiv, lt_2, lt_3, lt_4, lt_5, lt_6, lt_7, lt_8, lt_10, lt_11, lt_12, lt_15, lt_16, lt_18, lt_20, lt_24, lt_31, lt_32, lt_48, lt_57, lt_59, lt_63, lt_64, lt_74, lt_75, lt_97, lt_122, lt_128, lt_144, lt_145, lt_146, lt_147, lt_155, lt_163, lt_171, lt_179, lt_200, lt_243, lt_244, lt_255, lt_256, lt_732, lt_900, lt_3660, lt_3904, lt_4095, lt_65536, lt_65537, lt_252645135, lt_858993459, lt_1431655765, ↓p_has_b, p_has, ↓p_has9_b, p_has9, ↓p_bit_b, p_bit, ↓p_bit1_b, p_bit1, ↓p_bit0_b, p_bit0, p_X1_empty_24, hk, hL.1, hL.2.2.1, if_inB hL.2.2.2.2], c0.trans (Fr.up (by omega) (by omega)), fun j hj => by rw [up_a (by omega)]; exact c1 j hj, fun f hf => ?_⟩
      rw [up_i]
      by_cases d : f = k
      · rw [if_pos d]
      · rw [if_neg d]; exact c2 f (by omega)
    · obtain ⟨c0, c1, c2⟩ := hc
      refine ⟨_, by simp (maxSteps := 1000000) (disch := omega) only [↓reduceIte, ↓if_bi0, ↓if_bi1, hp_tg, hp_rI, hp_rR, hp_rL, hp_wI, hp_wL, Option.bind_some, if_11, if_01, bi_and1, i10, i01, bi_t, bi_f, ic_add, mr_4, ml_4, mr_8, ml_8, mr_10, ml_10, ic_add1, ic_sub1, ic_clamp, ic_div, ic_irm, ic_lt0, ic_0lt, ic_eq0, ic_lt, ic_inj, and15, and7, and31, and63, shl1, shr_ok, neg_1, neg_2, neg_3, neg_4, kc_lt0, kc_ic, kc_m2, kc_1, kc_0, i0_add, add_i0, or_i0, z_8, z_4, z_64, z_256, ic_m2, ec_m1, ic_m1, m1_lt0, m2_lt0, m3_lt0, m4_lt0, up_s, if_true, if_false, ne_eq, not_true_eq_false, not_false_eq_true, Bool.false_eq_true, eq_self, or_self, or_false, false_or, and_self, and_true, true_and, ite_self, Nat.reduceEqDiff, Nat.reduceLT, Nat.reduceMod, Nat.reduceMul, Nat.reduceAdd, Nat.reducePow, Nat.reduceDiv, lt_2, lt_3, lt_4, lt_5, lt_6, lt_7, lt_8, lt_10, lt_11, lt_12, lt_15, lt_16, lt_18, lt_20, lt_24, lt_31, lt_32, lt_48, lt_57, lt_59, lt_63, lt_64, lt_74, lt_75, lt_97, lt_122, lt_128, lt_144, lt_145, lt_146, lt_147, lt_155, lt_163, lt_171, lt_179, lt_200, lt_243, lt_244, lt_255, lt_256, lt_732, lt_900, lt_3660, lt_3904, lt_4095, lt_65536, lt_65537, lt_252645135, lt_858993459, lt_1431655765, ↓p_has_b, p_has, ↓p_has9_b, p_has9, ↓p_bit_b, p_bit, ↓p_bit1_b, p_bit1, ↓p_bit0_b, p_bit0, p_X1_empty_24, Nat.lt_irrefl, hL.1], up2 (up2 (up2 c g 2 0) g 3 0) g 4 0, rfl, ⟨fun k hk => ?_, fun f hf => ?_, ⟨0, by omega, ?_, fun f _ h => absurd h (Nat.lt_irrefl 0)⟩, ?_, ?_⟩, ((c0.trans (Fr.up (by omega) (by omega))).trans (Fr.up (by omega) (by omega))).trans (Fr.up (by omega) (by omega))⟩
      · rw [up_a (by omega), up_a (by omega), up_a (by omega)]; exact c1 k hk
      · rw [up_a (by omega), up_a (by omega), up_a (by omega)]; exact c2 f hf
      · rw [up_k (by omega), up_k (by omega), up_s]; rfl
      · rw [up_k (by omega), up_s]; rfl
      · rw [up_s]; rfl
  have := lp_inv (fun n k (c : II) => p_X1_empty_2 n g (ic k) (hp S c L)) 128 (fun k c => Fr I c g (g + 2) ∧ ∀ j, j < k → c (g + 1) j = 0) (fun r => ∃ I', r = hp S I' L ∧ GR I' g s00 ∧ Fr I I' g (g + 2)) (fun n k c hk hc => ?_) (fun n c hc => ?_) 128 0 FU I rfl (fu_lt (by decide)) ⟨Fr.refl _ _ _, fun f h => by omega⟩
  · obtain ⟨r, e, I', e2, h⟩ := this
    subst e2
    exact ⟨I', e, h⟩
  · obtain ⟨c0, c1⟩ := hc
    refine ⟨up2 c (g + 1) k 0, by simp (maxSteps := 1000000) (disch := omega) only [↓reduceIte, ↓if_bi0, ↓if_bi1, hp_tg, hp_rI, hp_rR, hp_rL, hp_wI, hp_wL, Option.bind_some, if_11, if_01, bi_and1, i10, i01, bi_t, bi_f, ic_add, mr_4, ml_4, mr_8, ml_8, mr_10, ml_10, ic_add1, ic_sub1, ic_clamp, ic_div, ic_irm, ic_lt0, ic_0lt, ic_eq0, ic_lt, ic_inj, and15, and7, and31, and63, shl1, shr_ok, neg_1, neg_2, neg_3, neg_4, kc_lt0, kc_ic, kc_m2, kc_1, kc_0, i0_add, add_i0, or_i0, z_8, z_4, z_64, z_256, ic_m2, ec_m1, ic_m1, m1_lt0, m2_lt0, m3_lt0, m4_lt0, up_s, if_true, if_false, ne_eq, not_true_eq_false, not_false_eq_true, Bool.false_eq_true, eq_self, or_self, or_false, false_or, and_self, and_true, true_and, ite_self, Nat.reduceEqDiff, Nat.reduceLT, Nat.reduceMod, Nat.reduceMul, Nat.reduceAdd, Nat.reducePow, Nat.reduceDiv, lt_2, lt_3, lt_4, lt_5, lt_6, lt_7, lt_8, lt_10, lt_11, lt_12, lt_15, lt_16, lt_18, lt_20, lt_24, lt_31, lt_32, lt_48, lt_57, lt_59, lt_63, lt_64, lt_74, lt_75, lt_97, lt_122, lt_128, lt_144, lt_145, lt_146, lt_147, lt_155, lt_163, lt_171, lt_179, lt_200, lt_243, lt_244, lt_255, lt_256, lt_732, lt_900, lt_3660, lt_3904, lt_4095, lt_65536, lt_65537, lt_252645135, lt_858993459, lt_1431655765, ↓p_has_b, p_has, ↓p_has9_b, p_has9, ↓p_bit_b, p_bit, ↓p_bit1_b, p_bit1, ↓p_bit0_b, p_bit0, p_X1_empty_2, hk, hL.1, hL.2.1, if_inB hL.2.2.2.1], c0.trans (Fr.up (by omega) (by omega)), fun j hj => ?_⟩
    rw [up_i]
    by_cases d : j = k
    · rw [if_pos d]
    · rw [if_neg d]; exact c1 j (by omega)
  · obtain ⟨c0, c1⟩ := hc
    obtain ⟨I', e, h⟩ := s2 c c0 c1
    exact ⟨_, by simp (maxSteps := 1000000) (disch := omega) only [↓reduceIte, ↓if_bi0, ↓if_bi1, hp_tg, hp_rI, hp_rR, hp_rL, hp_wI, hp_wL, Option.bind_some, if_11, if_01, bi_and1, i10, i01, bi_t, bi_f, ic_add, mr_4, ml_4, mr_8, ml_8, mr_10, ml_10, ic_add1, ic_sub1, ic_clamp, ic_div, ic_irm, ic_lt0, ic_0lt, ic_eq0, ic_lt, ic_inj, and15, and7, and31, and63, shl1, shr_ok, neg_1, neg_2, neg_3, neg_4, kc_lt0, kc_ic, kc_m2, kc_1, kc_0, i0_add, add_i0, or_i0, z_8, z_4, z_64, z_256, ic_m2, ec_m1, ic_m1, m1_lt0, m2_lt0, m3_lt0, m4_lt0, up_s, if_true, if_false, ne_eq, not_true_eq_false, not_false_eq_true, Bool.false_eq_true, eq_self, or_self, or_false, false_or, and_self, and_true, true_and, ite_self, Nat.reduceEqDiff, Nat.reduceLT, Nat.reduceMod, Nat.reduceMul, Nat.reduceAdd, Nat.reducePow, Nat.reduceDiv, lt_2, lt_3, lt_4, lt_5, lt_6, lt_7, lt_8, lt_10, lt_11, lt_12, lt_15, lt_16, lt_18, lt_20, lt_24, lt_31, lt_32, lt_48, lt_57, lt_59, lt_63, lt_64, lt_74, lt_75, lt_97, lt_122, lt_128, lt_144, lt_145, lt_146, lt_147, lt_155, lt_163, lt_171, lt_179, lt_200, lt_243, lt_244, lt_255, lt_256, lt_732, lt_900, lt_3660, lt_3904, lt_4095, lt_65536, lt_65537, lt_252645135, lt_858993459, lt_1431655765, ↓p_has_b, p_has, ↓p_has9_b, p_has9, ↓p_bit_b, p_bit, ↓p_bit1_b, p_bit1, ↓p_bit0_b, p_bit0, p_X1_empty_2, Nat.lt_irrefl, e], I', rfl, h⟩
theorem t_empty (hT : TL S t) : ∃ J, p_X6_empty t (hp S I L) = some (hp S J L) ∧ TR J t T00 ∧ Fr I J t (t + 9) := by
  obtain ⟨I1, e1, g1, f1⟩ := g_empty (I := I) (L := L) hT.2.2.1
  have b0 : (0 : Int32) &&& 1 = 0 := by decide
  have := lp_inv (fun n k (c : II) => p_X6_empty_19 n t (ic k) (hp S c L)) 128 (fun k c => (∀ y, y ≠ t + 4 → c y = up2 (up2 I1 t 1 0) t 2 0 y) ∧ ∀ j, j < k → c (t + 4) j = 0) (fun r => ∃ I', r = hp S I' L ∧ TR I' t T00 ∧ Fr I I' t (t + 9)) (fun n k c hk hc => ?_) (fun n c hc => ?_) 128 0 FU (up2 (up2 I1 t 1 0) t 2 0) rfl (fu_lt (by decide)) ⟨fun _ _ => rfl, fun f h => by omega⟩
  · obtain ⟨r, e, I', e2, h⟩ := this
    subst e2
    refine ⟨I', ?_, h⟩
    replace e : p_X6_empty_19 FU t 0 (hp S (up2 (up2 I1 t 1 0) t 2 0) L) = some (hp S I' L) := e
    simp (maxSteps := 1000000) (disch := omega) only [↓reduceIte, ↓if_bi0, ↓if_bi1, hp_tg, hp_rI, hp_rR, hp_rL, hp_wI, hp_wL, Option.bind_some, if_11, if_01, bi_and1, i10, i01, bi_t, bi_f, ic_add, mr_4, ml_4, mr_8, ml_8, mr_10, ml_10, ic_add1, ic_sub1, ic_clamp, ic_div, ic_irm, ic_lt0, ic_0lt, ic_eq0, ic_lt, ic_inj, and15, and7, and31, and63, shl1, shr_ok, neg_1, neg_2, neg_3, neg_4, kc_lt0, kc_ic, kc_m2, kc_1, kc_0, i0_add, add_i0, or_i0, z_8, z_4, z_64, z_256, ic_m2, ec_m1, ic_m1, m1_lt0, m2_lt0, m3_lt0, m4_lt0, up_s, if_true, if_false, ne_eq, not_true_eq_false, not_false_eq_true, Bool.false_eq_true, eq_self, or_self, or_false, false_or, and_self, and_true, true_and, ite_self, Nat.reduceEqDiff, Nat.reduceLT, Nat.reduceMod, Nat.reduceMul, Nat.reduceAdd, Nat.reducePow, Nat.reduceDiv, lt_2, lt_3, lt_4, lt_5, lt_6, lt_7, lt_8, lt_10, lt_11, lt_12, lt_15, lt_16, lt_18, lt_20, lt_24, lt_31, lt_32, lt_48, lt_57, lt_59, lt_63, lt_64, lt_74, lt_75, lt_97, lt_122, lt_128, lt_144, lt_145, lt_146, lt_147, lt_155, lt_163, lt_171, lt_179, lt_200, lt_243, lt_244, lt_255, lt_256, lt_732, lt_900, lt_3660, lt_3904, lt_4095, lt_65536, lt_65537, lt_252645135, lt_858993459, lt_1431655765, ↓p_has_b, p_has, ↓p_has9_b, p_has9, ↓p_bit_b, p_bit, ↓p_bit1_b, p_bit1, ↓p_bit0_b, p_bit0, p_X6_empty, hT.1, hT.2.1, hT.2.2.1.1, ↓bnd (e1), e1, e]
  · obtain ⟨c0, c1⟩ := hc
    refine ⟨up2 c (t + 4) k 0, by simp (maxSteps := 1000000) (disch := omega) only [↓reduceIte, ↓if_bi0, ↓if_bi1, hp_tg, hp_rI, hp_rR, hp_rL, hp_wI, hp_wL, Option.bind_some, if_11, if_01, bi_and1, i10, i01, bi_t, bi_f, ic_add, mr_4, ml_4, mr_8, ml_8, mr_10, ml_10, ic_add1, ic_sub1, ic_clamp, ic_div, ic_irm, ic_lt0, ic_0lt, ic_eq0, ic_lt, ic_inj, and15, and7, and31, and63, shl1, shr_ok, neg_1, neg_2, neg_3, neg_4, kc_lt0, kc_ic, kc_m2, kc_1, kc_0, i0_add, add_i0, or_i0, z_8, z_4, z_64, z_256, ic_m2, ec_m1, ic_m1, m1_lt0, m2_lt0, m3_lt0, m4_lt0, up_s, if_true, if_false, ne_eq, not_true_eq_false, not_false_eq_true, Bool.false_eq_true, eq_self, or_self, or_false, false_or, and_self, and_true, true_and, ite_self, Nat.reduceEqDiff, Nat.reduceLT, Nat.reduceMod, Nat.reduceMul, Nat.reduceAdd, Nat.reducePow, Nat.reduceDiv, lt_2, lt_3, lt_4, lt_5, lt_6, lt_7, lt_8, lt_10, lt_11, lt_12, lt_15, lt_16, lt_18, lt_20, lt_24, lt_31, lt_32, lt_48, lt_57, lt_59, lt_63, lt_64, lt_74, lt_75, lt_97, lt_122, lt_128, lt_144, lt_145, lt_146, lt_147, lt_155, lt_163, lt_171, lt_179, lt_200, lt_243, lt_244, lt_255, lt_256, lt_732, lt_900, lt_3660, lt_3904, lt_4095, lt_65536, lt_65537, lt_252645135, lt_858993459, lt_1431655765, ↓p_has_b, p_has, ↓p_has9_b, p_has9, ↓p_bit_b, p_bit, ↓p_bit1_b, p_bit1, ↓p_bit0_b, p_bit0, p_X6_empty_19, hk, hT.1, hT.2.2.2.1.1, if_inB hT.2.2.2.1.2, b0], fun y hy => by rw [← c0 y hy]; exact funext fun j => up_a hy, fun j hj => ?_⟩
    rw [up_i]
    by_cases d : j = k
    · rw [if_pos d]
    · rw [if_neg d]; exact c1 j (by omega)
  · obtain ⟨c0, c1⟩ := hc
    have e : ∀ y, y ≠ t → up2 (up2 (up2 (up2 c t 4 0) t 6 0) t 9 0) t 12 0 y = c y := fun y hy => funext fun j => by rw [up_a hy, up_a hy, up_a hy, up_a hy]
    have ec : ∀ y, y ≠ t → y ≠ t + 4 → c y = I1 y := fun y h1 h2 => by rw [c0 y h2]; exact funext fun j => by rw [up_a h1, up_a h1]
    refine ⟨_, by simp (maxSteps := 1000000) (disch := omega) only [↓reduceIte, ↓if_bi0, ↓if_bi1, hp_tg, hp_rI, hp_rR, hp_rL, hp_wI, hp_wL, Option.bind_some, if_11, if_01, bi_and1, i10, i01, bi_t, bi_f, ic_add, mr_4, ml_4, mr_8, ml_8, mr_10, ml_10, ic_add1, ic_sub1, ic_clamp, ic_div, ic_irm, ic_lt0, ic_0lt, ic_eq0, ic_lt, ic_inj, and15, and7, and31, and63, shl1, shr_ok, neg_1, neg_2, neg_3, neg_4, kc_lt0, kc_ic, kc_m2, kc_1, kc_0, i0_add, add_i0, or_i0, z_8, z_4, z_64, z_256, ic_m2, ec_m1, ic_m1, m1_lt0, m2_lt0, m3_lt0, m4_lt0, up_s, if_true, if_false, ne_eq, not_true_eq_false, not_false_eq_true, Bool.false_eq_true, eq_self, or_self, or_false, false_or, and_self, and_true, true_and, ite_self, Nat.reduceEqDiff, Nat.reduceLT, Nat.reduceMod, Nat.reduceMul, Nat.reduceAdd, Nat.reducePow, Nat.reduceDiv, lt_2, lt_3, lt_4, lt_5, lt_6, lt_7, lt_8, lt_10, lt_11, lt_12, lt_15, lt_16, lt_18, lt_20, lt_24, lt_31, lt_32, lt_48, lt_57, lt_59, lt_63, lt_64, lt_74, lt_75, lt_97, lt_122, lt_128, lt_144, lt_145, lt_146, lt_147, lt_155, lt_163, lt_171, lt_179, lt_200, lt_243, lt_244, lt_255, lt_256, lt_732, lt_900, lt_3660, lt_3904, lt_4095, lt_65536, lt_65537, lt_252645135, lt_858993459, lt_1431655765, ↓p_has_b, p_has, ↓p_has9_b, p_has9, ↓p_bit_b, p_bit, ↓p_bit1_b, p_bit1, ↓p_bit0_b, p_bit0, p_X6_empty_19, Nat.lt_irrefl, hT.1], up2 (up2 (up2 (up2 c t 4 0) t 6 0) t 9 0) t 12 0, rfl, ⟨?_, ?_, ?_, fun k hk => ?_, ?_, ⟨?_, fun i hi => absurd hi (Nat.not_lt_zero i)⟩, ⟨?_, fun i hi => absurd hi (Nat.not_lt_zero i)⟩, ?_, fun i hi => absurd hi (Nat.not_lt_zero i)⟩, fun y hy => ?_⟩
    · unfold GR
      rw [e (t + 1) (by omega), e (t + 1 + 1) (by omega), e (t + 1 + 2) (by omega), ec (t + 1) (by omega) (by omega), ec (t + 1 + 1) (by omega) (by omega), ec (t + 1 + 2) (by omega) (by omega)]
      exact g1
    · rw [up_k (by omega), up_k (by omega), up_k (by omega), up_k (by omega), c0 t (by omega), up_k (by omega), up_s]; rfl
    · rw [up_k (by omega), up_k (by omega), up_k (by omega), up_k (by omega), c0 t (by omega), up_s]; rfl
    · rw [e (t + 4) (by omega)]; exact c1 k hk
    · rw [up_k (by omega), up_k (by omega), up_k (by omega), up_s]; rfl
    · rw [up_k (by omega), up_k (by omega), up_s]; rfl
    · rw [up_k (by omega), up_s]; rfl
    · rw [up_s]; rfl
    · rw [e y (by omega), ec y (by omega) (by omega)]; exact f1 y (by omega)
/-- what the class says behind the text -/
def KA (S : SH) (I : II) (L : LL) (x t : Nat) (o : Option (Int32 × AH)) : LR → Prop
  | .inl r => ∃ J, o = some (0, hp S J L) ∧ J x 7 = ic r.1 ∧ J x 8 = ic r.2 ∧ J x 1 = 0 ∧ ∀ y, y ≠ x → (y < t ∨ t + 9 < y) → J y = I y
  | .inr r => ∃ J, o = some (1, hp S J L) ∧ TR J t r.1 ∧ J x 7 = 0 ∧ J x 1 = 0 ∧ ∀ y, y ≠ x → (y < t ∨ t + 9 < y) → J y = I y
theorem k_reads (hL : XL S x) (hT : TL S t) (hx : x + 1 < t) (hb : TP I (x + 1) b) (hn : n ≤ 900) : KA S I L x t (p_X5_reads x (ic n) t (hp S I L)) (rr b n) := by
  obtain ⟨I1, e1, R1, f1⟩ := t_empty (I := up2 (up2 (up2 (up2 (up2 I x 2 (ic n)) x 1 0) x 7 0) x 8 0) x 5 0) (L := L) hT
  have w : ∀ y, y ≠ x → up2 (up2 (up2 (up2 (up2 I x 2 (ic n)) x 1 0) x 7 0) x 8 0) x 5 0 y = I y := fun y hy => funext fun j => by rw [up_a hy, up_a hy, up_a hy, up_a hy, up_a hy]
  have hb1 : TP I1 (x + 1) b := fun k hk => by rw [f1 (x + 1) (by omega), w (x + 1) (by omega)]; exact hb k hk
  have i2 : I1 x 2 = ic n := by rw [f1 x (by omega), up_k (by omega), up_k (by omega), up_k (by omega), up_k (by omega), up_s]
  have i1 : I1 x 1 = 0 := by rw [f1 x (by omega), up_k (by omega), up_k (by omega), up_k (by omega), up_s]
  have i7 : I1 x 7 = 0 := by rw [f1 x (by omega), up_k (by omega), up_k (by omega), up_s]
  have i5 : I1 x 5 = ic 0 := by rw [f1 x (by omega), up_s]; rfl
  obtain ⟨I2, e2, c2, g1, g2⟩ := k_adv (L := L) hL hb1 i2 hn i5 (Nat.zero_le n)
  have s2 : CS I2 x b n (tok b n 0) := ⟨by rw [g1 2 (by omega)]; exact i2, fun k hk => by rw [g2 (x + 1) (by omega)]; exact hb1 k hk, c2, tok_ok (Nat.zero_le n), hn⟩
  have R2 : TR I2 t T00 := R1.xf (J := I2) ⟨g1, g2⟩ hx
  have K := k_rd (L := L) hL hT hx 901 FU 0 s2 R2 tv_00 px_00 (by omega) (fu_lt (by decide)) (by omega)
  have g : p_X5_reads x (ic n) t (hp S I L) = p_X5_reads_35 FU x t (ic 0) (hp S I2 L) := by
    unfold p_X5_reads
    simp only [↓reduceIte, ↓if_bi0, hp_tg, hp_rR, hp_rI, hp_wI, eq_self, bi_t, bi_f, i10, if_true, if_false, Bool.false_eq_true, hL.1, hT.1]
    refine Eq.trans (bnd e1) ?_
    simp only [↓reduceIte, ↓if_bi0, hp_tg, hp_rR, hp_rI, hp_wI, eq_self, bi_t, bi_f, i10, if_true, if_false, Bool.false_eq_true, hL.1]
    refine Eq.trans (bnd e2) ?_
    rfl
  rw [g]
  have fr : ∀ J : II, Tf I2 J x t → J x 1 = 0 ∧ ∀ y, y ≠ x → (y < t ∨ t + 9 < y) → J y = I y := fun J h => ⟨by rw [h.1 1 (by omega), g1 1 (by omega)]; exact i1, fun y h1 h2 => by rw [h.2 y h1 h2, g2 y h1, f1 y h2, w y h1]⟩
  unfold rr
  cases e : rd b n 901 T00 (tok b n 0) with
  | inl r =>
    rw [e] at K
    obtain ⟨J, e9, q7, q8, q⟩ := K
    exact ⟨J, e9, q7, q8, fr J q⟩
  | inr r =>
    rw [e] at K
    obtain ⟨J, e9, -, q1, q7, q8, q⟩ := K
    exact ⟨J, e9, q1, by rw [q7, g1 7 (by omega)]; exact i7, fr J q⟩
end EMPTY
section INL
variable {b : Nat → Nat} {n : Nat} {tk k1 : TK} {T : TS} {r : Nat × Nat}
theorem wf_4 (tk : TK) (a c : Nat) : wf tk a c ≤ 4 := by
  unfold wf
  by_cases t : tk.1 = 2
  · rw [if_pos t]
    by_cases q : a ≤ tk.2.2.2 ∧ tk.2.2.2 ≤ c
    · rw [if_pos q]; omega
    · rw [if_neg q]; omega
  · rw [if_neg t]; omega
def G6 (Z : LR) : Prop := ∀ r, Z = .inl r → 0 < r.1 ∧ r.1 < 7
theorem g6_l {p : Nat × Nat} (h : 0 < p.1 ∧ p.1 < 7) : G6 (.inl p) := fun r e => by cases e; exact h
theorem g6_r {p : TS × TK} : G6 (.inr p) := fun r e => by cases e
theorem g6_i {c : Prop} [Decidable c] {A B : LR} (h1 : c → G6 A) (h2 : ¬ c → G6 B) : G6 (if c then A else B) := by
  by_cases q : c
  · rw [if_pos q]; exact h1 q
  · rw [if_neg q]; exact h2 q
theorem g6_w {a c : Nat} {k : TK} {B : LR} (h2 : G6 B) : G6 (if wf k a c ≠ 0 then .inl (wf k a c, k.2.1) else B) := g6_i (fun q => g6_l ⟨by show 0 < wf k a c; omega, by show wf k a c < 7; have := wf_4 k a c; omega⟩) (fun _ => h2)
theorem g6_b {c d : Nat} {Z : LR} (h : G6 Z) : G6 (lbg T c d tk Z) := g6_i (fun q => g6_l ⟨by show 0 < lb T c d; omega, by
  show lb T c d < 7
  unfold lb
  by_cases e : c = d
  · rw [if_pos e]; omega
  · rw [if_neg e]
    by_cases z : tP T = 0
    · rw [if_pos z]; omega
    · rw [if_neg z]; omega⟩) (fun _ => h)
theorem g6_ln (b : Nat → Nat) (n : Nat) (T : TS) (tk : TK) : G6 (ln b n T tk) := by
  have s1 : (0 : Nat) < 1 ∧ 1 < 7 := by omega
  have s3 : (0 : Nat) < 3 ∧ 3 < 7 := by omega
  have c1 : ∀ k, G6 (lH b n T k) := fun k => g6_w (g6_i (fun _ => g6_l s3) (fun _ => g6_w (g6_i (fun _ => g6_l s3) (fun _ => g6_i (fun _ => g6_l s1) (fun _ => g6_r)))))
  have c2 : ∀ su k, G6 (lW b n su T k) := fun su k => g6_w (g6_w (g6_i (fun _ => g6_l s3) (fun _ => g6_w g6_r)))
  have c3 : ∀ k, G6 (lR b n T k) := fun k => g6_w (by cases mo b (nt b n k) with | none => exact g6_l s1 | some w => exact g6_r)
  have c4 : ∀ k, G6 (lS b n T k) := fun k => g6_w (by cases mo b (nt b n k) with | none => exact g6_l s1 | some w => exact g6_i (fun _ => g6_l s3) (fun _ => g6_i (fun _ => g6_l s1) (fun _ => g6_r)))
  have c5 : ∀ k, G6 (lM b n T k) := fun k => g6_i (fun _ => g6_l s3) (fun _ => g6_i (fun _ => g6_l s1) (fun _ => g6_w (g6_i (fun _ => g6_l s1) (fun _ => g6_w g6_r))))
  exact g6_i (fun _ => c5 _) (fun _ => g6_i (fun _ => g6_b (c1 _)) (fun _ => g6_i (fun _ => g6_b (c2 _ _)) (fun _ => g6_i (fun _ => g6_b (c3 _)) (fun _ => g6_i (fun _ => g6_b (c2 _ _)) (fun _ => g6_i (fun _ => g6_b (c4 _)) (fun _ => g6_l s1))))))
theorem rd_inl : ∀ (f : Nat) {T : TS} {tk : TK}, TKV b n tk → TV T → PX T → n < tk.2.1 + f → G6 (rd b n f T tk) := by
  intro f
  induction f with
  | zero => intro T tk h _ _ h1; have := h.2.1; have := h.2.2.1; omega
  | succ f ih =>
    intro T tk hK hV hP h1
    unfold rd
    cases e : ln b n T tk with
    | inl r => exact g6_l (g6_ln b n T tk r e)
    | inr r =>
      obtain ⟨T1, k2⟩ := r
      obtain ⟨q1, q2, q3, q4⟩ := ln_ok hK hV hP e
      refine g6_i (fun _ => g6_r) (fun c1 => g6_i (fun c2 => ?_) (fun _ => g6_l ⟨by show 0 < 1; omega, by show 1 < 7; omega⟩))
      have g := nt_ge b n k2
      have g2 := q3.2.2.2.2.2 c1
      exact ih (nt_v q3) q1 (Or.inr q2) (by omega)
theorem rr_inl (hn : n ≤ 900) (h : rr b n = .inl r) : 0 < r.1 ∧ r.1 < 7 := rd_inl 901 (tok_ok (Nat.zero_le n)) tv_00 px_00 (by omega) r h
theorem rr_inr {T' : TS} {k' : TK} (h : rr b n = .inr (T', k')) : TV T' ∧ 3 ≤ tP T' := rd_ok 901 (tok_ok (Nat.zero_le n)) tv_00 px_00 h
end INL
